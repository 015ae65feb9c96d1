/-! the class's questions, refused and not -/
theorem dv_st_mk {w h : Nat} {mk : Nat → Nat} {e : Nat} (he : e < tb_ne w h) (hm : mk e ≤ 2) : dv_st (dv_S w h mk 1) (dv_S w h mk 2) e = mk e := by
  unfold dv_st
  rw [dv_S_bit he, dv_S_bit he]
  have : mk e = 0 ∨ mk e = 1 ∨ mk e = 2 := by omega
  rcases this with z | z | z <;> rw [z] <;> rfl
theorem dv_gA_lt {f : Nat → Bool} : ∀ (L : List Nat) (c : Nat), c < 2 ^ 40 → L.foldl (dv_gA f) c < 2 ^ 40
  | [], c, h => h
  | S :: t, c, h => by
    rw [List.foldl_cons]
    apply dv_gA_lt t
    unfold dv_gA
    split
    · exact dv_and_lt h
    · exact h
theorem dv_gS_lt {f : Nat → Bool} : ∀ (L : List Nat) (c : Nat), c < 2 ^ 40 → (∀ x, x ∈ L → x < 2 ^ 40) → L.foldl (dv_gS f) c < 2 ^ 40
  | [], c, h, _ => h
  | S :: t, c, h, H => by
    rw [List.foldl_cons]
    refine dv_gS_lt t _ ?_ (fun x hx => H x (List.mem_cons_of_mem _ hx))
    unfold dv_gS
    split
    · exact Nat.or_lt_two_pow h (H S (List.mem_cons_self ..))
    · exact h
abbrev tb_allS (w h : Nat) (num : Nat → Int32) (mk : Nat → Nat) : Nat := (dv_loops w h).foldl (dv_gA (tb_fit w h num mk (-1))) (2 ^ tb_ne w h - 1)
abbrev tb_someS (w h : Nat) (num : Nat → Int32) (mk : Nat → Nat) : Nat := (dv_loops w h).foldl (dv_gS (tb_fit w h num mk (-1))) 0
theorem tb_allS_lt {w h : Nat} (hW : tb_W w h) (num : Nat → Int32) (mk : Nat → Nat) : tb_allS w h num mk < 2 ^ 40 := dv_gA_lt _ _ (by
  have : 2 ^ tb_ne w h ≤ 2 ^ 40 := Nat.pow_le_pow_right (by decide) (by have := tb_sizes hW; omega)
  omega)
theorem tb_someS_lt {w h : Nat} (hW : tb_W w h) (num : Nat → Int32) (mk : Nat → Nat) : tb_someS w h num mk < 2 ^ 40 := dv_gS_lt _ _ (by decide) (fun _ hx => dv_loops_lt hW hx)
theorem tb_allS_bit {w h : Nat} {num : Nat → Int32} {mk : Nat → Nat} {e : Nat} (he : e < tb_ne w h) : (tb_allS w h num mk).testBit e = decide (tb_wi w h num mk e = tb_cnt2 w h num mk (-1)) := by
  unfold tb_allS
  rw [dv_gA_bit, Nat.testBit_two_pow_sub_one, decide_eq_true he, Bool.true_and, Bool.eq_iff_iff, decide_eq_true_eq]
  exact tb_with_all.symm
theorem tb_someS_bit {w h : Nat} {num : Nat → Int32} {mk : Nat → Nat} {e : Nat} : (tb_someS w h num mk).testBit e = !decide (tb_wi w h num mk e = 0) := by
  unfold tb_someS
  rw [dv_gS_bit, Nat.zero_testBit, Bool.false_or]
  have := tb_with_0 (f := tb_fit w h num mk (-1)) (L := dv_loops w h) (e := e)
  cases hb : ((dv_loops w h).filter (tb_fit w h num mk (-1))).any (fun S => S.testBit e) with
  | false => rw [decide_eq_true (this.mpr hb)]; rfl
  | true => rw [decide_eq_false (fun q => by rw [this.mp q] at hb; cases hb)]; rfl
theorem tb_cnt2_none {w h : Nat} {num : Nat → Int32} {mk : Nat → Nat} {c : Nat} (hW : tb_W w h) (hc : c < 2 ^ 31) (h0 : num c = -1) : tb_cnt2 w h num mk (nI c) = tb_cnt2 w h num mk (-1) := by
  unfold tb_cnt2
  congr 1
  apply List.filter_congr
  intro S _
  show dv_fits w h num _ _ (nI c) S = dv_fits w h num _ _ (-1) S
  unfold dv_fits
  congr 1
  unfold dv_right
  rw [Bool.eq_iff_iff, tb_allI, tb_allI]
  have hz := tb_sizes hW
  have key : ∀ j, j < tb_nc w h → dv_rightB w h num S (nI c) j = dv_rightB w h num S (-1) j := by
    intro j hj
    unfold dv_rightB
    have e1 : (nI j == (-1 : Int32)) = false := beq_eq_false_iff_ne.mpr (nI_m1 (by omega))
    rw [e1, Bool.false_or]
    by_cases q : nI j = nI c
    · have : j = c := (nI_eq (by omega) hc).mp q
      rw [this, beq_self_eq_true, h0]; rfl
    · rw [beq_eq_false_iff_ne.mpr q, Bool.false_or]
  exact ⟨fun H j hj => by rw [← key j hj]; exact H j hj, fun H j hj => by rw [key j hj]; exact H j hj⟩
set_option maxHeartbeats 4000000 in
theorem c_X5_mark_ok {l : Launch} {G : jq_G} {n : Nat} {ad : Nat → Nat} {X : xs_T} (hn : 21 ≤ n) {w h : Nat} {num : Nat → Int32} {mk : Nat → Nat} (hA : dv_A w h num mk X) {c s : Nat} (hc : c < tb_ne w h) (hs : s ≤ 2) : xs_Ct l G mX5_mark 3 [.ref (ad 0), .int (nI (c)), .int (nI (s))] n ad X (xs_pi (fun r X' => r = nI (mk c) ∧ xs_fr [] [(0, 4), (0, 5)] X X' ∧ dv_A w h num (tb_up mk c s) X')) := by
  have hz := tb_sizes hA.1.1
  have hL := dv_S_lt hA.1.1 mk 1
  have hC := dv_S_lt hA.1.1 mk 2
  have hp : 2 ^ c < 2 ^ 40 := Nat.pow_lt_pow_right (by decide) (by omega)
  have hst := dv_st_mk hc (hA.2.2.2 c hc)
  have hle : ∀ e, e < tb_ne w h → tb_up mk c s e ≤ 2 := by
    intro e he
    unfold tb_up
    split
    · exact hs
    · exact hA.2.2.2 e he
  have y1 : s = 1 → dv_S w h mk 1 ||| 2 ^ c = dv_S w h (tb_up mk c s) 1 := fun q => by rw [dv_S_up (by omega) hc, if_pos q]
  have n1 : s ≠ 1 → bm (fun e => (dv_S w h mk 1).testBit e && !(2 ^ c).testBit e) 40 = dv_S w h (tb_up mk c s) 1 := fun q => by rw [dv_S_up (by omega) hc, if_neg q]
  have y2 : s = 2 → dv_S w h mk 2 ||| 2 ^ c = dv_S w h (tb_up mk c s) 2 := fun q => by rw [dv_S_up (by omega) hc, if_pos q]
  have n2 : s ≠ 2 → bm (fun e => (dv_S w h mk 2).testBit e && !(2 ^ c).testBit e) 40 = dv_S w h (tb_up mk c s) 2 := fun q => by rw [dv_S_up (by omega) hc, if_neg q]
  have h77 : jq_J l G mX5_mark (jq_R 3 0 0) jq_E0 (xs_Ye G n ad (xs_pi (fun r X' => r = nI (mk c) ∧ xs_fr [] [(0, 4), (0, 5)] X X' ∧ dv_A w h num (tb_up mk c s) X'))) 77 [some (.ref (ad 0)), some (.int (nI (c))), some (.int (nI (s))), some (.int (nI (mk c))), some (.long (lN (2 ^ c))), none] [] n ad (xs_mem G ad (xs_sl X 0 4 (lN (dv_S w h (tb_up mk c s) 1)))) 0 0 := by
    have hf : xs_fr [] [(0, 4), (0, 5)] X (xs_sl (xs_sl X 0 4 (lN (dv_S w h (tb_up mk c s) 1))) 0 5 (lN (dv_S w h (tb_up mk c s) 2))) := xs_fr_sl (xs_fr_sl xs_fr_rf (by decide)) (by decide)
    have hfin : dv_A w h num (tb_up mk c s) (xs_sl (xs_sl X 0 4 (lN (dv_S w h (tb_up mk c s) 1))) 0 5 (lN (dv_S w h (tb_up mk c s) 2))) := ⟨dv_fr hA.1 hf, dv_nfr hA.2.1 hf, ⟨(xs_sl_ne (by decide)).trans xs_sl_at, xs_sl_at⟩, hle⟩
    have hcr : (xs_sl X 0 4 (lN (dv_S w h (tb_up mk c s) 1))).2.1 0 5 = lN (dv_S w h mk 2) := (xs_sl_ne (by decide)).trans hA.2.2.1.2
    refine jq_aload_n dX5_mark_77 rfl rfl ?_
    refine jq_iload_n dX5_mark_78 rfl rfl ?_
    refine jq_iconst (v := (nI 2)) dX5_mark_79 (by decide) ?_
    refine jq_neN (tgt := 93) dX5_mark_80 (by decide) ⟨by omega, by omega⟩ (fun c80 => ?_) (fun c80 => ?_)
    · refine jq_aload_n dX5_mark_93 rfl rfl ?_
      refine xq_getL fX5_84 dX5_mark_94 (xs_lt (by decide) hn) (by decide) hcr ?_
      refine jq_lload dX5_mark_97 rfl ?_
      refine jq_ldc2 dX5_mark_99 vX5_91 ?_
      refine jq_lxor dX5_mark_102 ?_
      refine jq_land dX5_mark_103 ?_
      rw [dv_not hC hp, n2 c80]
      refine xq_putL pX5_84 dX5_mark_104 (xs_lt (by decide) hn) (by decide) ?_
      refine jq_iload_n dX5_mark_107 rfl rfl ?_
      exact xq_ireturn dX5_mark_108 rfl rfl (⟨_, rfl, rfl, hf, hfin⟩)
    · refine jq_aload_n dX5_mark_83 rfl rfl ?_
      refine xq_getL fX5_84 dX5_mark_84 (xs_lt (by decide) hn) (by decide) hcr ?_
      refine jq_lload dX5_mark_87 rfl ?_
      refine jq_lor dX5_mark_89 ?_
      rw [fb_orL, y2 c80]
      refine jq_goto (tgt := 104) dX5_mark_90 (by decide) ?_
      refine xq_putL pX5_84 dX5_mark_104 (xs_lt (by decide) hn) (by decide) ?_
      refine jq_iload_n dX5_mark_107 rfl rfl ?_
      exact xq_ireturn dX5_mark_108 rfl rfl (⟨_, rfl, rfl, hf, hfin⟩)
  refine xs_Ct_of (L := [some (.ref (ad 0)), some (.int (nI (c))), some (.int (nI (s))), none, none, none]) rfl (Nat.le_of_ble_eq_true rfl) rfl ?_
  refine jq_aload_n dX5_mark_0 rfl rfl ?_
  refine jq_iload_n dX5_mark_1 rfl rfl ?_
  refine xq_vV dX5_mark_2 kX5_75 (c_X5_requireEdge_ok hn hA.1 hc) (xs_lt (by decide) hn) ⟨rfl, rfl⟩ rfl rfl (Nat.le_of_ble_eq_true rfl) ⟨⟨by decide, by decide⟩, Nat.le_refl _, Nat.le_refl _⟩ ?_
  refine jq_iload_n dX5_mark_5 rfl rfl ?_
  refine jq_eqZ (tgt := 29) dX5_mark_6 (by decide) (by omega) (fun c6 => ?_) (fun c6 => ?_)
  · refine jq_aload_n dX5_mark_29 rfl rfl ?_
    refine xq_getL fX5_80 dX5_mark_30 (xs_lt (by decide) hn) (by decide) hA.2.2.1.1 ?_
    refine jq_aload_n dX5_mark_33 rfl rfl ?_
    refine xq_getL fX5_84 dX5_mark_34 (xs_lt (by decide) hn) (by decide) hA.2.2.1.2 ?_
    refine jq_iload_n dX5_mark_37 rfl rfl ?_
    refine xq_sI dX5_mark_38 kX5_87 (c_X5_stateIn (by omega) (by omega) (by omega)) rfl rfl (Nat.le_of_ble_eq_true rfl) ⟨⟨by decide, by decide⟩, Nat.le_refl _, Nat.le_refl _⟩ ?_
    rw [hst]
    refine jq_istore_n dX5_mark_41 rfl (by decide) rfl rfl ?_
    refine jq_lconst (v := (lN 1)) dX5_mark_42 (by decide) ?_
    refine jq_iload_n dX5_mark_43 rfl rfl ?_
    refine jq_lshl dX5_mark_44 (wb_shl 1 (show c < 64 by omega)) ?_
    rw [Nat.one_mul]
    refine jq_lstore dX5_mark_45 (by decide) rfl rfl ?_
    refine jq_aload_n dX5_mark_47 rfl rfl ?_
    refine jq_iload_n dX5_mark_48 rfl rfl ?_
    refine jq_iconst (v := (nI 1)) dX5_mark_49 (by decide) ?_
    refine jq_neN (tgt := 63) dX5_mark_50 (by decide) ⟨by omega, by omega⟩ (fun c50 => ?_) (fun c50 => ?_)
    · refine jq_aload_n dX5_mark_63 rfl rfl ?_
      refine xq_getL fX5_80 dX5_mark_64 (xs_lt (by decide) hn) (by decide) hA.2.2.1.1 ?_
      refine jq_lload dX5_mark_67 rfl ?_
      refine jq_ldc2 dX5_mark_69 vX5_91 ?_
      refine jq_lxor dX5_mark_72 ?_
      refine jq_land dX5_mark_73 ?_
      rw [dv_not hL hp, n1 c50]
      refine xq_putL pX5_80 dX5_mark_74 (xs_lt (by decide) hn) (by decide) ?_
      exact h77
    · refine jq_aload_n dX5_mark_53 rfl rfl ?_
      refine xq_getL fX5_80 dX5_mark_54 (xs_lt (by decide) hn) (by decide) hA.2.2.1.1 ?_
      refine jq_lload dX5_mark_57 rfl ?_
      refine jq_lor dX5_mark_59 ?_
      rw [fb_orL, y1 c50]
      refine jq_goto (tgt := 74) dX5_mark_60 (by decide) ?_
      refine xq_putL pX5_80 dX5_mark_74 (xs_lt (by decide) hn) (by decide) ?_
      exact h77
  · refine jq_iload_n dX5_mark_9 rfl rfl ?_
    refine jq_iconst (v := (nI 1)) dX5_mark_10 (by decide) ?_
    refine jq_eqN (tgt := 29) dX5_mark_11 (by decide) ⟨by omega, by omega⟩ (fun c11 => ?_) (fun c11 => ?_)
    · refine jq_aload_n dX5_mark_29 rfl rfl ?_
      refine xq_getL fX5_80 dX5_mark_30 (xs_lt (by decide) hn) (by decide) hA.2.2.1.1 ?_
      refine jq_aload_n dX5_mark_33 rfl rfl ?_
      refine xq_getL fX5_84 dX5_mark_34 (xs_lt (by decide) hn) (by decide) hA.2.2.1.2 ?_
      refine jq_iload_n dX5_mark_37 rfl rfl ?_
      refine xq_sI dX5_mark_38 kX5_87 (c_X5_stateIn (by omega) (by omega) (by omega)) rfl rfl (Nat.le_of_ble_eq_true rfl) ⟨⟨by decide, by decide⟩, Nat.le_refl _, Nat.le_refl _⟩ ?_
      rw [hst]
      refine jq_istore_n dX5_mark_41 rfl (by decide) rfl rfl ?_
      refine jq_lconst (v := (lN 1)) dX5_mark_42 (by decide) ?_
      refine jq_iload_n dX5_mark_43 rfl rfl ?_
      refine jq_lshl dX5_mark_44 (wb_shl 1 (show c < 64 by omega)) ?_
      rw [Nat.one_mul]
      refine jq_lstore dX5_mark_45 (by decide) rfl rfl ?_
      refine jq_aload_n dX5_mark_47 rfl rfl ?_
      refine jq_iload_n dX5_mark_48 rfl rfl ?_
      refine jq_iconst (v := (nI 1)) dX5_mark_49 (by decide) ?_
      refine jq_neN (tgt := 63) dX5_mark_50 (by decide) ⟨by omega, by omega⟩ (fun c50 => ?_) (fun c50 => ?_)
      · refine jq_aload_n dX5_mark_63 rfl rfl ?_
        refine xq_getL fX5_80 dX5_mark_64 (xs_lt (by decide) hn) (by decide) hA.2.2.1.1 ?_
        refine jq_lload dX5_mark_67 rfl ?_
        refine jq_ldc2 dX5_mark_69 vX5_91 ?_
        refine jq_lxor dX5_mark_72 ?_
        refine jq_land dX5_mark_73 ?_
        rw [dv_not hL hp, n1 c50]
        refine xq_putL pX5_80 dX5_mark_74 (xs_lt (by decide) hn) (by decide) ?_
        exact h77
      · refine jq_aload_n dX5_mark_53 rfl rfl ?_
        refine xq_getL fX5_80 dX5_mark_54 (xs_lt (by decide) hn) (by decide) hA.2.2.1.1 ?_
        refine jq_lload dX5_mark_57 rfl ?_
        refine jq_lor dX5_mark_59 ?_
        rw [fb_orL, y1 c50]
        refine jq_goto (tgt := 74) dX5_mark_60 (by decide) ?_
        refine xq_putL pX5_80 dX5_mark_74 (xs_lt (by decide) hn) (by decide) ?_
        exact h77
    · refine jq_iload_n dX5_mark_14 rfl rfl ?_
      refine jq_iconst (v := (nI 2)) dX5_mark_15 (by decide) ?_
      refine jq_eqN (tgt := 29) dX5_mark_16 (by decide) ⟨by omega, by omega⟩ (fun c16 => ?_) (fun c16 => ?_)
      · refine jq_aload_n dX5_mark_29 rfl rfl ?_
        refine xq_getL fX5_80 dX5_mark_30 (xs_lt (by decide) hn) (by decide) hA.2.2.1.1 ?_
        refine jq_aload_n dX5_mark_33 rfl rfl ?_
        refine xq_getL fX5_84 dX5_mark_34 (xs_lt (by decide) hn) (by decide) hA.2.2.1.2 ?_
        refine jq_iload_n dX5_mark_37 rfl rfl ?_
        refine xq_sI dX5_mark_38 kX5_87 (c_X5_stateIn (by omega) (by omega) (by omega)) rfl rfl (Nat.le_of_ble_eq_true rfl) ⟨⟨by decide, by decide⟩, Nat.le_refl _, Nat.le_refl _⟩ ?_
        rw [hst]
        refine jq_istore_n dX5_mark_41 rfl (by decide) rfl rfl ?_
        refine jq_lconst (v := (lN 1)) dX5_mark_42 (by decide) ?_
        refine jq_iload_n dX5_mark_43 rfl rfl ?_
        refine jq_lshl dX5_mark_44 (wb_shl 1 (show c < 64 by omega)) ?_
        rw [Nat.one_mul]
        refine jq_lstore dX5_mark_45 (by decide) rfl rfl ?_
        refine jq_aload_n dX5_mark_47 rfl rfl ?_
        refine jq_iload_n dX5_mark_48 rfl rfl ?_
        refine jq_iconst (v := (nI 1)) dX5_mark_49 (by decide) ?_
        refine jq_neN (tgt := 63) dX5_mark_50 (by decide) ⟨by omega, by omega⟩ (fun c50 => ?_) (fun c50 => ?_)
        · refine jq_aload_n dX5_mark_63 rfl rfl ?_
          refine xq_getL fX5_80 dX5_mark_64 (xs_lt (by decide) hn) (by decide) hA.2.2.1.1 ?_
          refine jq_lload dX5_mark_67 rfl ?_
          refine jq_ldc2 dX5_mark_69 vX5_91 ?_
          refine jq_lxor dX5_mark_72 ?_
          refine jq_land dX5_mark_73 ?_
          rw [dv_not hL hp, n1 c50]
          refine xq_putL pX5_80 dX5_mark_74 (xs_lt (by decide) hn) (by decide) ?_
          exact h77
        · refine jq_aload_n dX5_mark_53 rfl rfl ?_
          refine xq_getL fX5_80 dX5_mark_54 (xs_lt (by decide) hn) (by decide) hA.2.2.1.1 ?_
          refine jq_lload dX5_mark_57 rfl ?_
          refine jq_lor dX5_mark_59 ?_
          rw [fb_orL, y1 c50]
          refine jq_goto (tgt := 74) dX5_mark_60 (by decide) ?_
          refine xq_putL pX5_80 dX5_mark_74 (xs_lt (by decide) hn) (by decide) ?_
          exact h77
      · exact absurd hs (by omega)
set_option maxHeartbeats 4000000 in
theorem c_X5_mark_no {l : Launch} {G : jq_G} {n : Nat} {ad : Nat → Nat} {X : xs_T} (hl : l.stackTraces = false) (hn : 21 ≤ n) {w h : Nat} (hT : dv_T w h X) (x v : Int32) (hno : (tb_inB x (tb_ne w h) && tb_stOk v) = false) : xx_Ct l G mX5_mark 7 [.ref (ad 0), .int (x), .int (v)] n ad X (fun _ _ => False) (fun E X' => E = (if tb_inB x (tb_ne w h) = true then jx_nA else jx_nB) ∧ X' = X) := by
  have hz := tb_sizes hT.1
  refine xx_Ct_of (L := [some (.ref (ad 0)), some (.int (x)), some (.int (v)), none, none, none]) rfl (Nat.le_of_ble_eq_true rfl) rfl ?_
  rcases tb_inB_cases x (show tb_ne w h < 2 ^ 31 by omega) with hx | ⟨c, hc, rfl⟩
  · skip
    refine jq_aload_n dX5_mark_0 rfl rfl ?_
    refine jq_iload_n dX5_mark_1 rfl rfl ?_
    exact xx_inv dX5_mark_2 kX5_75 hX5_75 (c_X5_requireEdge_no hl hn hT x hx) (xs_lt (by decide) hn) ⟨rfl, rfl⟩ rfl rfl (by decide) ⟨⟨by decide, by decide⟩, by decide, by decide⟩ (by decide) (fun E X' hE => ⟨hE.1.trans (if_neg (by rw [hx]; decide)).symm, hE.2⟩)
  · have hin := tb_inB_nI hc (show tb_ne w h < 2 ^ 31 by omega)
    rw [hin, Bool.true_and] at hno
    have hthrow : jq_J l G mX5_mark (jq_R 7 1 6) (jx_E []) (xx_Ye G n ad (fun _ _ => False) (fun E X' => E = (if tb_inB (nI c) (tb_ne w h) = true then jx_nA else jx_nB) ∧ X' = X)) 19 [some (.ref (ad 0)), some (.int (nI (c))), some (.int (v)), none, none, none] [] n ad (xs_mem G ad X) 0 0 := xx_throw hl jx_TA rfl jx_s78 dX5_mark_19 dX5_mark_22 dX5_mark_23 dX5_mark_25 dX5_mark_28 (by decide) (by decide) ⟨(if_pos hin).symm, rfl⟩
    refine jq_aload_n dX5_mark_0 rfl rfl ?_
    refine jq_iload_n dX5_mark_1 rfl rfl ?_
    refine xq_vV dX5_mark_2 kX5_75 (c_X5_requireEdge_ok hn hT hc) (xs_lt (by decide) hn) ⟨rfl, rfl⟩ rfl rfl (Nat.le_of_ble_eq_true rfl) ⟨⟨by decide, by decide⟩, by decide, by decide⟩ ?_
    refine jq_iload_n dX5_mark_5 rfl rfl ?_
    refine jq_if_eq (tgt := 29) dX5_mark_6 (by decide) (fun c6 => ?_) (fun c6 => ?_)
    · rw [c6] at hno; exact absurd hno (by decide)
    · refine jq_iload_n dX5_mark_9 rfl rfl ?_
      refine jq_iconst (v := 1) dX5_mark_10 (by decide) ?_
      refine jq_icmp_eq (tgt := 29) dX5_mark_11 (by decide) (fun c11 => ?_) (fun c11 => ?_)
      · rw [c11] at hno; exact absurd hno (by decide)
      · refine jq_iload_n dX5_mark_14 rfl rfl ?_
        refine jq_iconst (v := 2) dX5_mark_15 (by decide) ?_
        refine jq_icmp_eq (tgt := 29) dX5_mark_16 (by decide) (fun c16 => ?_) (fun c16 => ?_)
        · rw [c16] at hno; exact absurd hno (by decide)
        · exact hthrow
set_option maxHeartbeats 4000000 in
theorem c_X5_edgeOf_ok {l : Launch} {G : jq_G} {n : Nat} {ad : Nat → Nat} {X : xs_T} (hn : 21 ≤ n) {w h : Nat} (hT : dv_T w h X) {c s : Nat} (hc : c < tb_nc w h) (hs : s < 4) : xs_Ct l G mX5_edgeOf 2 [.ref (ad 0), .int (nI (c)), .int (nI (s))] n ad X (xs_pd (some (.int (nI (tb_sid w h c s)))) X) := by
  refine xs_Ct_of (L := [some (.ref (ad 0)), some (.int (nI (c))), some (.int (nI (s)))]) rfl (Nat.le_of_ble_eq_true rfl) rfl ?_
  refine jq_aload_n dX5_edgeOf_0 rfl rfl ?_
  refine jq_iload_n dX5_edgeOf_1 rfl rfl ?_
  refine xq_vV dX5_edgeOf_2 kX5_65 (c_X5_requireCell_ok hn hT hc) (xs_lt (by decide) hn) ⟨rfl, rfl⟩ rfl rfl (Nat.le_of_ble_eq_true rfl) ⟨⟨by decide, by decide⟩, Nat.le_refl _, Nat.le_refl _⟩ ?_
  refine jq_iload_n dX5_edgeOf_5 rfl rfl ?_
  refine jq_if_lt (tgt := 14) dX5_edgeOf_6 (by decide) (fun c6 => ?_) (fun c6 => ?_)
  · exact absurd c6 (nI_pos (by omega))
  · refine jq_iload_n dX5_edgeOf_9 rfl rfl ?_
    refine jq_iconst (v := (nI 4)) dX5_edgeOf_10 (by decide) ?_
    refine jq_ltN (tgt := 24) dX5_edgeOf_11 (by decide) ⟨by omega, by omega⟩ (fun c11 => ?_) (fun c11 => ?_)
    · refine jq_aload_n dX5_edgeOf_24 rfl rfl ?_
      refine xq_getR 1 fX5_10 dX5_edgeOf_25 (xs_lt (by decide) hn) (by decide) ?_
      refine jq_iload_n dX5_edgeOf_28 rfl rfl ?_
      refine jq_iload_n dX5_edgeOf_29 rfl rfl ?_
      refine xq_vI dX5_edgeOf_30 kX5_113 (c_X0_edgeAt hn hT hc hs) (xs_lt (by decide) hn) ⟨rfl, rfl⟩ rfl rfl (Nat.le_of_ble_eq_true rfl) ⟨⟨by decide, by decide⟩, Nat.le_refl _, Nat.le_refl _⟩ ?_
      exact xq_ireturn dX5_edgeOf_33 rfl rfl (⟨rfl, rfl⟩)
    · exact absurd c11 (by omega)
set_option maxHeartbeats 4000000 in
theorem c_X5_edgeOf_no {l : Launch} {G : jq_G} {n : Nat} {ad : Nat → Nat} {X : xs_T} (hl : l.stackTraces = false) (hn : 21 ≤ n) {w h : Nat} (hT : dv_T w h X) (x y : Int32) (hno : (tb_inB x (tb_nc w h) && tb_inB y 4) = false) : xx_Ct l G mX5_edgeOf 7 [.ref (ad 0), .int (x), .int (y)] n ad X (fun _ _ => False) (fun E X' => E = jx_nB ∧ X' = X) := by
  have hz := tb_sizes hT.1
  refine xx_Ct_of (L := [some (.ref (ad 0)), some (.int (x)), some (.int (y))]) rfl (Nat.le_of_ble_eq_true rfl) rfl ?_
  rcases tb_inB_cases x (show tb_nc w h < 2 ^ 31 by omega) with hx | ⟨c, hc, rfl⟩
  · skip
    refine jq_aload_n dX5_edgeOf_0 rfl rfl ?_
    refine jq_iload_n dX5_edgeOf_1 rfl rfl ?_
    exact xx_inv dX5_edgeOf_2 kX5_65 hX5_65 (c_X5_requireCell_no hl hn hT x hx) (xs_lt (by decide) hn) ⟨rfl, rfl⟩ rfl rfl (by decide) ⟨⟨by decide, by decide⟩, by decide, by decide⟩ (by decide) (fun E X' hE => hE)
  · have hin := tb_inB_nI hc (show tb_nc w h < 2 ^ 31 by omega)
    rw [hin, Bool.true_and] at hno
    have hthrow : jq_J l G mX5_edgeOf (jq_R 7 1 6) (jx_E []) (xx_Ye G n ad (fun _ _ => False) (fun E X' => E = jx_nB ∧ X' = X)) 14 [some (.ref (ad 0)), some (.int (nI (c))), some (.int (y))] [] n ad (xs_mem G ad X) 0 0 := xx_throw hl jx_TB rfl jx_s110 dX5_edgeOf_14 dX5_edgeOf_17 dX5_edgeOf_18 dX5_edgeOf_20 dX5_edgeOf_23 (by decide) (by decide) ⟨rfl, rfl⟩
    refine jq_aload_n dX5_edgeOf_0 rfl rfl ?_
    refine jq_iload_n dX5_edgeOf_1 rfl rfl ?_
    refine xq_vV dX5_edgeOf_2 kX5_65 (c_X5_requireCell_ok hn hT hc) (xs_lt (by decide) hn) ⟨rfl, rfl⟩ rfl rfl (Nat.le_of_ble_eq_true rfl) ⟨⟨by decide, by decide⟩, by decide, by decide⟩ ?_
    refine jq_iload_n dX5_edgeOf_5 rfl rfl ?_
    refine jq_if_lt (tgt := 14) dX5_edgeOf_6 (by decide) (fun c6 => ?_) (fun c6 => ?_)
    · exact hthrow
    · refine jq_iload_n dX5_edgeOf_9 rfl rfl ?_
      refine jq_iconst (v := (nI 4)) dX5_edgeOf_10 (by decide) ?_
      refine jq_icmp_lt (tgt := 24) dX5_edgeOf_11 (by decide) (fun c11 => ?_) (fun c11 => ?_)
      · exact absurd hno (by unfold tb_inB; rw [decide_eq_true (fa_of_nlt c6), decide_eq_true c11]; decide)
      · exact hthrow
set_option maxHeartbeats 4000000 in
theorem c_X5_follows_ok {l : Launch} {G : jq_G} {n : Nat} {ad : Nat → Nat} {X : xs_T} (hn : 21 ≤ n) {w h : Nat} {num : Nat → Int32} {mk : Nat → Nat} (hA : dv_A w h num mk X) {j : Nat} (hj : j < tb_ne w h) : xs_Ct l G mX5_follows 7 [.ref (ad 0), .int (nI (j))] n ad X (xs_pi (fun v X' => v = nI ((tb_follow w h num mk).1 j) ∧ xs_fr dv_SC dv_FC X X')) := by
  have hz := tb_sizes hA.1.1
  refine xs_Ct_of (L := [some (.ref (ad 0)), some (.int (nI (j)))]) rfl (Nat.le_of_ble_eq_true rfl) rfl ?_
  refine jq_aload_n dX5_follows_0 rfl rfl ?_
  refine jq_iload_n dX5_follows_1 rfl rfl ?_
  refine xq_vV dX5_follows_2 kX5_75 (c_X5_requireEdge_ok hn hA.1 hj) (xs_lt (by decide) hn) ⟨rfl, rfl⟩ rfl rfl (Nat.le_of_ble_eq_true rfl) ⟨⟨by decide, by decide⟩, Nat.le_refl _, Nat.le_refl _⟩ ?_
  refine jq_aload_n dX5_follows_5 rfl rfl ?_
  refine xq_getR 16 fX5_30 dX5_follows_6 (xs_lt (by decide) hn) (by decide) ?_
  refine jq_aload_n dX5_follows_9 rfl rfl ?_
  refine xq_getL fX5_80 dX5_follows_10 (xs_lt (by decide) hn) (by decide) hA.2.2.1.1 ?_
  refine jq_aload_n dX5_follows_13 rfl rfl ?_
  refine xq_getL fX5_84 dX5_follows_14 (xs_lt (by decide) hn) (by decide) hA.2.2.1.2 ?_
  refine xq_rV dX5_follows_17 kX5_93 (c_X2_run hn hA.1 hA.2.1 hA.2.2.2) (xs_lt (by decide) hn) ⟨rfl, rfl⟩ rfl rfl (Nat.le_of_ble_eq_true rfl) ⟨⟨by decide, by decide⟩, Nat.le_refl _, Nat.le_refl _⟩ (fun X17 h17 => ?_)
  obtain ⟨b1, b2, b3⟩ := h17
  have e1 := dv_S_lt hA.1.1 (tb_follow w h num mk).1 1
  have e2 := dv_S_lt hA.1.1 (tb_follow w h num mk).1 2
  refine jq_aload_n dX5_follows_20 rfl rfl ?_
  refine xq_getR 16 fX5_30 dX5_follows_21 (xs_lt (by decide) hn) (by decide) ?_
  refine xq_getL fX5_106 dX5_follows_24 (xs_lt (by decide) hn) (by decide) b2.1.1.1 ?_
  refine jq_aload_n dX5_follows_27 rfl rfl ?_
  refine xq_getR 16 fX5_30 dX5_follows_28 (xs_lt (by decide) hn) (by decide) ?_
  refine xq_getL fX5_107 dX5_follows_31 (xs_lt (by decide) hn) (by decide) b2.1.1.2.1 ?_
  refine jq_iload_n dX5_follows_34 rfl rfl ?_
  refine xq_sI dX5_follows_35 kX5_87 (c_X5_stateIn (by omega) (by omega) (by omega)) rfl rfl (Nat.le_of_ble_eq_true rfl) ⟨⟨by decide, by decide⟩, Nat.le_refl _, Nat.le_refl _⟩ ?_
  rw [dv_st_mk hj (b3 j hj)]
  exact xq_ireturn dX5_follows_38 rfl rfl (⟨_, rfl, rfl, b1⟩)
set_option maxHeartbeats 4000000 in
theorem c_X5_follows_no {l : Launch} {G : jq_G} {n : Nat} {ad : Nat → Nat} {X : xs_T} (hl : l.stackTraces = false) (hn : 21 ≤ n) {w h : Nat} (hT : dv_T w h X) (x : Int32) (hx : tb_inB x (tb_ne w h) = false) : xx_Ct l G mX5_follows 7 [.ref (ad 0), .int (x)] n ad X (fun _ _ => False) (fun E X' => E = jx_nB ∧ X' = X) := by
  refine xx_Ct_of (L := [some (.ref (ad 0)), some (.int (x))]) rfl (Nat.le_of_ble_eq_true rfl) rfl ?_
  refine jq_aload_n dX5_follows_0 rfl rfl ?_
  refine jq_iload_n dX5_follows_1 rfl rfl ?_
  exact xx_inv dX5_follows_2 kX5_75 hX5_75 (c_X5_requireEdge_no hl hn hT x hx) (xs_lt (by decide) hn) ⟨rfl, rfl⟩ rfl rfl (by decide) ⟨⟨by decide, by decide⟩, by decide, by decide⟩ (by decide) (fun E X' hE => hE)
set_option maxHeartbeats 4000000 in
theorem c_X5_roundOf_ok {l : Launch} {G : jq_G} {n : Nat} {ad : Nat → Nat} {X : xs_T} (hn : 21 ≤ n) {w h : Nat} {num : Nat → Int32} {mk : Nat → Nat} (hA : dv_A w h num mk X) {j : Nat} (hj : j < tb_ne w h) : xs_Ct l G mX5_roundOf 7 [.ref (ad 0), .int (nI (j))] n ad X (xs_pi (fun v X' => v = (tb_follow w h num mk).2.1 j ∧ xs_fr dv_SC dv_FC X X')) := by
  have hz := tb_sizes hA.1.1
  have hi : vp_in (nI j) 40 := vp_inN (by omega) (by decide)
  refine xs_Ct_of (L := [some (.ref (ad 0)), some (.int (nI (j)))]) rfl (Nat.le_of_ble_eq_true rfl) rfl ?_
  refine jq_aload_n dX5_roundOf_0 rfl rfl ?_
  refine jq_iload_n dX5_roundOf_1 rfl rfl ?_
  refine xq_vV dX5_roundOf_2 kX5_75 (c_X5_requireEdge_ok hn hA.1 hj) (xs_lt (by decide) hn) ⟨rfl, rfl⟩ rfl rfl (Nat.le_of_ble_eq_true rfl) ⟨⟨by decide, by decide⟩, Nat.le_refl _, Nat.le_refl _⟩ ?_
  refine jq_aload_n dX5_roundOf_5 rfl rfl ?_
  refine xq_getR 16 fX5_30 dX5_roundOf_6 (xs_lt (by decide) hn) (by decide) ?_
  refine jq_aload_n dX5_roundOf_9 rfl rfl ?_
  refine xq_getL fX5_80 dX5_roundOf_10 (xs_lt (by decide) hn) (by decide) hA.2.2.1.1 ?_
  refine jq_aload_n dX5_roundOf_13 rfl rfl ?_
  refine xq_getL fX5_84 dX5_roundOf_14 (xs_lt (by decide) hn) (by decide) hA.2.2.1.2 ?_
  refine xq_rV dX5_roundOf_17 kX5_93 (c_X2_run hn hA.1 hA.2.1 hA.2.2.2) (xs_lt (by decide) hn) ⟨rfl, rfl⟩ rfl rfl (Nat.le_of_ble_eq_true rfl) ⟨⟨by decide, by decide⟩, Nat.le_refl _, Nat.le_refl _⟩ (fun X17 h17 => ?_)
  obtain ⟨b1, b2, b3⟩ := h17
  refine jq_aload_n dX5_roundOf_20 rfl rfl ?_
  refine xq_getR 16 fX5_30 dX5_roundOf_21 (xs_lt (by decide) hn) (by decide) ?_
  refine xq_getR 17 fX5_136 dX5_roundOf_24 (xs_lt (by decide) hn) (by decide) ?_
  refine jq_iload_n dX5_roundOf_27 rfl rfl ?_
  refine xq_iaload dX5_roundOf_28 (xs_lt (by decide) hn) rfl hi (xs_rd (b2.1.2 j hj).1 (by omega)) ?_
  exact xq_ireturn dX5_roundOf_29 rfl rfl (⟨_, rfl, rfl, b1⟩)
set_option maxHeartbeats 4000000 in
theorem c_X5_roundOf_no {l : Launch} {G : jq_G} {n : Nat} {ad : Nat → Nat} {X : xs_T} (hl : l.stackTraces = false) (hn : 21 ≤ n) {w h : Nat} (hT : dv_T w h X) (x : Int32) (hx : tb_inB x (tb_ne w h) = false) : xx_Ct l G mX5_roundOf 7 [.ref (ad 0), .int (x)] n ad X (fun _ _ => False) (fun E X' => E = jx_nB ∧ X' = X) := by
  refine xx_Ct_of (L := [some (.ref (ad 0)), some (.int (x))]) rfl (Nat.le_of_ble_eq_true rfl) rfl ?_
  refine jq_aload_n dX5_roundOf_0 rfl rfl ?_
  refine jq_iload_n dX5_roundOf_1 rfl rfl ?_
  exact xx_inv dX5_roundOf_2 kX5_75 hX5_75 (c_X5_requireEdge_no hl hn hT x hx) (xs_lt (by decide) hn) ⟨rfl, rfl⟩ rfl rfl (by decide) ⟨⟨by decide, by decide⟩, by decide, by decide⟩ (by decide) (fun E X' hE => hE)
set_option maxHeartbeats 4000000 in
theorem c_X5_ruleOf_ok {l : Launch} {G : jq_G} {n : Nat} {ad : Nat → Nat} {X : xs_T} (hn : 21 ≤ n) {w h : Nat} {num : Nat → Int32} {mk : Nat → Nat} (hA : dv_A w h num mk X) {j : Nat} (hj : j < tb_ne w h) : xs_Ct l G mX5_ruleOf 7 [.ref (ad 0), .int (nI (j))] n ad X (xs_pi (fun v X' => v = (tb_follow w h num mk).2.2.1 j ∧ xs_fr dv_SC dv_FC X X')) := by
  have hz := tb_sizes hA.1.1
  have hi : vp_in (nI j) 40 := vp_inN (by omega) (by decide)
  refine xs_Ct_of (L := [some (.ref (ad 0)), some (.int (nI (j)))]) rfl (Nat.le_of_ble_eq_true rfl) rfl ?_
  refine jq_aload_n dX5_ruleOf_0 rfl rfl ?_
  refine jq_iload_n dX5_ruleOf_1 rfl rfl ?_
  refine xq_vV dX5_ruleOf_2 kX5_75 (c_X5_requireEdge_ok hn hA.1 hj) (xs_lt (by decide) hn) ⟨rfl, rfl⟩ rfl rfl (Nat.le_of_ble_eq_true rfl) ⟨⟨by decide, by decide⟩, Nat.le_refl _, Nat.le_refl _⟩ ?_
  refine jq_aload_n dX5_ruleOf_5 rfl rfl ?_
  refine xq_getR 16 fX5_30 dX5_ruleOf_6 (xs_lt (by decide) hn) (by decide) ?_
  refine jq_aload_n dX5_ruleOf_9 rfl rfl ?_
  refine xq_getL fX5_80 dX5_ruleOf_10 (xs_lt (by decide) hn) (by decide) hA.2.2.1.1 ?_
  refine jq_aload_n dX5_ruleOf_13 rfl rfl ?_
  refine xq_getL fX5_84 dX5_ruleOf_14 (xs_lt (by decide) hn) (by decide) hA.2.2.1.2 ?_
  refine xq_rV dX5_ruleOf_17 kX5_93 (c_X2_run hn hA.1 hA.2.1 hA.2.2.2) (xs_lt (by decide) hn) ⟨rfl, rfl⟩ rfl rfl (Nat.le_of_ble_eq_true rfl) ⟨⟨by decide, by decide⟩, Nat.le_refl _, Nat.le_refl _⟩ (fun X17 h17 => ?_)
  obtain ⟨b1, b2, b3⟩ := h17
  refine jq_aload_n dX5_ruleOf_20 rfl rfl ?_
  refine xq_getR 16 fX5_30 dX5_ruleOf_21 (xs_lt (by decide) hn) (by decide) ?_
  refine xq_getR 18 fX5_139 dX5_ruleOf_24 (xs_lt (by decide) hn) (by decide) ?_
  refine jq_iload_n dX5_ruleOf_27 rfl rfl ?_
  refine xq_iaload dX5_ruleOf_28 (xs_lt (by decide) hn) rfl hi (xs_rd (b2.1.2 j hj).2 (by omega)) ?_
  exact xq_ireturn dX5_ruleOf_29 rfl rfl (⟨_, rfl, rfl, b1⟩)
set_option maxHeartbeats 4000000 in
theorem c_X5_ruleOf_no {l : Launch} {G : jq_G} {n : Nat} {ad : Nat → Nat} {X : xs_T} (hl : l.stackTraces = false) (hn : 21 ≤ n) {w h : Nat} (hT : dv_T w h X) (x : Int32) (hx : tb_inB x (tb_ne w h) = false) : xx_Ct l G mX5_ruleOf 7 [.ref (ad 0), .int (x)] n ad X (fun _ _ => False) (fun E X' => E = jx_nB ∧ X' = X) := by
  refine xx_Ct_of (L := [some (.ref (ad 0)), some (.int (x))]) rfl (Nat.le_of_ble_eq_true rfl) rfl ?_
  refine jq_aload_n dX5_ruleOf_0 rfl rfl ?_
  refine jq_iload_n dX5_ruleOf_1 rfl rfl ?_
  exact xx_inv dX5_ruleOf_2 kX5_75 hX5_75 (c_X5_requireEdge_no hl hn hT x hx) (xs_lt (by decide) hn) ⟨rfl, rfl⟩ rfl rfl (by decide) ⟨⟨by decide, by decide⟩, by decide, by decide⟩ (by decide) (fun E X' hE => hE)
set_option maxHeartbeats 4000000 in
theorem c_X5_answers {l : Launch} {G : jq_G} {n : Nat} {ad : Nat → Nat} {X : xs_T} (hn : 21 ≤ n) {w h : Nat} {num : Nat → Int32} {mk : Nat → Nat} (hA : dv_A w h num mk X) (hLC : dv_LC w h X) : xs_Ct l G mX5_answers 22 [.ref (ad 0)] n ad X (xs_pi (fun v X' => v = nI (tb_cnt2 w h num mk (-1)) ∧ xs_fr dv_SL dv_FL X X' ∧ dv_LC w h X')) := by
  refine xs_Ct_of (L := [some (.ref (ad 0))]) rfl (Nat.le_of_ble_eq_true rfl) rfl ?_
  refine jq_aload_n dX5_answers_0 rfl rfl ?_
  refine xq_getR 19 fX5_37 dX5_answers_1 (xs_lt (by decide) hn) (by decide) ?_
  refine jq_aload_n dX5_answers_4 rfl rfl ?_
  refine xq_getL fX5_80 dX5_answers_5 (xs_lt (by decide) hn) (by decide) hA.2.2.1.1 ?_
  refine jq_aload_n dX5_answers_8 rfl rfl ?_
  refine xq_getL fX5_84 dX5_answers_9 (xs_lt (by decide) hn) (by decide) hA.2.2.1.2 ?_
  refine jq_iconst (v := (-1)) dX5_answers_12 (by decide) ?_
  refine xq_rI dX5_answers_13 kX5_157 (c_X3_countAnswers hn hA.1 hA.2.1 hLC (dv_S_lt hA.1.1 mk 1) (dv_S_lt hA.1.1 mk 2) (-1)) (xs_lt (by decide) hn) ⟨rfl, rfl⟩ rfl rfl (Nat.le_of_ble_eq_true rfl) ⟨⟨by decide, by decide⟩, Nat.le_refl _, Nat.le_refl _⟩ (fun v13 X13 h13 => ?_)
  exact xq_ireturn dX5_answers_16 rfl rfl (⟨_, rfl, h13⟩)
set_option maxHeartbeats 4000000 in
theorem c_X5_answer_ok {l : Launch} {G : jq_G} {n : Nat} {ad : Nat → Nat} {X : xs_T} (hn : 21 ≤ n) {w h : Nat} {num : Nat → Int32} {mk : Nat → Nat} (hA : dv_A w h num mk X) (hLC : dv_LC w h X) (a : Int32) (h0 : tb_pk w h num mk a ≠ 0) : xs_Ct l G mX5_answer 23 [.ref (ad 0), .int (a)] n ad X (xs_pl (fun v X' => v = lN (tb_pk w h num mk a) ∧ xs_fr dv_SL dv_FL X X' ∧ dv_LC w h X')) := by
  refine xs_Ct_of (L := [some (.ref (ad 0)), some (.int (a))]) rfl (Nat.le_of_ble_eq_true rfl) rfl ?_
  refine jq_aload_n dX5_answer_0 rfl rfl ?_
  refine jq_iload_n dX5_answer_1 rfl rfl ?_
  refine xq_rL dX5_answer_2 kX5_160 (c_X5_requireAnswer_ok hn hA hLC a h0) (xs_lt (by decide) hn) ⟨rfl, rfl⟩ rfl rfl (Nat.le_of_ble_eq_true rfl) ⟨⟨by decide, by decide⟩, Nat.le_refl _, Nat.le_refl _⟩ (fun v2 X2 h2 => ?_)
  exact xq_lreturn dX5_answer_5 rfl (⟨_, rfl, h2⟩)
set_option maxHeartbeats 4000000 in
theorem c_X5_answer_no {l : Launch} {G : jq_G} {n : Nat} {ad : Nat → Nat} {X : xs_T} (hl : l.stackTraces = false) (hn : 21 ≤ n) {w h : Nat} {num : Nat → Int32} {mk : Nat → Nat} (hA : dv_A w h num mk X) (hLC : dv_LC w h X) (a : Int32) (h0 : tb_pk w h num mk a = 0) : xx_Ct l G mX5_answer 23 [.ref (ad 0), .int (a)] n ad X (fun _ _ => False) (fun E X' => E = jx_nB ∧ xs_fr dv_SL dv_FL X X' ∧ dv_LC w h X') := by
  refine xx_Ct_of (L := [some (.ref (ad 0)), some (.int (a))]) rfl (Nat.le_of_ble_eq_true rfl) rfl ?_
  refine jq_aload_n dX5_answer_0 rfl rfl ?_
  refine jq_iload_n dX5_answer_1 rfl rfl ?_
  exact xx_inv dX5_answer_2 kX5_160 hX5_160 (c_X5_requireAnswer_no hl hn hA hLC a h0) (xs_lt (by decide) hn) ⟨rfl, rfl⟩ rfl rfl (by decide) ⟨⟨by decide, by decide⟩, by decide, by decide⟩ (by decide) (fun E X' hE => hE)
set_option maxHeartbeats 4000000 in
theorem c_X5_isInside_ok {l : Launch} {G : jq_G} {n : Nat} {ad : Nat → Nat} {X : xs_T} (hn : 21 ≤ n) {w h : Nat} {num : Nat → Int32} {mk : Nat → Nat} (hA : dv_A w h num mk X) (hLC : dv_LC w h X) (a : Int32) {c C : Nat} (hc : c < tb_nc w h) (hC : C < 2 ^ tb_nc w h) (h0 : tb_pk w h num mk a ≠ 0) (hPC : tb_pk w h num mk a = dv_bd w h C) : xs_Ct l G mX5_isInside 23 [.ref (ad 0), .int (a), .int (nI (c))] n ad X (xs_pi (fun v X' => v = tb_b (C.testBit c) ∧ xs_fr dv_SL dv_FL X X' ∧ dv_LC w h X')) := by
  have hW := hA.1.1
  have hz := tb_sizes hW
  have hic : vp_in (nI c) 16 := vp_inN (by omega) (by decide)
  have hlt4 := tb_pk_lt hW num mk a
  have hm : tb_pk w h num mk a &&& dv_up w c < 2 ^ 64 := Nat.lt_trans (dv_and_lt hlt4) (by decide)
  have hpc := (pc_main hm).2.1
  have hpar := dv_up_in hW hC hc
  rw [← hPC] at hpar
  refine xs_Ct_of (L := [some (.ref (ad 0)), some (.int (a)), some (.int (nI (c))), none, none]) rfl (Nat.le_of_ble_eq_true rfl) rfl ?_
  refine jq_aload_n dX5_isInside_0 rfl rfl ?_
  refine jq_iload_n dX5_isInside_1 rfl rfl ?_
  refine xq_rL dX5_isInside_2 kX5_160 (c_X5_requireAnswer_ok hn hA hLC a h0) (xs_lt (by decide) hn) ⟨rfl, rfl⟩ rfl rfl (Nat.le_of_ble_eq_true rfl) ⟨⟨by decide, by decide⟩, Nat.le_refl _, Nat.le_refl _⟩ (fun v2 X2 h2 => ?_)
  obtain ⟨a1, a2, a3⟩ := h2
  subst a1
  have hA1 := dv_afr hA a2
  refine jq_lstore_n dX5_isInside_5 rfl (by decide) rfl rfl ?_
  refine jq_aload_n dX5_isInside_6 rfl rfl ?_
  refine jq_iload_n dX5_isInside_7 rfl rfl ?_
  refine xq_vV dX5_isInside_8 kX5_65 (c_X5_requireCell_ok hn hA1.1 hc) (xs_lt (by decide) hn) ⟨rfl, rfl⟩ rfl rfl (Nat.le_of_ble_eq_true rfl) ⟨⟨by decide, by decide⟩, Nat.le_refl _, Nat.le_refl _⟩ ?_
  refine jq_lload_n dX5_isInside_11 rfl rfl ?_
  refine jq_aload_n dX5_isInside_12 rfl rfl ?_
  refine xq_getR 1 fX5_10 dX5_isInside_13 (xs_lt (by decide) hn) (by decide) ?_
  refine xq_getR 10 fX5_164 dX5_isInside_16 (xs_lt (by decide) hn) (by decide) ?_
  refine jq_iload_n dX5_isInside_19 rfl rfl ?_
  refine xq_laload dX5_isInside_20 (xs_lt (by decide) hn) rfl hic (xs_rdL (hA1.1.2.2.2.2.2 c hc).2 (by omega)) ?_
  refine jq_land dX5_isInside_21 ?_
  rw [fb_andL]
  refine xq_sI dX5_isInside_22 kX5_100 (c_bitCount hm) rfl rfl (Nat.le_of_ble_eq_true rfl) ⟨⟨by decide, by decide⟩, Nat.le_refl _, Nat.le_refl _⟩ ?_
  refine jq_iconst (v := (nI 2)) dX5_isInside_25 (by decide) ?_
  refine jq_iremN dX5_isInside_26 (⟨by omega, by omega, by omega⟩) ?_
  refine jq_iconst (v := (nI 1)) dX5_isInside_27 (by decide) ?_
  refine jq_neN (tgt := 35) dX5_isInside_28 (by decide) ⟨by omega, by omega⟩ (fun c28 => ?_) (fun c28 => ?_)
  · refine jq_iconst (v := 0) dX5_isInside_35 (by decide) ?_
    first
      | exact xq_ireturn dX5_isInside_36 rfl rfl ⟨_, rfl, by rw [c28] at hpar; revert hpar; cases C.testBit c <;> decide, a2, a3⟩
      | exact xq_ireturn dX5_isInside_36 rfl rfl ⟨_, rfl, by rw [hpar] at c28; revert c28; cases C.testBit c <;> decide, a2, a3⟩
  · refine jq_iconst (v := 1) dX5_isInside_31 (by decide) ?_
    refine jq_goto (tgt := 36) dX5_isInside_32 (by decide) ?_
    first
      | exact xq_ireturn dX5_isInside_36 rfl rfl ⟨_, rfl, by rw [c28] at hpar; revert hpar; cases C.testBit c <;> decide, a2, a3⟩
      | exact xq_ireturn dX5_isInside_36 rfl rfl ⟨_, rfl, by rw [hpar] at c28; revert c28; cases C.testBit c <;> decide, a2, a3⟩
set_option maxHeartbeats 4000000 in
theorem c_X5_isInside_no {l : Launch} {G : jq_G} {n : Nat} {ad : Nat → Nat} {X : xs_T} (hl : l.stackTraces = false) (hn : 21 ≤ n) {w h : Nat} {num : Nat → Int32} {mk : Nat → Nat} (hA : dv_A w h num mk X) (hLC : dv_LC w h X) (a x : Int32) (hno : tb_pk w h num mk a = 0 ∨ tb_inB x (tb_nc w h) = false) : xx_Ct l G mX5_isInside 23 [.ref (ad 0), .int (a), .int (x)] n ad X (fun _ _ => False) (fun E X' => E = jx_nB ∧ xs_fr dv_SL dv_FL X X' ∧ dv_LC w h X') := by
  refine xx_Ct_of (L := [some (.ref (ad 0)), some (.int (a)), some (.int (x)), none, none]) rfl (Nat.le_of_ble_eq_true rfl) rfl ?_
  by_cases h0 : tb_pk w h num mk a = 0
  · skip
    refine jq_aload_n dX5_isInside_0 rfl rfl ?_
    refine jq_iload_n dX5_isInside_1 rfl rfl ?_
    exact xx_inv dX5_isInside_2 kX5_160 hX5_160 (c_X5_requireAnswer_no hl hn hA hLC a h0) (xs_lt (by decide) hn) ⟨rfl, rfl⟩ rfl rfl (by decide) ⟨⟨by decide, by decide⟩, by decide, by decide⟩ (by decide) (fun E X' hE => hE)
  · have hx := hno.resolve_left h0
    refine jq_aload_n dX5_isInside_0 rfl rfl ?_
    refine jq_iload_n dX5_isInside_1 rfl rfl ?_
    refine xq_rL dX5_isInside_2 kX5_160 (c_X5_requireAnswer_ok hn hA hLC a h0) (xs_lt (by decide) hn) ⟨rfl, rfl⟩ rfl rfl (Nat.le_of_ble_eq_true rfl) ⟨⟨by decide, by decide⟩, by decide, by decide⟩ (fun v2 X2 h2 => ?_)
    obtain ⟨a1, a2, a3⟩ := h2
    subst a1
    have hA1 := dv_afr hA a2
    refine jq_lstore_n dX5_isInside_5 rfl (by decide) rfl rfl ?_
    refine jq_aload_n dX5_isInside_6 rfl rfl ?_
    refine jq_iload_n dX5_isInside_7 rfl rfl ?_
    exact xx_inv dX5_isInside_8 kX5_65 hX5_65 (c_X5_requireCell_no hl hn hA1.1 x hx) (xs_lt (by decide) hn) ⟨rfl, rfl⟩ rfl rfl (by decide) ⟨⟨by decide, by decide⟩, by decide, by decide⟩ (by decide) (fun E X' hE => ⟨hE.1, by rw [hE.2]; exact a2, by rw [hE.2]; exact a3⟩)
set_option maxHeartbeats 4000000 in
theorem c_X5_proved_ok {l : Launch} {G : jq_G} {n : Nat} {ad : Nat → Nat} {X : xs_T} (hn : 21 ≤ n) {w h : Nat} {num : Nat → Int32} {mk : Nat → Nat} (hA : dv_A w h num mk X) (hLC : dv_LC w h X) {e : Nat} (he : e < tb_ne w h) (h0 : 0 < tb_cnt2 w h num mk (-1)) : xs_Ct l G mX5_proved 23 [.ref (ad 0), .int (nI (e))] n ad X (xs_pi (fun v X' => v = nI (tb_prv w h num mk e) ∧ xs_fr dv_SL dv_FL X X' ∧ dv_LC w h X')) := by
  have hW := hA.1.1
  have hz := tb_sizes hW
  have hal : tb_allS w h num mk < 2 ^ 63 := Nat.lt_trans (tb_allS_lt hW num mk) (by decide)
  have hso : tb_someS w h num mk < 2 ^ 63 := Nat.lt_trans (tb_someS_lt hW num mk) (by decide)
  have hab := tb_allS_bit (num := num) (mk := mk) he
  have hsb := tb_someS_bit (w := w) (h := h) (num := num) (mk := mk) (e := e)
  refine xs_Ct_of (L := [some (.ref (ad 0)), some (.int (nI (e)))]) rfl (Nat.le_of_ble_eq_true rfl) rfl ?_
  refine jq_aload_n dX5_proved_0 rfl rfl ?_
  refine jq_iload_n dX5_proved_1 rfl rfl ?_
  refine xq_vV dX5_proved_2 kX5_75 (c_X5_requireEdge_ok hn hA.1 he) (xs_lt (by decide) hn) ⟨rfl, rfl⟩ rfl rfl (Nat.le_of_ble_eq_true rfl) ⟨⟨by decide, by decide⟩, Nat.le_refl _, Nat.le_refl _⟩ ?_
  refine jq_aload_n dX5_proved_5 rfl rfl ?_
  refine xq_rV dX5_proved_6 kX5_168 (c_X5_requireSomeAnswer_ok hn hA hLC (by omega)) (xs_lt (by decide) hn) ⟨rfl, rfl⟩ rfl rfl (Nat.le_of_ble_eq_true rfl) ⟨⟨by decide, by decide⟩, Nat.le_refl _, Nat.le_refl _⟩ (fun X6 h6 => ?_)
  obtain ⟨a2, a3⟩ := h6
  have hA1 := dv_afr hA a2
  refine jq_aload_n dX5_proved_9 rfl rfl ?_
  refine xq_getR 19 fX5_37 dX5_proved_10 (xs_lt (by decide) hn) (by decide) ?_
  refine jq_aload_n dX5_proved_13 rfl rfl ?_
  refine xq_getL fX5_80 dX5_proved_14 (xs_lt (by decide) hn) (by decide) hA1.2.2.1.1 ?_
  refine jq_aload_n dX5_proved_17 rfl rfl ?_
  refine xq_getL fX5_84 dX5_proved_18 (xs_lt (by decide) hn) (by decide) hA1.2.2.1.2 ?_
  refine xq_rL dX5_proved_21 kX5_171 (c_X3_linesOfAll hn hA1.1 hA1.2.1 a3 (dv_S_lt hW mk 1) (dv_S_lt hW mk 2)) (xs_lt (by decide) hn) ⟨rfl, rfl⟩ rfl rfl (Nat.le_of_ble_eq_true rfl) ⟨⟨by decide, by decide⟩, Nat.le_refl _, Nat.le_refl _⟩ (fun v21 X21 h21 => ?_)
  obtain ⟨b1, b2, b3⟩ := h21
  change v21 = lN (tb_allS w h num mk) at b1
  subst b1
  have hA2 := dv_afr hA1 b2
  refine jq_iload_n dX5_proved_24 rfl rfl ?_
  refine xq_sI dX5_proved_25 kX5_154 (c_X5_has hal (by omega)) rfl rfl (Nat.le_of_ble_eq_true rfl) ⟨⟨by decide, by decide⟩, Nat.le_refl _, Nat.le_refl _⟩ ?_
  rw [hab]
  refine jq_if_eq (tgt := 33) dX5_proved_28 (by decide) (fun c28 => ?_) (fun c28 => ?_)
  · have d28 := tb_b0.mp c28
    refine jq_aload_n dX5_proved_33 rfl rfl ?_
    refine xq_getR 19 fX5_37 dX5_proved_34 (xs_lt (by decide) hn) (by decide) ?_
    refine jq_aload_n dX5_proved_37 rfl rfl ?_
    refine xq_getL fX5_80 dX5_proved_38 (xs_lt (by decide) hn) (by decide) hA2.2.2.1.1 ?_
    refine jq_aload_n dX5_proved_41 rfl rfl ?_
    refine xq_getL fX5_84 dX5_proved_42 (xs_lt (by decide) hn) (by decide) hA2.2.2.1.2 ?_
    refine xq_rL dX5_proved_45 kX5_175 (c_X3_linesOfSome hn hA2.1 hA2.2.1 b3 (dv_S_lt hW mk 1) (dv_S_lt hW mk 2)) (xs_lt (by decide) hn) ⟨rfl, rfl⟩ rfl rfl (Nat.le_of_ble_eq_true rfl) ⟨⟨by decide, by decide⟩, Nat.le_refl _, Nat.le_refl _⟩ (fun v45 X45 h45 => ?_)
    obtain ⟨e1, e2, e3⟩ := h45
    change v45 = lN (tb_someS w h num mk) at e1
    subst e1
    refine jq_iload_n dX5_proved_48 rfl rfl ?_
    refine xq_sI dX5_proved_49 kX5_154 (c_X5_has hso (by omega)) rfl rfl (Nat.le_of_ble_eq_true rfl) ⟨⟨by decide, by decide⟩, Nat.le_refl _, Nat.le_refl _⟩ ?_
    rw [hsb]
    refine jq_if_eq (tgt := 59) dX5_proved_52 (by decide) (fun c52 => ?_) (fun c52 => ?_)
    · have d52 := tb_b0.mp c52
      refine jq_iconst (v := (nI 2)) dX5_proved_59 (by decide) ?_
      refine xq_ireturn dX5_proved_60 rfl rfl ⟨_, rfl, ?_, xs_fr_tr (xs_fr_tr a2 b2) e2, e3⟩
      unfold tb_prv
      rw [if_neg (of_decide_eq_false d28)]
      first
        | rw [if_pos (by simpa using d52)]
        | rw [if_neg (by simpa using d52)]
    · have d52 := tb_b1.mp c52
      refine jq_iconst (v := (nI 0)) dX5_proved_55 (by decide) ?_
      refine jq_goto (tgt := 60) dX5_proved_56 (by decide) ?_
      refine xq_ireturn dX5_proved_60 rfl rfl ⟨_, rfl, ?_, xs_fr_tr (xs_fr_tr a2 b2) e2, e3⟩
      unfold tb_prv
      rw [if_neg (of_decide_eq_false d28)]
      first
        | rw [if_pos (by simpa using d52)]
        | rw [if_neg (by simpa using d52)]
  · have d28 := tb_b1.mp c28
    refine jq_iconst (v := (nI 1)) dX5_proved_31 (by decide) ?_
    exact xq_ireturn dX5_proved_32 rfl rfl (⟨_, rfl, by unfold tb_prv; rw [if_pos (of_decide_eq_true d28)], xs_fr_tr a2 b2, b3⟩)
set_option maxHeartbeats 4000000 in
theorem c_X5_proved_no {l : Launch} {G : jq_G} {n : Nat} {ad : Nat → Nat} {X : xs_T} (hl : l.stackTraces = false) (hn : 21 ≤ n) {w h : Nat} {num : Nat → Int32} {mk : Nat → Nat} (hA : dv_A w h num mk X) (hLC : dv_LC w h X) (x : Int32) (hno : (tb_inB x (tb_ne w h) && decide (0 < tb_cnt2 w h num mk (-1))) = false) : xx_Ct l G mX5_proved 23 [.ref (ad 0), .int (x)] n ad X (fun _ _ => False) (fun E X' => E = (if tb_inB x (tb_ne w h) = true then jx_nS else jx_nB) ∧ xs_fr dv_SL dv_FL X X' ∧ dv_LC w h X') := by
  have hz := tb_sizes hA.1.1
  refine xx_Ct_of (L := [some (.ref (ad 0)), some (.int (x))]) rfl (Nat.le_of_ble_eq_true rfl) rfl ?_
  rcases tb_inB_cases x (show tb_ne w h < 2 ^ 31 by omega) with hx | ⟨c, hc, rfl⟩
  · skip
    refine jq_aload_n dX5_proved_0 rfl rfl ?_
    refine jq_iload_n dX5_proved_1 rfl rfl ?_
    exact xx_inv dX5_proved_2 kX5_75 hX5_75 (c_X5_requireEdge_no hl hn hA.1 x hx) (xs_lt (by decide) hn) ⟨rfl, rfl⟩ rfl rfl (by decide) ⟨⟨by decide, by decide⟩, by decide, by decide⟩ (by decide) (fun E X' hE => ⟨hE.1.trans (if_neg (by rw [hx]; decide)).symm, by rw [hE.2]; exact xs_fr_rf, by rw [hE.2]; exact hLC⟩)
  · have hin := tb_inB_nI hc (show tb_ne w h < 2 ^ 31 by omega)
    rw [hin, Bool.true_and] at hno
    have h0 := of_decide_eq_false hno
    refine jq_aload_n dX5_proved_0 rfl rfl ?_
    refine jq_iload_n dX5_proved_1 rfl rfl ?_
    refine xq_vV dX5_proved_2 kX5_75 (c_X5_requireEdge_ok hn hA.1 hc) (xs_lt (by decide) hn) ⟨rfl, rfl⟩ rfl rfl (Nat.le_of_ble_eq_true rfl) ⟨⟨by decide, by decide⟩, by decide, by decide⟩ ?_
    refine jq_aload_n dX5_proved_5 rfl rfl ?_
    exact xx_inv dX5_proved_6 kX5_168 hX5_168 (c_X5_requireSomeAnswer_no hl hn hA hLC (by omega)) (xs_lt (by decide) hn) ⟨rfl, rfl⟩ rfl rfl (by decide) ⟨⟨by decide, by decide⟩, by decide, by decide⟩ (by decide) (fun E X' hE => ⟨hE.1.trans (if_pos hin).symm, hE.2⟩)
theorem fb_ct_cut {p : Nat → Bool} {m n : Nat} (hmn : m ≤ n) (h : ∀ k, m ≤ k → k < n → p k = false) : fb_ct p n = fb_ct p m := by
  have := fb_ct_split p m (n - m)
  rw [show m + (n - m) = n by omega, fb_ct_zero.mpr (fun k hk => h (m + k) (by omega) (by omega)), Nat.add_zero] at this
  exact this
set_option maxHeartbeats 4000000 in
theorem c_X5_beyondRules_ok {l : Launch} {G : jq_G} {n : Nat} {ad : Nat → Nat} {X : xs_T} (hn : 21 ≤ n) {w h : Nat} {num : Nat → Int32} {mk : Nat → Nat} (hA : dv_A w h num mk X) (hLC : dv_LC w h X) (h0 : 0 < tb_cnt2 w h num mk (-1)) : xs_Ct l G mX5_beyondRules 23 [.ref (ad 0)] n ad X (xs_pi (fun v X' => v = nI (tb_bey w h num mk) ∧ xs_fr (20 :: dv_SC) ((19, 2) :: (19, 3) :: dv_FC) X X' ∧ dv_LC w h X')) := by
  have hW := hA.1.1
  have hz := tb_sizes hW
  have hal := tb_allS_lt hW num mk
  have hso := tb_someS_lt hW num mk
  have hpw : 2 ^ tb_ne w h ≤ 2 ^ 40 := Nat.pow_le_pow_right (by decide) hz.2.2.2.2.2.1
  have hone : 2 ^ tb_ne w h - 1 < 2 ^ 40 := by have := Nat.two_pow_pos (tb_ne w h); omega
  have hS1 := dv_S_lt hW (tb_follow w h num mk).1 1
  have hS2 := dv_S_lt hW (tb_follow w h num mk).1 2
  refine xs_Ct_of (L := [some (.ref (ad 0)), none, none]) rfl (Nat.le_of_ble_eq_true rfl) rfl ?_
  refine jq_aload_n dX5_beyondRules_0 rfl rfl ?_
  refine xq_rV dX5_beyondRules_1 kX5_168 (c_X5_requireSomeAnswer_ok hn hA hLC (by omega)) (xs_lt (by decide) hn) ⟨rfl, rfl⟩ rfl rfl (Nat.le_of_ble_eq_true rfl) ⟨⟨by decide, by decide⟩, Nat.le_refl _, Nat.le_refl _⟩ (fun X1 h1 => ?_)
  obtain ⟨a2, a3⟩ := h1
  have hA1 := dv_afr hA a2
  refine jq_aload_n dX5_beyondRules_4 rfl rfl ?_
  refine xq_getR 19 fX5_37 dX5_beyondRules_5 (xs_lt (by decide) hn) (by decide) ?_
  refine jq_aload_n dX5_beyondRules_8 rfl rfl ?_
  refine xq_getL fX5_80 dX5_beyondRules_9 (xs_lt (by decide) hn) (by decide) hA1.2.2.1.1 ?_
  refine jq_aload_n dX5_beyondRules_12 rfl rfl ?_
  refine xq_getL fX5_84 dX5_beyondRules_13 (xs_lt (by decide) hn) (by decide) hA1.2.2.1.2 ?_
  refine xq_rL dX5_beyondRules_16 kX5_175 (c_X3_linesOfSome hn hA1.1 hA1.2.1 a3 (dv_S_lt hW mk 1) (dv_S_lt hW mk 2)) (xs_lt (by decide) hn) ⟨rfl, rfl⟩ rfl rfl (Nat.le_of_ble_eq_true rfl) ⟨⟨by decide, by decide⟩, Nat.le_refl _, Nat.le_refl _⟩ (fun v16 X16 h16 => ?_)
  obtain ⟨b1, b2, b3⟩ := h16
  change v16 = lN (tb_someS w h num mk) at b1
  subst b1
  have hA2 := dv_afr hA1 b2
  refine jq_aload_n dX5_beyondRules_19 rfl rfl ?_
  refine xq_getR 19 fX5_37 dX5_beyondRules_20 (xs_lt (by decide) hn) (by decide) ?_
  refine jq_aload_n dX5_beyondRules_23 rfl rfl ?_
  refine xq_getL fX5_80 dX5_beyondRules_24 (xs_lt (by decide) hn) (by decide) hA2.2.2.1.1 ?_
  refine jq_aload_n dX5_beyondRules_27 rfl rfl ?_
  refine xq_getL fX5_84 dX5_beyondRules_28 (xs_lt (by decide) hn) (by decide) hA2.2.2.1.2 ?_
  refine xq_rL dX5_beyondRules_31 kX5_171 (c_X3_linesOfAll hn hA2.1 hA2.2.1 b3 (dv_S_lt hW mk 1) (dv_S_lt hW mk 2)) (xs_lt (by decide) hn) ⟨rfl, rfl⟩ rfl rfl (Nat.le_of_ble_eq_true rfl) ⟨⟨by decide, by decide⟩, Nat.le_refl _, Nat.le_refl _⟩ (fun v31 X31 h31 => ?_)
  obtain ⟨e1, e2, e3⟩ := h31
  change v31 = lN (tb_allS w h num mk) at e1
  subst e1
  have hA3 := dv_afr hA2 e2
  refine jq_ldc2 dX5_beyondRules_34 vX5_91 ?_
  refine jq_lxor dX5_beyondRules_37 ?_
  refine jq_land dX5_beyondRules_38 ?_
  rw [dv_not hso hal]
  refine jq_lstore_n dX5_beyondRules_39 rfl (by decide) rfl rfl ?_
  refine jq_aload_n dX5_beyondRules_40 rfl rfl ?_
  refine xq_getR 16 fX5_30 dX5_beyondRules_41 (xs_lt (by decide) hn) (by decide) ?_
  refine jq_aload_n dX5_beyondRules_44 rfl rfl ?_
  refine xq_getL fX5_80 dX5_beyondRules_45 (xs_lt (by decide) hn) (by decide) hA3.2.2.1.1 ?_
  refine jq_aload_n dX5_beyondRules_48 rfl rfl ?_
  refine xq_getL fX5_84 dX5_beyondRules_49 (xs_lt (by decide) hn) (by decide) hA3.2.2.1.2 ?_
  refine xq_rV dX5_beyondRules_52 kX5_93 (c_X2_run hn hA3.1 hA3.2.1 hA3.2.2.2) (xs_lt (by decide) hn) ⟨rfl, rfl⟩ rfl rfl (Nat.le_of_ble_eq_true rfl) ⟨⟨by decide, by decide⟩, Nat.le_refl _, Nat.le_refl _⟩ (fun X52 h52 => ?_)
  obtain ⟨g1, g2, g3⟩ := h52
  have hT4 := dv_fr hA3.1 g1
  refine jq_aload_n dX5_beyondRules_55 rfl rfl ?_
  refine xq_getR 1 fX5_10 dX5_beyondRules_56 (xs_lt (by decide) hn) (by decide) ?_
  refine xq_getL fX5_178 dX5_beyondRules_59 (xs_lt (by decide) hn) (by decide) hT4.2.1.2.2.2.2.2.2 ?_
  refine jq_lload_n dX5_beyondRules_62 rfl rfl ?_
  refine jq_ldc2 dX5_beyondRules_63 vX5_91 ?_
  refine jq_lxor dX5_beyondRules_66 ?_
  refine jq_land dX5_beyondRules_67 ?_
  rw [dv_not hone (bm_lt _ _)]
  refine jq_aload_n dX5_beyondRules_68 rfl rfl ?_
  refine xq_getR 16 fX5_30 dX5_beyondRules_69 (xs_lt (by decide) hn) (by decide) ?_
  refine xq_getL fX5_106 dX5_beyondRules_72 (xs_lt (by decide) hn) (by decide) g2.1.1.1 ?_
  refine jq_ldc2 dX5_beyondRules_75 vX5_91 ?_
  refine jq_lxor dX5_beyondRules_78 ?_
  refine jq_land dX5_beyondRules_79 ?_
  rw [dv_not (bm_lt _ _) hS1]
  refine jq_aload_n dX5_beyondRules_80 rfl rfl ?_
  refine xq_getR 16 fX5_30 dX5_beyondRules_81 (xs_lt (by decide) hn) (by decide) ?_
  refine xq_getL fX5_107 dX5_beyondRules_84 (xs_lt (by decide) hn) (by decide) g2.1.1.2.1 ?_
  refine jq_ldc2 dX5_beyondRules_87 vX5_91 ?_
  refine jq_lxor dX5_beyondRules_90 ?_
  refine jq_land dX5_beyondRules_91 ?_
  rw [dv_not (bm_lt _ _) hS2]
  refine xq_sI dX5_beyondRules_92 kX5_100 (c_bitCount (Nat.lt_trans (bm_lt _ _) (by decide))) rfl rfl (Nat.le_of_ble_eq_true rfl) ⟨⟨by decide, by decide⟩, Nat.le_refl _, Nat.le_refl _⟩ ?_
  refine xq_ireturn dX5_beyondRules_95 rfl rfl ⟨_, rfl, ?_, xs_fr_tr (xs_fr_mo (xs_fr_tr (xs_fr_tr a2 b2) e2) (by decide)) (xs_fr_mo g1 (by decide)), e3.imp (fun q => xs_fi g1 19 3 q) (fun q => ⟨xs_fi g1 19 3 q.1, dv_lsfr q.2 g1⟩)⟩
  congr 1
  rw [pc_bm _ (by decide)]
  unfold tb_bey
  rw [fb_ct_cut hz.2.2.2.2.2.1 (fun k k1 k2 => ?_)]
  · apply fb_ct_cong
    intro k hk
    have hk40 : k < 40 := by omega
    have h3 := g3 k hk
    simp only [bm_bit, Nat.testBit_two_pow_sub_one, decide_eq_true hk, decide_eq_true hk40, Bool.true_and, dv_S_bit hk, tb_allS_bit hk, tb_someS_bit]
    unfold tb_beyB
    have h4 : (tb_follow w h num mk).1 k = 0 ∨ (tb_follow w h num mk).1 k = 1 ∨ (tb_follow w h num mk).1 k = 2 := by omega
    by_cases q1 : tb_wi w h num mk k = tb_cnt2 w h num mk (-1) <;> by_cases q2 : tb_wi w h num mk k = 0 <;> rcases h4 with z | z | z <;> simp [q1, q2, z]
  · simp only [bm_bit, Nat.testBit_two_pow_sub_one, decide_eq_false (show ¬ k < tb_ne w h by omega), Bool.false_and, Bool.and_false]
set_option maxHeartbeats 4000000 in
theorem c_X5_beyondRules_no {l : Launch} {G : jq_G} {n : Nat} {ad : Nat → Nat} {X : xs_T} (hl : l.stackTraces = false) (hn : 21 ≤ n) {w h : Nat} {num : Nat → Int32} {mk : Nat → Nat} (hA : dv_A w h num mk X) (hLC : dv_LC w h X) (h0 : tb_cnt2 w h num mk (-1) = 0) : xx_Ct l G mX5_beyondRules 23 [.ref (ad 0)] n ad X (fun _ _ => False) (fun E X' => E = jx_nS ∧ xs_fr dv_SL dv_FL X X' ∧ dv_LC w h X') := by
  refine xx_Ct_of (L := [some (.ref (ad 0)), none, none]) rfl (Nat.le_of_ble_eq_true rfl) rfl ?_
  refine jq_aload_n dX5_beyondRules_0 rfl rfl ?_
  exact xx_inv dX5_beyondRules_1 kX5_168 hX5_168 (c_X5_requireSomeAnswer_no hl hn hA hLC h0) (xs_lt (by decide) hn) ⟨rfl, rfl⟩ rfl rfl (by decide) ⟨⟨by decide, by decide⟩, by decide, by decide⟩ (by decide) (fun E X' hE => hE)
set_option maxHeartbeats 4000000 in
theorem c_X5_isNeeded_ok {l : Launch} {G : jq_G} {n : Nat} {ad : Nat → Nat} {X : xs_T} (hn : 21 ≤ n) {w h : Nat} {num : Nat → Int32} {mk : Nat → Nat} (hA : dv_A w h num mk X) (hLC : dv_LC w h X) {c : Nat} (hc : c < tb_nc w h) : xs_Ct l G mX5_isNeeded 23 [.ref (ad 0), .int (nI (c))] n ad X (xs_pi (fun v X' => v = tb_b (!(num c == -1) && decide (tb_cnt2 w h num mk (-1) < tb_cnt2 w h num mk (nI c))) ∧ xs_fr dv_SL dv_FL X X' ∧ dv_LC w h X')) := by
  have hW := hA.1.1
  have hz := tb_sizes hW
  have hle := tb_cnt2_le hW num mk (-1)
  have hle2 := tb_cnt2_le hW num mk (nI c)
  have hnone : num c = -1 → tb_cnt2 w h num mk (nI c) = tb_cnt2 w h num mk (-1) := fun q => tb_cnt2_none hW (by omega) q
  refine xs_Ct_of (L := [some (.ref (ad 0)), some (.int (nI (c)))]) rfl (Nat.le_of_ble_eq_true rfl) rfl ?_
  refine jq_aload_n dX5_isNeeded_0 rfl rfl ?_
  refine jq_iload_n dX5_isNeeded_1 rfl rfl ?_
  refine xq_vV dX5_isNeeded_2 kX5_65 (c_X5_requireCell_ok hn hA.1 hc) (xs_lt (by decide) hn) ⟨rfl, rfl⟩ rfl rfl (Nat.le_of_ble_eq_true rfl) ⟨⟨by decide, by decide⟩, Nat.le_refl _, Nat.le_refl _⟩ ?_
  refine jq_aload_n dX5_isNeeded_5 rfl rfl ?_
  refine xq_getR 19 fX5_37 dX5_isNeeded_6 (xs_lt (by decide) hn) (by decide) ?_
  refine jq_aload_n dX5_isNeeded_9 rfl rfl ?_
  refine xq_getL fX5_80 dX5_isNeeded_10 (xs_lt (by decide) hn) (by decide) hA.2.2.1.1 ?_
  refine jq_aload_n dX5_isNeeded_13 rfl rfl ?_
  refine xq_getL fX5_84 dX5_isNeeded_14 (xs_lt (by decide) hn) (by decide) hA.2.2.1.2 ?_
  refine jq_iload_n dX5_isNeeded_17 rfl rfl ?_
  refine xq_rI dX5_isNeeded_18 kX5_157 (c_X3_countAnswers hn hA.1 hA.2.1 hLC (dv_S_lt hW mk 1) (dv_S_lt hW mk 2) (nI c)) (xs_lt (by decide) hn) ⟨rfl, rfl⟩ rfl rfl (Nat.le_of_ble_eq_true rfl) ⟨⟨by decide, by decide⟩, Nat.le_refl _, Nat.le_refl _⟩ (fun v18 X18 h18 => ?_)
  obtain ⟨a1, a2, a3⟩ := h18
  change v18 = nI (tb_cnt2 w h num mk (nI c)) at a1
  subst a1
  have hA1 := dv_afr hA a2
  refine jq_aload_n dX5_isNeeded_21 rfl rfl ?_
  refine xq_getR 19 fX5_37 dX5_isNeeded_22 (xs_lt (by decide) hn) (by decide) ?_
  refine jq_aload_n dX5_isNeeded_25 rfl rfl ?_
  refine xq_getL fX5_80 dX5_isNeeded_26 (xs_lt (by decide) hn) (by decide) hA1.2.2.1.1 ?_
  refine jq_aload_n dX5_isNeeded_29 rfl rfl ?_
  refine xq_getL fX5_84 dX5_isNeeded_30 (xs_lt (by decide) hn) (by decide) hA1.2.2.1.2 ?_
  refine jq_iconst (v := (-1)) dX5_isNeeded_33 (by decide) ?_
  refine xq_rI dX5_isNeeded_34 kX5_157 (c_X3_countAnswers hn hA1.1 hA1.2.1 a3 (dv_S_lt hW mk 1) (dv_S_lt hW mk 2) (-1)) (xs_lt (by decide) hn) ⟨rfl, rfl⟩ rfl rfl (Nat.le_of_ble_eq_true rfl) ⟨⟨by decide, by decide⟩, Nat.le_refl _, Nat.le_refl _⟩ (fun v34 X34 h34 => ?_)
  obtain ⟨b1, b2, b3⟩ := h34
  change v34 = nI (tb_cnt2 w h num mk (-1)) at b1
  subst b1
  refine jq_leN (tgt := 44) dX5_isNeeded_37 (by decide) ⟨by omega, by omega⟩ (fun c37 => ?_) (fun c37 => ?_)
  · refine jq_iconst (v := 0) dX5_isNeeded_44 (by decide) ?_
    first
      | exact xq_ireturn dX5_isNeeded_45 rfl rfl ⟨_, rfl, by rw [decide_eq_false (by omega), Bool.and_false]; rfl, xs_fr_tr a2 b2, b3⟩
      | exact xq_ireturn dX5_isNeeded_45 rfl rfl ⟨_, rfl, by rw [decide_eq_true (by omega), Bool.and_true, beq_eq_false_iff_ne.mpr (fun q => by have := hnone q; omega)]; rfl, xs_fr_tr a2 b2, b3⟩
  · refine jq_iconst (v := 1) dX5_isNeeded_40 (by decide) ?_
    refine jq_goto (tgt := 45) dX5_isNeeded_41 (by decide) ?_
    first
      | exact xq_ireturn dX5_isNeeded_45 rfl rfl ⟨_, rfl, by rw [decide_eq_false (by omega), Bool.and_false]; rfl, xs_fr_tr a2 b2, b3⟩
      | exact xq_ireturn dX5_isNeeded_45 rfl rfl ⟨_, rfl, by rw [decide_eq_true (by omega), Bool.and_true, beq_eq_false_iff_ne.mpr (fun q => by have := hnone q; omega)]; rfl, xs_fr_tr a2 b2, b3⟩
set_option maxHeartbeats 4000000 in
theorem c_X5_isNeeded_no {l : Launch} {G : jq_G} {n : Nat} {ad : Nat → Nat} {X : xs_T} (hl : l.stackTraces = false) (hn : 21 ≤ n) {w h : Nat} (hT : dv_T w h X) (x : Int32) (hx : tb_inB x (tb_nc w h) = false) : xx_Ct l G mX5_isNeeded 23 [.ref (ad 0), .int (x)] n ad X (fun _ _ => False) (fun E X' => E = jx_nB ∧ X' = X) := by
  refine xx_Ct_of (L := [some (.ref (ad 0)), some (.int (x))]) rfl (Nat.le_of_ble_eq_true rfl) rfl ?_
  refine jq_aload_n dX5_isNeeded_0 rfl rfl ?_
  refine jq_iload_n dX5_isNeeded_1 rfl rfl ?_
  exact xx_inv dX5_isNeeded_2 kX5_65 hX5_65 (c_X5_requireCell_no hl hn hT x hx) (xs_lt (by decide) hn) ⟨rfl, rfl⟩ rfl rfl (by decide) ⟨⟨by decide, by decide⟩, by decide, by decide⟩ (by decide) (fun E X' hE => hE)
