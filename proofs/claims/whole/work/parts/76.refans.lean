/-! the reference's answers -/
set_option maxHeartbeats 8000000 in
theorem c_X6_fits {l : Launch} {G : jq_G} {n : Nat} {ad : Nat → Nat} {X : xs_T} (hn : 39 ≤ n) {w h : Nat} {num : Nat → Int32} {mk : Nat → Nat} (hT : rf_T w h X) (hM : rf_M w h mk X) (hN : rf_N w h num X) {S : Nat} (hS : S < 2 ^ 40) (ig : Int32) : xs_Ct l G mX6_fits 2 [.ref (ad 21), .long (lN S), .int (ig)] n ad X (xs_pd (some (.int (tb_b (tb_fit w h num mk ig S)))) X) := by
  have hW := hT.1
  have hz := tb_sizes hW
  have hR := tb_fit_ref hW (num := num) (fun e he => (hM e he).2) ig S
  have loop2 : ∀ (k c : Nat) (o5 o6 : Option Value), c + k = tb_nc w h → (List.range (tb_ne w h)).all (tb_mfit mk S) = true → (∀ j, j < c → tb_rtB w h num S ig j = true) → jq_J l G mX6_fits (jq_R 2 0 0) jq_E0 (xs_Ye G n ad (xs_pd (some (.int (tb_b (tb_fit w h num mk ig S)))) X)) 58 [some (.ref (ad 21)), some (.long (lN S)), none, some (.int (ig)), some (.int (nI (c))), o5, o6] [] n ad (xs_mem G ad X) 0 0 := by
    intro k
    induction k with
    | zero =>
      intro c o5 o6 hk ha hc
      have hc2 : (List.range (tb_nc w h)).all (tb_rtB w h num S ig) = true := tb_allT (by rw [show tb_nc w h = c by omega]; exact hc)
      refine jq_iload dX6_fits_58 rfl ?_
      refine jq_aload_n dX6_fits_60 rfl rfl ?_
      refine xq_getI fX6_71 dX6_fits_61 (xs_lt (by decide) hn) (by decide) hT.2.2.2.1 ?_
      refine jq_geN (tgt := 151) dX6_fits_64 (by decide) ⟨by omega, by omega⟩ (fun c64 => ?_) (fun c64 => ?_)
      · refine jq_iconst (v := 1) dX6_fits_151 (by decide) ?_
        exact xq_ireturn dX6_fits_152 rfl rfl (⟨tb_vt (by rw [hR, ha, hc2]; rfl), rfl⟩)
      · exact absurd c64 (by omega)
    | succ k ih =>
      intro c o5 o6 hk ha hc
      have hcc : c < tb_nc w h := by omega
      have h3 := hN c hcc
      have hic : vp_in (nI c) 16 := vp_inN (by omega) (by decide)
      have hgo : tb_rtB w h num S ig c = true → ∀ j, j < c + 1 → tb_rtB w h num S ig j = true := by
        intro q j hj
        rcases Nat.lt_or_ge j c with z | z
        · exact hc j z
        · rw [show j = c by omega]; exact q
      have h114 : ∀ (o6 : Option Value), jq_J l G mX6_fits (jq_R 2 0 0) jq_E0 (xs_Ye G n ad (xs_pd (some (.int (tb_b (tb_fit w h num mk ig S)))) X)) 114 [some (.ref (ad 21)), some (.long (lN S)), none, some (.int (ig)), some (.int (nI (c))), some (.int (nI (tb_sct w h S c 4))), o6] [] n ad (xs_mem G ad X) 0 0 := by
        intro o6
        refine jq_aload_n dX6_fits_114 rfl rfl ?_
        refine xq_getR 27 fX6_25 dX6_fits_115 (xs_lt (by decide) hn) (by decide) ?_
        refine jq_iload dX6_fits_118 rfl ?_
        refine xq_iaload dX6_fits_120 (xs_lt (by decide) hn) rfl hic (xs_rd h3 (by omega)) ?_
        refine jq_iconst (v := (-1)) dX6_fits_121 (by decide) ?_
        refine jq_icmp_eq (tgt := 145) dX6_fits_122 (by decide) (fun c122 => ?_) (fun c122 => ?_)
        · refine jq_iincN dX6_fits_145 (by decide) rfl rfl rfl ?_
          refine jq_goto (tgt := 58) dX6_fits_148 (by decide) ?_
          exact ih (c + 1) _ _ (by omega) ha (hgo (by simp [tb_rtB, *]))
        · refine jq_iload dX6_fits_125 rfl ?_
          refine jq_iload_n dX6_fits_127 rfl rfl ?_
          refine jq_icmp_eq (tgt := 145) dX6_fits_128 (by decide) (fun c128 => ?_) (fun c128 => ?_)
          · refine jq_iincN dX6_fits_145 (by decide) rfl rfl rfl ?_
            refine jq_goto (tgt := 58) dX6_fits_148 (by decide) ?_
            exact ih (c + 1) _ _ (by omega) ha (hgo (by simp [tb_rtB, *]))
          · refine jq_iload dX6_fits_131 rfl ?_
            refine jq_aload_n dX6_fits_133 rfl rfl ?_
            refine xq_getR 27 fX6_25 dX6_fits_134 (xs_lt (by decide) hn) (by decide) ?_
            refine jq_iload dX6_fits_137 rfl ?_
            refine xq_iaload dX6_fits_139 (xs_lt (by decide) hn) rfl hic (xs_rd h3 (by omega)) ?_
            refine jq_icmp_eq (tgt := 145) dX6_fits_140 (by decide) (fun c140 => ?_) (fun c140 => ?_)
            · refine jq_iincN dX6_fits_145 (by decide) rfl rfl rfl ?_
              refine jq_goto (tgt := 58) dX6_fits_148 (by decide) ?_
              exact ih (c + 1) _ _ (by omega) ha (hgo (by simp [tb_rtB, *]))
            · refine jq_iconst (v := 0) dX6_fits_143 (by decide) ?_
              exact xq_ireturn dX6_fits_144 rfl rfl (⟨tb_vf (by rw [hR, ha, tb_allF (c := c) (by omega) (by simp [tb_rtB, *])]; rfl), rfl⟩)
      have inner : ∀ (k2 s : Nat), s + k2 = 4 → jq_J l G mX6_fits (jq_R 2 0 0) jq_E0 (xs_Ye G n ad (xs_pd (some (.int (tb_b (tb_fit w h num mk ig S)))) X)) 73 [some (.ref (ad 21)), some (.long (lN S)), none, some (.int (ig)), some (.int (nI (c))), some (.int (nI (tb_sct w h S c s))), some (.int (nI (s)))] [] n ad (xs_mem G ad X) 0 0 := by
        intro k2
        induction k2 with
        | zero =>
          intro s hs
          rw [show s = 4 by omega]
          refine jq_iload dX6_fits_73 rfl ?_
          refine jq_iconst (v := (nI 4)) dX6_fits_75 (by decide) ?_
          refine jq_geN (tgt := 114) dX6_fits_76 (by decide) ⟨by omega, by omega⟩ (fun c76 => ?_) (fun c76 => ?_)
          · exact h114 _
          · exact absurd c76 (by omega)
        | succ k2 ih2 =>
          intro s hs
          have his : vp_in (nI (4 * c + s)) 64 := vp_inN (by omega) (by decide)
          have hsd := hT.2.2.2.2.2.2.2.2.2.2 c hcc s (by omega)
          have hse := tb_sides hW c hcc s (by omega)
          refine jq_iload dX6_fits_73 rfl ?_
          refine jq_iconst (v := (nI 4)) dX6_fits_75 (by decide) ?_
          refine jq_geN (tgt := 114) dX6_fits_76 (by decide) ⟨by omega, by omega⟩ (fun c76 => ?_) (fun c76 => ?_)
          · exact absurd c76 (by omega)
          · refine jq_iload dX6_fits_79 rfl ?_
            refine jq_lload_n dX6_fits_81 rfl rfl ?_
            refine jq_aload_n dX6_fits_82 rfl rfl ?_
            refine xq_getR 26 fX6_22 dX6_fits_83 (xs_lt (by decide) hn) (by decide) ?_
            refine jq_iconst (v := (nI 4)) dX6_fits_86 (by decide) ?_
            refine jq_iload dX6_fits_87 rfl ?_
            refine jq_imulN dX6_fits_89 ?_
            refine jq_iload dX6_fits_90 rfl ?_
            refine jq_iaddN dX6_fits_92 ?_
            refine xq_iaload dX6_fits_93 (xs_lt (by decide) hn) rfl his (xs_rd hsd (by omega)) ?_
            refine xq_sI dX6_fits_94 kX6_166 (c_X6_has (by omega) (by omega)) rfl rfl (Nat.le_of_ble_eq_true rfl) ⟨⟨by decide, by decide⟩, Nat.le_refl _, Nat.le_refl _⟩ ?_
            refine jq_if_eq (tgt := 104) dX6_fits_97 (by decide) (fun c97 => ?_) (fun c97 => ?_)
            · have d97 : S.testBit (tb_sid w h c s) = false := tb_b0.mp c97
              refine jq_iconst (v := (nI 0)) dX6_fits_104 (by decide) ?_
              refine jq_iaddN dX6_fits_105 ?_
              refine jq_istore dX6_fits_106 (by decide) rfl rfl ?_
              refine jq_iincN dX6_fits_108 (by decide) rfl rfl rfl ?_
              refine jq_goto (tgt := 73) dX6_fits_111 (by decide) ?_
              have hE := ih2 (s + 1) (by omega)
              first
                | (rw [show tb_sct w h S c (s + 1) = tb_sct w h S c s + 0 from (fb_ct_succ _ _).trans (by rw [d97]; rfl)] at hE; exact hE)
                | (rw [show tb_sct w h S c (s + 1) = tb_sct w h S c s + 1 from (fb_ct_succ _ _).trans (by rw [d97]; rfl)] at hE; exact hE)
            · have d97 : S.testBit (tb_sid w h c s) = true := tb_b1.mp c97
              refine jq_iconst (v := (nI 1)) dX6_fits_100 (by decide) ?_
              refine jq_goto (tgt := 105) dX6_fits_101 (by decide) ?_
              refine jq_iaddN dX6_fits_105 ?_
              refine jq_istore dX6_fits_106 (by decide) rfl rfl ?_
              refine jq_iincN dX6_fits_108 (by decide) rfl rfl rfl ?_
              refine jq_goto (tgt := 73) dX6_fits_111 (by decide) ?_
              have hE := ih2 (s + 1) (by omega)
              first
                | (rw [show tb_sct w h S c (s + 1) = tb_sct w h S c s + 0 from (fb_ct_succ _ _).trans (by rw [d97]; rfl)] at hE; exact hE)
                | (rw [show tb_sct w h S c (s + 1) = tb_sct w h S c s + 1 from (fb_ct_succ _ _).trans (by rw [d97]; rfl)] at hE; exact hE)
      refine jq_iload dX6_fits_58 rfl ?_
      refine jq_aload_n dX6_fits_60 rfl rfl ?_
      refine xq_getI fX6_71 dX6_fits_61 (xs_lt (by decide) hn) (by decide) hT.2.2.2.1 ?_
      refine jq_geN (tgt := 151) dX6_fits_64 (by decide) ⟨by omega, by omega⟩ (fun c64 => ?_) (fun c64 => ?_)
      · exact absurd c64 (by omega)
      · refine jq_iconst (v := (nI 0)) dX6_fits_67 (by decide) ?_
        refine jq_istore dX6_fits_68 (by decide) rfl rfl ?_
        refine jq_iconst (v := (nI 0)) dX6_fits_70 (by decide) ?_
        refine jq_istore dX6_fits_71 (by decide) rfl rfl ?_
        exact inner 4 0 rfl
  have loop1 : ∀ (k e : Nat), e + k = tb_ne w h → (∀ j, j < e → tb_mfit mk S j = true) → jq_J l G mX6_fits (jq_R 2 0 0) jq_E0 (xs_Ye G n ad (xs_pd (some (.int (tb_b (tb_fit w h num mk ig S)))) X)) 3 [some (.ref (ad 21)), some (.long (lN S)), none, some (.int (ig)), some (.int (nI (e))), none, none] [] n ad (xs_mem G ad X) 0 0 := by
    intro k
    induction k with
    | zero =>
      intro e hk hc
      have ha : (List.range (tb_ne w h)).all (tb_mfit mk S) = true := tb_allT (by rw [show tb_ne w h = e by omega]; exact hc)
      refine jq_iload dX6_fits_3 rfl ?_
      refine jq_aload_n dX6_fits_5 rfl rfl ?_
      refine xq_getI fX6_74 dX6_fits_6 (xs_lt (by decide) hn) (by decide) hT.2.2.2.2.1 ?_
      refine jq_geN (tgt := 55) dX6_fits_9 (by decide) ⟨by omega, by omega⟩ (fun c9 => ?_) (fun c9 => ?_)
      · refine jq_iconst (v := (nI 0)) dX6_fits_55 (by decide) ?_
        refine jq_istore dX6_fits_56 (by decide) rfl rfl ?_
        exact loop2 (tb_nc w h) 0 _ _ (by omega) ha (fun j hj => absurd hj (Nat.not_lt_zero j))
      · exact absurd c9 (by omega)
    | succ k ih =>
      intro e hk hc
      have he : e < tb_ne w h := by omega
      have hie : vp_in (nI e) 40 := vp_inN (by omega) (by decide)
      have hm := hM e he
      have hgo : tb_mfit mk S e = true → ∀ j, j < e + 1 → tb_mfit mk S j = true := by
        intro q j hj
        rcases Nat.lt_or_ge j e with z | z
        · exact hc j z
        · rw [show j = e by omega]; exact q
      refine jq_iload dX6_fits_3 rfl ?_
      refine jq_aload_n dX6_fits_5 rfl rfl ?_
      refine xq_getI fX6_74 dX6_fits_6 (xs_lt (by decide) hn) (by decide) hT.2.2.2.2.1 ?_
      refine jq_geN (tgt := 55) dX6_fits_9 (by decide) ⟨by omega, by omega⟩ (fun c9 => ?_) (fun c9 => ?_)
      · exact absurd c9 (by omega)
      · refine jq_aload_n dX6_fits_12 rfl rfl ?_
        refine xq_getR 28 fX6_28 dX6_fits_13 (xs_lt (by decide) hn) (by decide) ?_
        refine jq_iload dX6_fits_16 rfl ?_
        refine xq_iaload dX6_fits_18 (xs_lt (by decide) hn) rfl hie (xs_rd hm.1 (by omega)) ?_
        refine jq_eqZ (tgt := 49) dX6_fits_19 (by decide) (by omega) (fun c19 => ?_) (fun c19 => ?_)
        · refine jq_iincN dX6_fits_49 (by decide) rfl rfl rfl ?_
          refine jq_goto (tgt := 3) dX6_fits_52 (by decide) ?_
          first
            | exact ih (e + 1) (by omega) (hgo (tb_mf0 c19))
            | exact ih (e + 1) (by omega) (hgo (tb_mf1 c36 c44))
            | exact ih (e + 1) (by omega) (hgo (tb_mf2 c36 c44))
        · refine jq_lload_n dX6_fits_22 rfl rfl ?_
          refine jq_iload dX6_fits_23 rfl ?_
          refine xq_sI dX6_fits_25 kX6_166 (c_X6_has (by omega) (by omega)) rfl rfl (Nat.le_of_ble_eq_true rfl) ⟨⟨by decide, by decide⟩, Nat.le_refl _, Nat.le_refl _⟩ ?_
          refine jq_aload_n dX6_fits_28 rfl rfl ?_
          refine xq_getR 28 fX6_28 dX6_fits_29 (xs_lt (by decide) hn) (by decide) ?_
          refine jq_iload dX6_fits_32 rfl ?_
          refine xq_iaload dX6_fits_34 (xs_lt (by decide) hn) rfl hie (xs_rd hm.1 (by omega)) ?_
          refine jq_iconst (v := (nI 1)) dX6_fits_35 (by decide) ?_
          refine jq_neN (tgt := 43) dX6_fits_36 (by decide) ⟨by omega, by omega⟩ (fun c36 => ?_) (fun c36 => ?_)
          · refine jq_iconst (v := 0) dX6_fits_43 (by decide) ?_
            refine jq_icmp_eq (tgt := 49) dX6_fits_44 (by decide) (fun c44 => ?_) (fun c44 => ?_)
            · refine jq_iincN dX6_fits_49 (by decide) rfl rfl rfl ?_
              refine jq_goto (tgt := 3) dX6_fits_52 (by decide) ?_
              first
                | exact ih (e + 1) (by omega) (hgo (tb_mf0 c19))
                | exact ih (e + 1) (by omega) (hgo (tb_mf1 c36 c44))
                | exact ih (e + 1) (by omega) (hgo (tb_mf2 c36 c44))
            · refine jq_iconst (v := 0) dX6_fits_47 (by decide) ?_
              have hf : tb_mfit mk S e = false := by first | exact tb_mfF1 c36 c44 | exact tb_mfF2 c19 c36 c44
              exact xq_ireturn dX6_fits_48 rfl rfl ⟨tb_vf (by rw [hR, tb_allF (c := e) he hf]; rfl), rfl⟩
          · refine jq_iconst (v := 1) dX6_fits_39 (by decide) ?_
            refine jq_goto (tgt := 44) dX6_fits_40 (by decide) ?_
            refine jq_icmp_eq (tgt := 49) dX6_fits_44 (by decide) (fun c44 => ?_) (fun c44 => ?_)
            · refine jq_iincN dX6_fits_49 (by decide) rfl rfl rfl ?_
              refine jq_goto (tgt := 3) dX6_fits_52 (by decide) ?_
              first
                | exact ih (e + 1) (by omega) (hgo (tb_mf0 c19))
                | exact ih (e + 1) (by omega) (hgo (tb_mf1 c36 c44))
                | exact ih (e + 1) (by omega) (hgo (tb_mf2 c36 c44))
            · refine jq_iconst (v := 0) dX6_fits_47 (by decide) ?_
              have hf : tb_mfit mk S e = false := by first | exact tb_mfF1 c36 c44 | exact tb_mfF2 c19 c36 c44
              exact xq_ireturn dX6_fits_48 rfl rfl ⟨tb_vf (by rw [hR, tb_allF (c := e) he hf]; rfl), rfl⟩
  refine xs_Ct_of (L := [some (.ref (ad 21)), some (.long (lN S)), none, some (.int (ig)), none, none, none]) rfl (Nat.le_of_ble_eq_true rfl) rfl ?_
  refine jq_iconst (v := (nI 0)) dX6_fits_0 (by decide) ?_
  refine jq_istore dX6_fits_1 (by decide) rfl rfl ?_
  exact loop1 (tb_ne w h) 0 (by omega) (fun j hj => absurd hj (Nat.not_lt_zero j))
theorem rf_afr2 {w h : Nat} {num : Nat → Int32} {mk : Nat → Nat} {X Y : xs_T} (hA : rf_A w h num mk X) (hf : xs_fr rf_SF rf_FF X Y) : rf_A w h num mk Y := rf_afr hA hf
set_option maxHeartbeats 8000000 in
theorem c_X6_answersWithout {l : Launch} {G : jq_G} {n : Nat} {ad : Nat → Nat} {X : xs_T} (hn : 39 ≤ n) {w h : Nat} {num : Nat → Int32} {mk : Nat → Nat} (hA : rf_A w h num mk X) (hLC : rf_LC X) (ig : Int32) : xs_Ct l G mX6_answersWithout 4 [.ref (ad 21), .int (ig)] n ad X (xs_pi (fun v X' => v = nI ((dv_loops w h).filter (tb_fit w h num mk ig)).length ∧ xs_fr rf_SF rf_FF X X' ∧ rf_LD w h X')) := by
  have hW := hA.1.1
  have hle := dv_loops_le hW
  have loop : ∀ (Y : xs_T) (hf : xs_fr rf_SF rf_FF X Y) (hL : rf_LD w h Y) (rest pre : List Nat) (c : Nat), dv_loops w h = pre ++ rest → c = (pre.filter (tb_fit w h num mk ig)).length → jq_J l G mX6_answersWithout (jq_R 4 0 0) jq_E0 (xs_Ye G n ad (xs_pi (fun v X' => v = nI ((dv_loops w h).filter (tb_fit w h num mk ig)).length ∧ xs_fr rf_SF rf_FF X X' ∧ rf_LD w h X'))) 8 [some (.ref (ad 21)), some (.int (ig)), some (.int (nI (c))), some (.int (nI (pre.length)))] [] n ad (xs_mem G ad Y) 0 0 := by
    intro Y hf hL rest
    have hA1 := rf_afr2 hA hf
    induction rest with
    | nil =>
      intro pre c hp hc
      have hlen : (dv_loops w h).length = pre.length := by rw [hp, List.append_nil]
      refine jq_iload_n dX6_answersWithout_8 rfl rfl ?_
      refine jq_aload_n dX6_answersWithout_9 rfl rfl ?_
      refine xq_getI fX6_173 dX6_answersWithout_10 (xs_lt (by decide) hn) (by decide) hL.2.1 ?_
      refine jq_geN (tgt := 44) dX6_answersWithout_13 (by decide) ⟨by omega, by omega⟩ (fun c13 => ?_) (fun c13 => ?_)
      · refine jq_iload_n dX6_answersWithout_44 rfl rfl ?_
        exact xq_ireturn dX6_answersWithout_45 rfl rfl (⟨_, rfl, by rw [hc, hp, List.append_nil], hf, hL⟩)
      · exact absurd c13 (by omega)
    | cons S rest ih =>
      intro pre c hp hc
      have hlen : (dv_loops w h).length = pre.length + 1 + rest.length := by rw [hp]; simp; omega
      have hat := rf_Ls_at hL.2 hp
      have hS := dv_loops_lt hW (x := S) (by rw [hp]; simp)
      have hi : vp_in (nI pre.length) 9400 := vp_inN (by omega) (by decide)
      have hpx : dv_loops w h = (pre ++ [S]) ++ rest := by rw [hp]; simp
      have hih := ih (pre ++ [S])
      rw [show (pre ++ [S]).length = pre.length + 1 by simp] at hih
      refine jq_iload_n dX6_answersWithout_8 rfl rfl ?_
      refine jq_aload_n dX6_answersWithout_9 rfl rfl ?_
      refine xq_getI fX6_173 dX6_answersWithout_10 (xs_lt (by decide) hn) (by decide) hL.2.1 ?_
      refine jq_geN (tgt := 44) dX6_answersWithout_13 (by decide) ⟨by omega, by omega⟩ (fun c13 => ?_) (fun c13 => ?_)
      · exact absurd c13 (by omega)
      · refine jq_iload_n dX6_answersWithout_16 rfl rfl ?_
        refine jq_aload_n dX6_answersWithout_17 rfl rfl ?_
        refine jq_aload_n dX6_answersWithout_18 rfl rfl ?_
        refine xq_getR 38 fX6_59 dX6_answersWithout_19 (xs_lt (by decide) hn) (by decide) ?_
        refine jq_iload_n dX6_answersWithout_22 rfl rfl ?_
        refine xq_laload dX6_answersWithout_23 (xs_lt (by decide) hn) rfl hi (xs_rdL hat (by omega)) ?_
        refine jq_iload_n dX6_answersWithout_24 rfl rfl ?_
        refine xq_vI dX6_answersWithout_25 kX6_187 (c_X6_fits hn hA1.1 hA1.2.1 hA1.2.2 hS ig) (xs_lt (by decide) hn) ⟨rfl, rfl⟩ rfl rfl (Nat.le_of_ble_eq_true rfl) ⟨⟨by decide, by decide⟩, Nat.le_refl _, Nat.le_refl _⟩ ?_
        refine jq_if_eq (tgt := 35) dX6_answersWithout_28 (by decide) (fun c28 => ?_) (fun c28 => ?_)
        · have d28 := tb_b0.mp c28
          refine jq_iconst (v := (nI 0)) dX6_answersWithout_35 (by decide) ?_
          refine jq_iaddN dX6_answersWithout_36 ?_
          refine jq_istore_n dX6_answersWithout_37 rfl (by decide) rfl rfl ?_
          refine jq_iincN dX6_answersWithout_38 (by decide) rfl rfl rfl ?_
          refine jq_goto (tgt := 8) dX6_answersWithout_41 (by decide) ?_
          first
            | exact hih (c + 0) hpx (by rw [hc, List.filter_append]; simp [d28])
            | exact hih (c + 1) hpx (by rw [hc, List.filter_append]; simp [d28])
        · have d28 := tb_b1.mp c28
          refine jq_iconst (v := (nI 1)) dX6_answersWithout_31 (by decide) ?_
          refine jq_goto (tgt := 36) dX6_answersWithout_32 (by decide) ?_
          refine jq_iaddN dX6_answersWithout_36 ?_
          refine jq_istore_n dX6_answersWithout_37 rfl (by decide) rfl rfl ?_
          refine jq_iincN dX6_answersWithout_38 (by decide) rfl rfl rfl ?_
          refine jq_goto (tgt := 8) dX6_answersWithout_41 (by decide) ?_
          first
            | exact hih (c + 0) hpx (by rw [hc, List.filter_append]; simp [d28])
            | exact hih (c + 1) hpx (by rw [hc, List.filter_append]; simp [d28])
  refine xs_Ct_of (L := [some (.ref (ad 21)), some (.int (ig)), none, none]) rfl (Nat.le_of_ble_eq_true rfl) rfl ?_
  refine jq_aload_n dX6_answersWithout_0 rfl rfl ?_
  refine xq_rV dX6_answersWithout_1 kX6_184 (c_X6_findLoops hn hA.1 hLC) (xs_lt (by decide) hn) ⟨rfl, rfl⟩ rfl rfl (Nat.le_of_ble_eq_true rfl) ⟨⟨by decide, by decide⟩, Nat.le_refl _, Nat.le_refl _⟩ (fun X1 h1 => ?_)
  obtain ⟨hf1, hL1⟩ := h1
  refine jq_iconst (v := (nI 0)) dX6_answersWithout_4 (by decide) ?_
  refine jq_istore_n dX6_answersWithout_5 rfl (by decide) rfl rfl ?_
  refine jq_iconst (v := (nI 0)) dX6_answersWithout_6 (by decide) ?_
  refine jq_istore_n dX6_answersWithout_7 rfl (by decide) rfl rfl ?_
  exact loop X1 hf1 hL1 (dv_loops w h) [] 0 rfl rfl
set_option maxHeartbeats 8000000 in
theorem c_X6_find {l : Launch} {G : jq_G} {n : Nat} {ad : Nat → Nat} {X : xs_T} (hn : 39 ≤ n) {w h : Nat} {num : Nat → Int32} {mk : Nat → Nat} (hA : rf_A w h num mk X) (hLC : rf_LC X) (a : Int32) : xs_Ct l G mX6_find 4 [.ref (ad 21), .int (a)] n ad X (xs_pl (fun v X' => v = lN (dv_pick (tb_fit w h num mk (-1)) a (dv_loops w h) 0) ∧ xs_fr rf_SF rf_FF X X' ∧ rf_LD w h X')) := by
  have hW := hA.1.1
  have hle := dv_loops_le hW
  have loop : ∀ (Y : xs_T) (hf : xs_fr rf_SF rf_FF X Y) (hL : rf_LD w h Y) (rest pre : List Nat) (c : Nat), dv_loops w h = pre ++ rest → dv_pick (tb_fit w h num mk (-1)) a (dv_loops w h) 0 = dv_pick (tb_fit w h num mk (-1)) a rest c → jq_J l G mX6_find (jq_R 4 0 0) jq_E0 (xs_Ye G n ad (xs_pl (fun v X' => v = lN (dv_pick (tb_fit w h num mk (-1)) a (dv_loops w h) 0) ∧ xs_fr rf_SF rf_FF X X' ∧ rf_LD w h X'))) 8 [some (.ref (ad 21)), some (.int (a)), some (.int (a - nI c)), some (.int (nI (pre.length)))] [] n ad (xs_mem G ad Y) 0 0 := by
    intro Y hf hL rest
    have hA1 := rf_afr2 hA hf
    induction rest with
    | nil =>
      intro pre c hp hr
      have hlen : (dv_loops w h).length = pre.length := by rw [hp, List.append_nil]
      refine jq_iload_n dX6_find_8 rfl rfl ?_
      refine jq_aload_n dX6_find_9 rfl rfl ?_
      refine xq_getI fX6_173 dX6_find_10 (xs_lt (by decide) hn) (by decide) hL.2.1 ?_
      refine jq_geN (tgt := 54) dX6_find_13 (by decide) ⟨by omega, by omega⟩ (fun c13 => ?_) (fun c13 => ?_)
      · refine jq_lconst (v := (lN 0)) dX6_find_54 (by decide) ?_
        exact xq_lreturn dX6_find_55 rfl (⟨_, rfl, by rw [hr]; rfl, hf, hL⟩)
      · exact absurd c13 (by omega)
    | cons S rest ih =>
      intro pre c hp hr
      have hlen : (dv_loops w h).length = pre.length + 1 + rest.length := by rw [hp]; simp; omega
      have hat := rf_Ls_at hL.2 hp
      have hS := dv_loops_lt hW (x := S) (by rw [hp]; simp)
      have hi : vp_in (nI pre.length) 9400 := vp_inN (by omega) (by decide)
      have hpx : dv_loops w h = (pre ++ [S]) ++ rest := by rw [hp]; simp
      have hih := ih (pre ++ [S])
      rw [show (pre ++ [S]).length = pre.length + 1 by simp] at hih
      rw [dv_pick] at hr
      refine jq_iload_n dX6_find_8 rfl rfl ?_
      refine jq_aload_n dX6_find_9 rfl rfl ?_
      refine xq_getI fX6_173 dX6_find_10 (xs_lt (by decide) hn) (by decide) hL.2.1 ?_
      refine jq_geN (tgt := 54) dX6_find_13 (by decide) ⟨by omega, by omega⟩ (fun c13 => ?_) (fun c13 => ?_)
      · exact absurd c13 (by omega)
      · refine jq_iload_n dX6_find_16 rfl rfl ?_
        refine jq_if_lt (tgt := 54) dX6_find_17 (by decide) (fun c17 => ?_) (fun c17 => ?_)
        · refine jq_lconst (v := (lN 0)) dX6_find_54 (by decide) ?_
          exact xq_lreturn dX6_find_55 rfl (⟨_, rfl, by rw [dv_pick_neg c17 _ _ (by omega)], hf, hL⟩)
        · refine jq_aload_n dX6_find_20 rfl rfl ?_
          refine jq_aload_n dX6_find_21 rfl rfl ?_
          refine xq_getR 38 fX6_59 dX6_find_22 (xs_lt (by decide) hn) (by decide) ?_
          refine jq_iload_n dX6_find_25 rfl rfl ?_
          refine xq_laload dX6_find_26 (xs_lt (by decide) hn) rfl hi (xs_rdL hat (by omega)) ?_
          refine jq_iconst (v := (-1)) dX6_find_27 (by decide) ?_
          refine xq_vI dX6_find_28 kX6_187 (c_X6_fits hn hA1.1 hA1.2.1 hA1.2.2 hS (-1)) (xs_lt (by decide) hn) ⟨rfl, rfl⟩ rfl rfl (Nat.le_of_ble_eq_true rfl) ⟨⟨by decide, by decide⟩, Nat.le_refl _, Nat.le_refl _⟩ ?_
          refine jq_if_eq (tgt := 48) dX6_find_31 (by decide) (fun c31 => ?_) (fun c31 => ?_)
          · have d31 := tb_b0.mp c31
            refine jq_iincN dX6_find_48 (by decide) rfl rfl rfl ?_
            refine jq_goto (tgt := 8) dX6_find_51 (by decide) ?_
            first
              | exact hih c hpx (by rw [hr, if_neg (by rw [d31]; decide)])
              | exact hih (c + 1) hpx (by rw [hr, if_pos d31, if_neg (fun q => c35 (ix_sub0.mpr q))])
          · have d31 := tb_b1.mp c31
            refine jq_iload_n dX6_find_34 rfl rfl ?_
            refine jq_if_ne (tgt := 45) dX6_find_35 (by decide) (fun c35 => ?_) (fun c35 => ?_)
            · refine jq_iinc dX6_find_45 (by decide) rfl rfl ix_dec rfl ?_
              refine jq_iincN dX6_find_48 (by decide) rfl rfl rfl ?_
              refine jq_goto (tgt := 8) dX6_find_51 (by decide) ?_
              first
                | exact hih c hpx (by rw [hr, if_neg (by rw [d31]; decide)])
                | exact hih (c + 1) hpx (by rw [hr, if_pos d31, if_neg (fun q => c35 (ix_sub0.mpr q))])
            · refine jq_aload_n dX6_find_38 rfl rfl ?_
              refine xq_getR 38 fX6_59 dX6_find_39 (xs_lt (by decide) hn) (by decide) ?_
              refine jq_iload_n dX6_find_42 rfl rfl ?_
              refine xq_laload dX6_find_43 (xs_lt (by decide) hn) rfl hi (xs_rdL hat (by omega)) ?_
              exact xq_lreturn dX6_find_44 rfl (⟨_, rfl, by rw [hr, if_pos d31, if_pos (ix_sub0.mp c35)], hf, hL⟩)
  refine xs_Ct_of (L := [some (.ref (ad 21)), some (.int (a)), none, none]) rfl (Nat.le_of_ble_eq_true rfl) rfl ?_
  refine jq_aload_n dX6_find_0 rfl rfl ?_
  refine xq_rV dX6_find_1 kX6_184 (c_X6_findLoops hn hA.1 hLC) (xs_lt (by decide) hn) ⟨rfl, rfl⟩ rfl rfl (Nat.le_of_ble_eq_true rfl) ⟨⟨by decide, by decide⟩, Nat.le_refl _, Nat.le_refl _⟩ (fun X1 h1 => ?_)
  obtain ⟨hf1, hL1⟩ := h1
  refine jq_iload_n dX6_find_4 rfl rfl ?_
  refine jq_istore_n dX6_find_5 rfl (by decide) rfl rfl ?_
  refine jq_iconst (v := (nI 0)) dX6_find_6 (by decide) ?_
  refine jq_istore_n dX6_find_7 rfl (by decide) rfl rfl ?_
  have hE := loop X1 hf1 hL1 (dv_loops w h) [] 0 rfl rfl
  rw [show a - nI 0 = a by rw [nI_0]; exact Int32.sub_zero _] at hE
  exact hE
set_option maxHeartbeats 8000000 in
theorem c_X6_having {l : Launch} {G : jq_G} {n : Nat} {ad : Nat → Nat} {X : xs_T} (hn : 39 ≤ n) {w h : Nat} {num : Nat → Int32} {mk : Nat → Nat} (hA : rf_A w h num mk X) (hL : rf_LD w h X) {e : Nat} (he : e < tb_ne w h) : xs_Ct l G mX6_having 3 [.ref (ad 21), .int (nI (e))] n ad X (xs_pd (some (.int (nI (tb_with (tb_fit w h num mk (-1)) (dv_loops w h) e)))) X) := by
  have hW := hA.1.1
  have hz := tb_sizes hW
  have hle := dv_loops_le hW
  have loop : ∀ (rest pre : List Nat) (c : Nat), dv_loops w h = pre ++ rest → c = tb_with (tb_fit w h num mk (-1)) pre e → jq_J l G mX6_having (jq_R 3 0 0) jq_E0 (xs_Ye G n ad (xs_pd (some (.int (nI (tb_with (tb_fit w h num mk (-1)) (dv_loops w h) e)))) X)) 4 [some (.ref (ad 21)), some (.int (nI (e))), some (.int (nI (c))), some (.int (nI (pre.length)))] [] n ad (xs_mem G ad X) 0 0 := by
    intro rest
    induction rest with
    | nil =>
      intro pre c hp hc
      have hlen : (dv_loops w h).length = pre.length := by rw [hp, List.append_nil]
      refine jq_iload_n dX6_having_4 rfl rfl ?_
      refine jq_aload_n dX6_having_5 rfl rfl ?_
      refine xq_getI fX6_173 dX6_having_6 (xs_lt (by decide) hn) (by decide) hL.2.1 ?_
      refine jq_geN (tgt := 53) dX6_having_9 (by decide) ⟨by omega, by omega⟩ (fun c9 => ?_) (fun c9 => ?_)
      · refine jq_iload_n dX6_having_53 rfl rfl ?_
        exact xq_ireturn dX6_having_54 rfl rfl (⟨by rw [hc, hp, List.append_nil], rfl⟩)
      · exact absurd c9 (by omega)
    | cons S rest ih =>
      intro pre c hp hc
      have hlen : (dv_loops w h).length = pre.length + 1 + rest.length := by rw [hp]; simp; omega
      have hat := rf_Ls_at hL.2 hp
      have hS := dv_loops_lt hW (x := S) (by rw [hp]; simp)
      have hi : vp_in (nI pre.length) 9400 := vp_inN (by omega) (by decide)
      have hpx : dv_loops w h = (pre ++ [S]) ++ rest := by rw [hp]; simp
      have hih := ih (pre ++ [S])
      rw [show (pre ++ [S]).length = pre.length + 1 by simp] at hih
      refine jq_iload_n dX6_having_4 rfl rfl ?_
      refine jq_aload_n dX6_having_5 rfl rfl ?_
      refine xq_getI fX6_173 dX6_having_6 (xs_lt (by decide) hn) (by decide) hL.2.1 ?_
      refine jq_geN (tgt := 53) dX6_having_9 (by decide) ⟨by omega, by omega⟩ (fun c9 => ?_) (fun c9 => ?_)
      · exact absurd c9 (by omega)
      · refine jq_iload_n dX6_having_12 rfl rfl ?_
        refine jq_aload_n dX6_having_13 rfl rfl ?_
        refine xq_getR 38 fX6_59 dX6_having_14 (xs_lt (by decide) hn) (by decide) ?_
        refine jq_iload_n dX6_having_17 rfl rfl ?_
        refine xq_laload dX6_having_18 (xs_lt (by decide) hn) rfl hi (xs_rdL hat (by omega)) ?_
        refine jq_iload_n dX6_having_19 rfl rfl ?_
        refine xq_sI dX6_having_20 kX6_166 (c_X6_has (by omega) (by omega)) rfl rfl (Nat.le_of_ble_eq_true rfl) ⟨⟨by decide, by decide⟩, Nat.le_refl _, Nat.le_refl _⟩ ?_
        refine jq_if_eq (tgt := 44) dX6_having_23 (by decide) (fun c23 => ?_) (fun c23 => ?_)
        · have d23 := tb_b0.mp c23
          refine jq_iconst (v := (nI 0)) dX6_having_44 (by decide) ?_
          refine jq_iaddN dX6_having_45 ?_
          refine jq_istore_n dX6_having_46 rfl (by decide) rfl rfl ?_
          refine jq_iincN dX6_having_47 (by decide) rfl rfl rfl ?_
          refine jq_goto (tgt := 4) dX6_having_50 (by decide) ?_
          first
            | exact hih (c + 0) hpx (by rw [hc]; unfold tb_with; rw [List.filter_append]; first | (simp [d23, d37]; done) | (simp [d23]; done))
            | exact hih (c + 1) hpx (by rw [hc]; unfold tb_with; rw [List.filter_append]; simp [d23, d37])
        · have d23 := tb_b1.mp c23
          refine jq_aload_n dX6_having_26 rfl rfl ?_
          refine jq_aload_n dX6_having_27 rfl rfl ?_
          refine xq_getR 38 fX6_59 dX6_having_28 (xs_lt (by decide) hn) (by decide) ?_
          refine jq_iload_n dX6_having_31 rfl rfl ?_
          refine xq_laload dX6_having_32 (xs_lt (by decide) hn) rfl hi (xs_rdL hat (by omega)) ?_
          refine jq_iconst (v := (-1)) dX6_having_33 (by decide) ?_
          refine xq_vI dX6_having_34 kX6_187 (c_X6_fits hn hA.1 hA.2.1 hA.2.2 hS (-1)) (xs_lt (by decide) hn) ⟨rfl, rfl⟩ rfl rfl (Nat.le_of_ble_eq_true rfl) ⟨⟨by decide, by decide⟩, Nat.le_refl _, Nat.le_refl _⟩ ?_
          refine jq_if_eq (tgt := 44) dX6_having_37 (by decide) (fun c37 => ?_) (fun c37 => ?_)
          · have d37 := tb_b0.mp c37
            refine jq_iconst (v := (nI 0)) dX6_having_44 (by decide) ?_
            refine jq_iaddN dX6_having_45 ?_
            refine jq_istore_n dX6_having_46 rfl (by decide) rfl rfl ?_
            refine jq_iincN dX6_having_47 (by decide) rfl rfl rfl ?_
            refine jq_goto (tgt := 4) dX6_having_50 (by decide) ?_
            first
              | exact hih (c + 0) hpx (by rw [hc]; unfold tb_with; rw [List.filter_append]; first | (simp [d23, d37]; done) | (simp [d23]; done))
              | exact hih (c + 1) hpx (by rw [hc]; unfold tb_with; rw [List.filter_append]; simp [d23, d37])
          · have d37 := tb_b1.mp c37
            refine jq_iconst (v := (nI 1)) dX6_having_40 (by decide) ?_
            refine jq_goto (tgt := 45) dX6_having_41 (by decide) ?_
            refine jq_iaddN dX6_having_45 ?_
            refine jq_istore_n dX6_having_46 rfl (by decide) rfl rfl ?_
            refine jq_iincN dX6_having_47 (by decide) rfl rfl rfl ?_
            refine jq_goto (tgt := 4) dX6_having_50 (by decide) ?_
            first
              | exact hih (c + 0) hpx (by rw [hc]; unfold tb_with; rw [List.filter_append]; first | (simp [d23, d37]; done) | (simp [d23]; done))
              | exact hih (c + 1) hpx (by rw [hc]; unfold tb_with; rw [List.filter_append]; simp [d23, d37])
  refine xs_Ct_of (L := [some (.ref (ad 21)), some (.int (nI (e))), none, none]) rfl (Nat.le_of_ble_eq_true rfl) rfl ?_
  refine jq_iconst (v := (nI 0)) dX6_having_0 (by decide) ?_
  refine jq_istore_n dX6_having_1 rfl (by decide) rfl rfl ?_
  refine jq_iconst (v := (nI 0)) dX6_having_2 (by decide) ?_
  refine jq_istore_n dX6_having_3 rfl (by decide) rfl rfl ?_
  exact loop (dv_loops w h) [] 0 rfl rfl
