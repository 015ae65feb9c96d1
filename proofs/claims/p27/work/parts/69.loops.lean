/-! the class's rows of loops -/
def dv_Ls (L : List Nat) (X : xs_T) : Prop := X.1 19 2 = nI L.length ∧ ∀ k x, L[k]? = some x → X.2.2.2 20 k = lN x
theorem dv_lsfr {L : List Nat} {S : List Nat} {F : List (Nat × Nat)} {X Y : xs_T} (hL : dv_Ls L X) (hf : xs_fr S F X Y) (hq : (!decide (20 ∈ S) && !decide ((19, 2) ∈ F)) = true := by decide) : dv_Ls L Y := by
  simp only [Bool.and_eq_true, Bool.not_eq_true'] at hq
  refine ⟨xs_fi hf 19 2 hL.1 hq.2, fun k x hx => ?_⟩
  rw [xs_fb hf 20 hq.1]
  exact hL.2 k x hx
theorem dv_Ls_push {L : List Nat} {S : Nat} {X : xs_T} (hL : dv_Ls L X) (hn : L.length < 9349) : dv_Ls (L ++ [S]) (xs_si (xs_al X 20 (vp_updL (X.2.2.2 20) (nI L.length).toNatClampNeg (lN S))) 19 2 (nI (L.length + 1))) := by
  refine ⟨by rw [xs_si_at, List.length_append]; rfl, fun k x hx => ?_⟩
  show (xs_al X 20 (vp_updL (X.2.2.2 20) (nI L.length).toNatClampNeg (lN S))).2.2.2 20 k = lN x
  rw [xs_al_at]
  rcases Nat.lt_trichotomy k L.length with q | q | q
  · rw [xs_updL_ne (by omega) (by omega)]
    rw [List.getElem?_append_left q] at hx
    exact hL.2 k x hx
  · subst q
    rw [xs_updL_at (by omega)]
    rw [List.getElem?_append_right (Nat.le_refl _), Nat.sub_self] at hx
    have : S = x := Option.some.inj hx
    rw [this]
  · rw [List.getElem?_eq_none (by rw [List.length_append]; show L.length + 1 ≤ k; omega)] at hx
    cases hx
theorem dv_Ls_at {L pre rest : List Nat} {x : Nat} {X : xs_T} (hL : dv_Ls L X) (h : L = pre ++ x :: rest) : X.2.2.2 20 pre.length = lN x := by
  apply hL.2
  rw [h, List.getElem?_append_right (Nat.le_refl _), Nat.sub_self]
  rfl
theorem xs_fit_d {M' : jq_M} {d' d : Nat} (h1 : d' + 1 ≤ d) (h2 : M'.2.2.1 ≤ 21) : xs_fit (jq_R d 0 0) M' d' 0 0 := by
  refine ⟨⟨h1, ?_⟩, Nat.le_refl _, Nat.le_refl _⟩
  show 8 + (M'.2.2.1 + 11) + 40 * d' ≤ 40 * d
  omega
set_option maxHeartbeats 4000000 in
theorem c_X3_grow {l : Launch} {G : jq_G} {n : Nat} {ad : Nat → Nat} (hn : 21 ≤ n) {w h : Nat} : ∀ (k d c S : Nat) (L : List Nat) (X : xs_T), d = k + 3 → dv_T w h X → c + k = tb_nc w h → S < 2 ^ 40 → dv_Ls L X → L.length + (dv_tree w h k c S).length ≤ 9349 → xs_Ct l G mX3_grow d [.ref (ad 19), .int (nI (c)), .long (lN S)] n ad X (xs_pv (fun X' => xs_fr [20] [(19, 2)] X X' ∧ dv_Ls (L ++ dv_tree w h k c S) X')) := by
  intro k
  induction k with
  | zero =>
    intro d c S L X hd hT hk hS hL hlen
    have hz := tb_sizes hT.1
    have hx20 : xs_n 20 = 9349 := rfl
    have hiL : L.length < 9349 → vp_in (nI L.length) 9349 := fun q => vp_inN q (by decide)
    have h79 : dv_tree w h 0 c S = [] → jq_J l G mX3_grow (jq_R d 0 0) jq_E0 (xs_Ye G n ad (xs_pv (fun X' => xs_fr [20] [(19, 2)] X X' ∧ dv_Ls (L ++ dv_tree w h 0 c S) X'))) 79 [some (.ref (ad 19)), some (.int (nI (c))), some (.long (lN S)), none, some (.ref (ad 1)), none, none, none] [] n ad (xs_mem G ad X) 0 0 := by
      intro q
      rw [q, List.append_nil]
      exact xq_return rfl dX3_grow_79 rfl ⟨rfl, xs_fr_rf, hL⟩
    have h29 : jq_J l G mX3_grow (jq_R d 0 0) jq_E0 (xs_Ye G n ad (xs_pv (fun X' => xs_fr [20] [(19, 2)] X X' ∧ dv_Ls (L ++ dv_tree w h 0 c S) X'))) 29 [some (.ref (ad 19)), some (.int (nI (c))), some (.long (lN S)), none, some (.ref (ad 1)), none, none, none] [] n ad (xs_mem G ad X) 0 0 := by
      refine jq_iload_n dX3_grow_29 rfl rfl ?_
      refine jq_aload dX3_grow_30 rfl ?_
      refine xq_getI fX3_41 dX3_grow_32 (xs_lt (by decide) hn) (by decide) hT.2.1.2.2.1 ?_
      refine jq_ltN (tgt := 80) dX3_grow_35 (by decide) ⟨by omega, by omega⟩ (fun c35 => ?_) (fun c35 => ?_)
      · exact absurd c35 (by omega)
      · refine jq_aload_n dX3_grow_38 rfl rfl ?_
        refine xq_getI fX3_23 dX3_grow_39 (xs_lt (by decide) hn) (by decide) hL.1 ?_
        refine jq_aload_n dX3_grow_42 rfl rfl ?_
        refine xq_getR 20 fX3_9 dX3_grow_43 (xs_lt (by decide) hn) (by decide) ?_
        refine xq_alenL dX3_grow_46 (xs_lt (by decide) hn) rfl ?_
        refine jq_geN (tgt := 79) dX3_grow_47 (by decide) ⟨by omega, by omega⟩ (fun c47 => ?_) (fun c47 => ?_)
        · exact h79 (List.eq_nil_of_length_eq_zero (by omega))
        · refine jq_aload dX3_grow_50 rfl ?_
          refine jq_lload_n dX3_grow_52 rfl rfl ?_
          refine xq_vI dX3_grow_53 kX3_44 (c_X0_isLoop hn hT hS) (xs_lt (by decide) hn) ⟨rfl, rfl⟩ rfl rfl (Nat.le_of_ble_eq_true rfl) (xs_fit_d (by omega) (by decide)) ?_
          refine jq_if_eq (tgt := 79) dX3_grow_56 (by decide) (fun c56 => ?_) (fun c56 => ?_)
          · have d56 := tb_b0.mp c56
            exact h79 (by rw [dv_tree, if_neg (by rw [tb_b0.mp c56]; decide)])
          · have d56 := tb_b1.mp c56
            refine jq_aload_n dX3_grow_59 rfl rfl ?_
            refine xq_getR 20 fX3_9 dX3_grow_60 (xs_lt (by decide) hn) (by decide) ?_
            refine jq_aload_n dX3_grow_63 rfl rfl ?_
            refine xq_getI fX3_23 dX3_grow_64 (xs_lt (by decide) hn) (by decide) hL.1 ?_
            refine jq_lload_n dX3_grow_67 rfl rfl ?_
            refine xq_lastore dX3_grow_68 (xs_lt (by decide) hn) rfl (hiL c47) ?_
            refine jq_aload_n dX3_grow_69 rfl rfl ?_
            refine jq_dup dX3_grow_70 rfl ?_
            refine xq_getI fX3_23 dX3_grow_71 (xs_lt (by decide) hn) (by decide) hL.1 ?_
            refine jq_iconst (v := (nI 1)) dX3_grow_74 (by decide) ?_
            refine jq_iaddN dX3_grow_75 ?_
            refine xq_putI pX3_23 dX3_grow_76 (xs_lt (by decide) hn) (by decide) rfl rfl ?_
            rw [show dv_tree w h 0 c S = [S] by rw [dv_tree, if_pos d56]]
            exact xq_return rfl dX3_grow_79 rfl ⟨rfl, xs_fr_si (xs_fr_al xs_fr_rf (by decide)) (by decide), dv_Ls_push hL c47⟩
    have hico : ∀ c0, c0 < tb_nc w h → vp_in (nI c0) 16 := fun c0 q => vp_inN (by omega) (by decide)
    refine xs_Ct_of (L := [some (.ref (ad 19)), some (.int (nI (c))), some (.long (lN S)), none, none, none, none, none]) rfl (Nat.le_of_ble_eq_true rfl) rfl ?_
    refine jq_aload_n dX3_grow_0 rfl rfl ?_
    refine xq_getR 1 fX3_15 dX3_grow_1 (xs_lt (by decide) hn) (by decide) ?_
    refine jq_astore dX3_grow_4 (by decide) rfl rfl ?_
    refine jq_iload_n dX3_grow_6 rfl rfl ?_
    refine jq_leZ (tgt := 29) dX3_grow_7 (by decide) (by omega) (fun c7 => ?_) (fun c7 => ?_)
    · exact h29
    · refine jq_aload dX3_grow_10 rfl ?_
      refine jq_lload_n dX3_grow_12 rfl rfl ?_
      refine jq_aload dX3_grow_13 rfl ?_
      refine xq_getR 9 fX3_31 dX3_grow_15 (xs_lt (by decide) hn) (by decide) ?_
      refine jq_iload_n dX3_grow_18 rfl rfl ?_
      refine jq_iconst (v := (nI 1)) dX3_grow_19 (by decide) ?_
      refine jq_isubN dX3_grow_20 (by omega) ?_
      refine xq_iaload dX3_grow_21 (xs_lt (by decide) hn) rfl (hico (c - 1) (by omega)) (xs_rd (hT.2.2.2.2.2 (c - 1) (by omega)).1 (by omega)) ?_
      refine xq_vI dX3_grow_22 kX3_37 (c_X0_hasFork hn hT hS (tb_cor_lt hT.1 (c - 1) (by omega))) (xs_lt (by decide) hn) ⟨rfl, rfl⟩ rfl rfl (Nat.le_of_ble_eq_true rfl) (xs_fit_d (by omega) (by decide)) ?_
      refine jq_if_eq (tgt := 29) dX3_grow_25 (by decide) (fun c25 => ?_) (fun c25 => ?_)
      · exact h29
      · have d25 : 2 < dv_deg w h S (dv_cor w (c - 1)) := of_decide_eq_true (tb_b1.mp c25)
        have e1 : dv_tree w h 0 c S = [] := by
          have := dv_tree_fork hT.1 (k := 0) (c := c - 1) (S := S) (by omega) d25
          rw [show c - 1 + 1 = c by omega] at this
          exact this
        rw [e1, List.append_nil]
        exact xq_return rfl dX3_grow_28 rfl ⟨rfl, xs_fr_rf, hL⟩
  | succ k ih =>
    intro d c S L X hd hT hk hS hL hlen
    have hz := tb_sizes hT.1
    have hcc : c < tb_nc w h := by omega
    have hST := dv_xor_lt (a := c) hT.1 hS
    have hea := dv_ea_lt hT.1 (h := h) c
    have ha := hT.2.2.2.1 c (by omega)
    have hi2 : vp_in (nI c) 17 := vp_inN (by omega) (by decide)
    have hfit : xs_fit (jq_R d 0 0) mX3_grow (k + 3) 0 0 := xs_fit_d (by omega) (by decide)
    have h113T : S.testBit c = true → jq_J l G mX3_grow (jq_R d 0 0) jq_E0 (xs_Ye G n ad (xs_pv (fun X' => xs_fr [20] [(19, 2)] X X' ∧ dv_Ls (L ++ dv_tree w h (k + 1) c S) X'))) 113 [some (.ref (ad 19)), some (.int (nI (c))), some (.long (lN S)), none, some (.ref (ad 1)), some (.long (lN (S ^^^ dv_ea w h c))), none, some (.int (tb_b (S.testBit c)))] [.long (lN S), .int (nI (c + 1)), .ref (ad 19)] n ad (xs_mem G ad X) 0 0 := by
      intro q
      have e1 : dv_tree w h (k + 1) c S = dv_tree w h k (c + 1) S ++ dv_tree w h k (c + 1) (S ^^^ dv_ea w h c) := by rw [dv_tree, if_pos q]
      rw [e1, List.length_append] at hlen
      rw [e1]
      refine xq_rSV dX3_grow_113 kX3_27 (ih (k + 3) (c + 1) S L X rfl hT (by omega) hS hL (by omega)) rfl rfl (Nat.le_of_ble_eq_true rfl) (hfit) (fun X113 h113 => ?_)
      refine jq_aload_n dX3_grow_116 rfl rfl ?_
      refine jq_iload_n dX3_grow_117 rfl rfl ?_
      refine jq_iconst (v := (nI 1)) dX3_grow_118 (by decide) ?_
      refine jq_iaddN dX3_grow_119 ?_
      refine jq_iload dX3_grow_120 rfl ?_
      refine jq_if_eq (tgt := 130) dX3_grow_122 (by decide) (fun c122 => ?_) (fun c122 => ?_)
      · exact absurd c122 (tb_b1.mpr q)
      · refine jq_lload dX3_grow_125 rfl ?_
        refine jq_goto (tgt := 131) dX3_grow_127 (by decide) ?_
        refine xq_rSV dX3_grow_131 kX3_27 (ih (k + 3) (c + 1) (S ^^^ dv_ea w h c) (L ++ dv_tree w h k (c + 1) S) X113 rfl (dv_fr hT h113.1) (by omega) hST h113.2 (by rw [List.length_append]; omega)) rfl rfl (Nat.le_of_ble_eq_true rfl) (hfit) (fun X131 h131 => ?_)
        exact xq_return rfl dX3_grow_134 rfl (⟨rfl, xs_fr_tr h113.1 h131.1, by rw [← List.append_assoc]; exact h131.2⟩)
    have h113F : S.testBit c = false → jq_J l G mX3_grow (jq_R d 0 0) jq_E0 (xs_Ye G n ad (xs_pv (fun X' => xs_fr [20] [(19, 2)] X X' ∧ dv_Ls (L ++ dv_tree w h (k + 1) c S) X'))) 113 [some (.ref (ad 19)), some (.int (nI (c))), some (.long (lN S)), none, some (.ref (ad 1)), some (.long (lN (S ^^^ dv_ea w h c))), none, some (.int (tb_b (S.testBit c)))] [.long (lN (S ^^^ dv_ea w h c)), .int (nI (c + 1)), .ref (ad 19)] n ad (xs_mem G ad X) 0 0 := by
      intro q
      have e1 : dv_tree w h (k + 1) c S = dv_tree w h k (c + 1) (S ^^^ dv_ea w h c) ++ dv_tree w h k (c + 1) S := by rw [dv_tree, if_neg (by rw [q]; decide)]
      rw [e1, List.length_append] at hlen
      rw [e1]
      refine xq_rSV dX3_grow_113 kX3_27 (ih (k + 3) (c + 1) (S ^^^ dv_ea w h c) L X rfl hT (by omega) hST hL (by omega)) rfl rfl (Nat.le_of_ble_eq_true rfl) (hfit) (fun X113 h113 => ?_)
      refine jq_aload_n dX3_grow_116 rfl rfl ?_
      refine jq_iload_n dX3_grow_117 rfl rfl ?_
      refine jq_iconst (v := (nI 1)) dX3_grow_118 (by decide) ?_
      refine jq_iaddN dX3_grow_119 ?_
      refine jq_iload dX3_grow_120 rfl ?_
      refine jq_if_eq (tgt := 130) dX3_grow_122 (by decide) (fun c122 => ?_) (fun c122 => ?_)
      · refine jq_lload_n dX3_grow_130 rfl rfl ?_
        refine xq_rSV dX3_grow_131 kX3_27 (ih (k + 3) (c + 1) S (L ++ dv_tree w h k (c + 1) (S ^^^ dv_ea w h c)) X113 rfl (dv_fr hT h113.1) (by omega) hS h113.2 (by rw [List.length_append]; omega)) rfl rfl (Nat.le_of_ble_eq_true rfl) (hfit) (fun X131 h131 => ?_)
        exact xq_return rfl dX3_grow_134 rfl (⟨rfl, xs_fr_tr h113.1 h131.1, by rw [← List.append_assoc]; exact h131.2⟩)
      · exact absurd (tb_b0.mpr q) c122
    have h29 : jq_J l G mX3_grow (jq_R d 0 0) jq_E0 (xs_Ye G n ad (xs_pv (fun X' => xs_fr [20] [(19, 2)] X X' ∧ dv_Ls (L ++ dv_tree w h (k + 1) c S) X'))) 29 [some (.ref (ad 19)), some (.int (nI (c))), some (.long (lN S)), none, some (.ref (ad 1)), none, none, none] [] n ad (xs_mem G ad X) 0 0 := by
      refine jq_iload_n dX3_grow_29 rfl rfl ?_
      refine jq_aload dX3_grow_30 rfl ?_
      refine xq_getI fX3_41 dX3_grow_32 (xs_lt (by decide) hn) (by decide) hT.2.1.2.2.1 ?_
      refine jq_ltN (tgt := 80) dX3_grow_35 (by decide) ⟨by omega, by omega⟩ (fun c35 => ?_) (fun c35 => ?_)
      · refine jq_lload_n dX3_grow_80 rfl rfl ?_
        refine jq_aload dX3_grow_81 rfl ?_
        refine xq_getR 3 fX3_48 dX3_grow_83 (xs_lt (by decide) hn) (by decide) ?_
        refine jq_iload_n dX3_grow_86 rfl rfl ?_
        refine xq_laload dX3_grow_87 (xs_lt (by decide) hn) rfl hi2 (xs_rdL ha (by omega)) ?_
        refine jq_lxor dX3_grow_88 ?_
        rw [fb_xorL]
        refine jq_lstore dX3_grow_89 (by decide) rfl rfl ?_
        refine jq_lload_n dX3_grow_91 rfl rfl ?_
        refine jq_iload_n dX3_grow_92 rfl rfl ?_
        refine xq_sI dX3_grow_93 kX3_51 (c_X5_has (by omega) (by omega)) rfl rfl (Nat.le_of_ble_eq_true rfl) (xs_fit_d (by omega) (by decide)) ?_
        refine jq_istore dX3_grow_96 (by decide) rfl rfl ?_
        refine jq_aload_n dX3_grow_98 rfl rfl ?_
        refine jq_iload_n dX3_grow_99 rfl rfl ?_
        refine jq_iconst (v := (nI 1)) dX3_grow_100 (by decide) ?_
        refine jq_iaddN dX3_grow_101 ?_
        refine jq_iload dX3_grow_102 rfl ?_
        refine jq_if_eq (tgt := 111) dX3_grow_104 (by decide) (fun c104 => ?_) (fun c104 => ?_)
        · refine jq_lload dX3_grow_111 rfl ?_
          first
            | exact h113T (tb_b1.mp c104)
            | exact h113F (tb_b0.mp c104)
        · refine jq_lload_n dX3_grow_107 rfl rfl ?_
          refine jq_goto (tgt := 113) dX3_grow_108 (by decide) ?_
          first
            | exact h113T (tb_b1.mp c104)
            | exact h113F (tb_b0.mp c104)
      · exact absurd c35 (by omega)
    have hico : ∀ c0, c0 < tb_nc w h → vp_in (nI c0) 16 := fun c0 q => vp_inN (by omega) (by decide)
    refine xs_Ct_of (L := [some (.ref (ad 19)), some (.int (nI (c))), some (.long (lN S)), none, none, none, none, none]) rfl (Nat.le_of_ble_eq_true rfl) rfl ?_
    refine jq_aload_n dX3_grow_0 rfl rfl ?_
    refine xq_getR 1 fX3_15 dX3_grow_1 (xs_lt (by decide) hn) (by decide) ?_
    refine jq_astore dX3_grow_4 (by decide) rfl rfl ?_
    refine jq_iload_n dX3_grow_6 rfl rfl ?_
    refine jq_leZ (tgt := 29) dX3_grow_7 (by decide) (by omega) (fun c7 => ?_) (fun c7 => ?_)
    · exact h29
    · refine jq_aload dX3_grow_10 rfl ?_
      refine jq_lload_n dX3_grow_12 rfl rfl ?_
      refine jq_aload dX3_grow_13 rfl ?_
      refine xq_getR 9 fX3_31 dX3_grow_15 (xs_lt (by decide) hn) (by decide) ?_
      refine jq_iload_n dX3_grow_18 rfl rfl ?_
      refine jq_iconst (v := (nI 1)) dX3_grow_19 (by decide) ?_
      refine jq_isubN dX3_grow_20 (by omega) ?_
      refine xq_iaload dX3_grow_21 (xs_lt (by decide) hn) rfl (hico (c - 1) (by omega)) (xs_rd (hT.2.2.2.2.2 (c - 1) (by omega)).1 (by omega)) ?_
      refine xq_vI dX3_grow_22 kX3_37 (c_X0_hasFork hn hT hS (tb_cor_lt hT.1 (c - 1) (by omega))) (xs_lt (by decide) hn) ⟨rfl, rfl⟩ rfl rfl (Nat.le_of_ble_eq_true rfl) (xs_fit_d (by omega) (by decide)) ?_
      refine jq_if_eq (tgt := 29) dX3_grow_25 (by decide) (fun c25 => ?_) (fun c25 => ?_)
      · exact h29
      · have d25 : 2 < dv_deg w h S (dv_cor w (c - 1)) := of_decide_eq_true (tb_b1.mp c25)
        have e1 : dv_tree w h (k + 1) c S = [] := by
          have := dv_tree_fork hT.1 (k := k + 1) (c := c - 1) (S := S) (by omega) d25
          rw [show c - 1 + 1 = c by omega] at this
          exact this
        rw [e1, List.append_nil]
        exact xq_return rfl dX3_grow_28 rfl ⟨rfl, xs_fr_rf, hL⟩
def dv_LC (w h : Nat) (X : xs_T) : Prop := X.1 19 3 = 0 ∨ (X.1 19 3 = 1 ∧ dv_Ls (dv_loops w h) X)
set_option maxHeartbeats 4000000 in
theorem c_X3_forget {l : Launch} {G : jq_G} {n : Nat} {ad : Nat → Nat} {X : xs_T} (hn : 21 ≤ n) : xs_Ct l G mX3_forget 1 [.ref (ad 19)] n ad X (xs_pv (fun X' => xs_fr [] [(19, 3)] X X' ∧ X'.1 19 3 = 0)) := by
  refine xs_Ct_of (L := [some (.ref (ad 19))]) rfl (Nat.le_of_ble_eq_true rfl) rfl ?_
  refine jq_aload_n dX3_forget_0 rfl rfl ?_
  refine jq_iconst (v := 0) dX3_forget_1 (by decide) ?_
  refine xq_putI pX3_19 dX3_forget_2 (xs_lt (by decide) hn) (by decide) rfl rfl ?_
  exact xq_return rfl dX3_forget_5 rfl (⟨rfl, xs_fr_si xs_fr_rf (by decide), xs_si_at⟩)
set_option maxHeartbeats 4000000 in
theorem c_X3_find {l : Launch} {G : jq_G} {n : Nat} {ad : Nat → Nat} {X : xs_T} (hn : 21 ≤ n) {w h : Nat} (hT : dv_T w h X) (hLC : dv_LC w h X) : xs_Ct l G mX3_find 20 [.ref (ad 19)] n ad X (xs_pv (fun X' => xs_fr [20] [(19, 2), (19, 3)] X X' ∧ X'.1 19 3 = 1 ∧ dv_Ls (dv_loops w h) X')) := by
  have hz := tb_sizes hT.1
  have hle := dv_loops_le hT.1
  have hfE : xs_fr [20] [(19, 2), (19, 3)] X (xs_si X 19 2 (nI 0)) := xs_fr_si xs_fr_rf (by decide)
  refine xs_Ct_of (L := [some (.ref (ad 19))]) rfl (Nat.le_of_ble_eq_true rfl) rfl ?_
  rcases hLC with h0 | ⟨h1, hL⟩
  · skip
    refine jq_aload_n dX3_find_0 rfl rfl ?_
    refine xq_getI fX3_19 dX3_find_1 (xs_lt (by decide) hn) (by decide) h0 ?_
    refine jq_if_ne (tgt := 23) dX3_find_4 (by decide) (fun c4 => ?_) (fun c4 => ?_)
    · exact absurd rfl c4
    · refine jq_aload_n dX3_find_7 rfl rfl ?_
      refine jq_iconst (v := (nI 0)) dX3_find_8 (by decide) ?_
      refine xq_putI pX3_23 dX3_find_9 (xs_lt (by decide) hn) (by decide) rfl rfl ?_
      refine jq_aload_n dX3_find_12 rfl rfl ?_
      refine jq_iconst (v := (nI 0)) dX3_find_13 (by decide) ?_
      refine jq_lconst (v := (lN 0)) dX3_find_14 (by decide) ?_
      refine xq_rSV dX3_find_15 kX3_27 (c_X3_grow hn (w := w) (h := h) (tb_nc w h) (tb_nc w h + 3) 0 0 [] (xs_si X 19 2 (nI 0)) rfl (dv_fr hT hfE) (by omega) (by decide) ⟨xs_si_at, fun k x hx => by cases hx⟩ (by show 0 + (dv_loops w h).length ≤ 9349; omega)) rfl rfl (Nat.le_of_ble_eq_true rfl) (xs_fit_d (by omega) (by decide)) (fun X15 h15 => ?_)
      refine jq_aload_n dX3_find_18 rfl rfl ?_
      refine jq_iconst (v := 1) dX3_find_19 (by decide) ?_
      refine xq_putI pX3_19 dX3_find_20 (xs_lt (by decide) hn) (by decide) rfl rfl ?_
      have hfF : xs_fr [] [(19, 3)] X15 (xs_si X15 19 3 1) := xs_fr_si xs_fr_rf (by decide)
      exact xq_return rfl dX3_find_23 rfl ⟨rfl, xs_fr_si (xs_fr_tr hfE (xs_fr_mo h15.1 (by decide))) (by decide), xs_si_at, dv_lsfr h15.2 hfF⟩
  · skip
    refine jq_aload_n dX3_find_0 rfl rfl ?_
    refine xq_getI fX3_19 dX3_find_1 (xs_lt (by decide) hn) (by decide) h1 ?_
    refine jq_if_ne (tgt := 23) dX3_find_4 (by decide) (fun c4 => ?_) (fun c4 => ?_)
    · exact xq_return rfl dX3_find_23 rfl (⟨rfl, xs_fr_rf, h1, hL⟩)
    · exact absurd c4 (by decide)
