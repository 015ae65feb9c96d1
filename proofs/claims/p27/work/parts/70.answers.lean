/-! the class's answers: its loops that fit -/
def dv_fits (w h : Nat) (num : Nat → Int32) (A B : Nat) (ig : Int32) (S : Nat) : Bool := ((S &&& A == A) && (S &&& B == 0)) && dv_right w h num S ig
theorem dv_loops_lt2 {w h : Nat} (hW : tb_W w h) {x : Nat} (hx : x ∈ dv_loops w h) : x < 2 ^ tb_ne w h := by
  obtain ⟨-, C, -, rfl⟩ := (dv_mem_loops hW).mp hx
  exact dv_bd_lt
theorem dv_loops_lt {w h : Nat} (hW : tb_W w h) {x : Nat} (hx : x ∈ dv_loops w h) : x < 2 ^ 40 := dv_set_lt hW (dv_loops_lt2 hW hx)
theorem dv_isLoop_pos {w h x : Nat} (hx : dv_isLoop w h x = true) : x ≠ 0 := by
  intro q
  subst q
  simp [dv_isLoop] at hx
theorem dv_loops_pos {w h : Nat} (hW : tb_W w h) {x : Nat} (hx : x ∈ dv_loops w h) : x ≠ 0 := dv_isLoop_pos ((dv_mem_loops hW).mp hx).1
/-- the answer with the number a, counted from c on; 0 if there are not so many -/
def dv_pick (f : Nat → Bool) (a : Int32) : List Nat → Nat → Nat
  | [], _ => 0
  | S :: t, c => if f S = true then (if nI c = a then S else dv_pick f a t (c + 1)) else dv_pick f a t c
def dv_gA (f : Nat → Bool) (a S : Nat) : Nat := if f S = true then a &&& S else a
def dv_gS (f : Nat → Bool) (a S : Nat) : Nat := if f S = true then a ||| S else a
abbrev dv_SL : List Nat := [20]
abbrev dv_FL : List (Nat × Nat) := [(19, 2), (19, 3)]
set_option maxHeartbeats 4000000 in
theorem c_X3_isAnswerFor {l : Launch} {G : jq_G} {n : Nat} {ad : Nat → Nat} {X : xs_T} (hn : 21 ≤ n) {w h : Nat} {num : Nat → Int32} (hT : dv_T w h X) (hN : dv_N w h num X) {A B S : Nat} (hA : A < 2 ^ 40) (hB : B < 2 ^ 40) (hS : S < 2 ^ 40) (ig : Int32) : xs_Ct l G mX3_isAnswerFor 3 [.ref (ad 19), .long (lN A), .long (lN B), .int (ig), .long (lN S)] n ad X (xs_pd (some (.int (tb_b (dv_fits w h num A B ig S)))) X) := by
  have hSA : S &&& A < 2 ^ 40 := dv_and_lt hS
  have hSB : S &&& B < 2 ^ 40 := dv_and_lt hS
  refine xs_Ct_of (L := [some (.ref (ad 19)), some (.long (lN A)), none, some (.long (lN B)), none, some (.int (ig)), some (.long (lN S)), none]) rfl (Nat.le_of_ble_eq_true rfl) rfl ?_
  refine jq_lload dX3_isAnswerFor_0 rfl ?_
  refine jq_lload_n dX3_isAnswerFor_2 rfl rfl ?_
  refine jq_land dX3_isAnswerFor_3 ?_
  rw [wb_and (by omega) (by omega)]
  refine jq_lload_n dX3_isAnswerFor_4 rfl rfl ?_
  refine jq_lcmp dX3_isAnswerFor_5 ?_
  refine jq_if_ne (tgt := 36) dX3_isAnswerFor_6 (by decide) (fun c6 => ?_) (fun c6 => ?_)
  · have d6 : ¬ S &&& A = A := fun q => c6 ((dv_cmp (by omega) (by omega)).mpr q)
    refine jq_iconst (v := 0) dX3_isAnswerFor_36 (by decide) ?_
    exact xq_ireturn dX3_isAnswerFor_37 rfl rfl (⟨by unfold dv_fits; simp [*, tb_b], rfl⟩)
  · have d6 : S &&& A = A := (dv_cmp (by omega) (by omega)).mp c6
    refine jq_lload dX3_isAnswerFor_9 rfl ?_
    refine jq_lload_n dX3_isAnswerFor_11 rfl rfl ?_
    refine jq_land dX3_isAnswerFor_12 ?_
    rw [wb_and (by omega) (by omega)]
    refine jq_lconst (v := 0) dX3_isAnswerFor_13 (by decide) ?_
    refine jq_lcmp dX3_isAnswerFor_14 ?_
    refine jq_if_ne (tgt := 36) dX3_isAnswerFor_15 (by decide) (fun c15 => ?_) (fun c15 => ?_)
    · have d15 : ¬ S &&& B = 0 := fun q => c15 ((lN_eq0 (by omega)).mpr q)
      refine jq_iconst (v := 0) dX3_isAnswerFor_36 (by decide) ?_
      exact xq_ireturn dX3_isAnswerFor_37 rfl rfl (⟨by unfold dv_fits; simp [*, tb_b], rfl⟩)
    · have d15 : S &&& B = 0 := (lN_eq0 (by omega)).mp c15
      refine jq_aload_n dX3_isAnswerFor_18 rfl rfl ?_
      refine xq_getR 1 fX3_15 dX3_isAnswerFor_19 (xs_lt (by decide) hn) (by decide) ?_
      refine jq_lload dX3_isAnswerFor_22 rfl ?_
      refine jq_iload dX3_isAnswerFor_24 rfl ?_
      refine xq_vI dX3_isAnswerFor_26 kX3_54 (c_X0_numbersAreRight hn hT hN hS ig) (xs_lt (by decide) hn) ⟨rfl, rfl⟩ rfl rfl (Nat.le_of_ble_eq_true rfl) ⟨⟨by decide, by decide⟩, Nat.le_refl _, Nat.le_refl _⟩ ?_
      refine jq_if_eq (tgt := 36) dX3_isAnswerFor_29 (by decide) (fun c29 => ?_) (fun c29 => ?_)
      · have d29 := tb_b0.mp c29
        refine jq_iconst (v := 0) dX3_isAnswerFor_36 (by decide) ?_
        exact xq_ireturn dX3_isAnswerFor_37 rfl rfl (⟨by unfold dv_fits; simp [*, tb_b], rfl⟩)
      · have d29 := tb_b1.mp c29
        refine jq_iconst (v := 1) dX3_isAnswerFor_32 (by decide) ?_
        refine jq_goto (tgt := 37) dX3_isAnswerFor_33 (by decide) ?_
        exact xq_ireturn dX3_isAnswerFor_37 rfl rfl (⟨by unfold dv_fits; simp [*, tb_b], rfl⟩)
set_option maxHeartbeats 4000000 in
theorem c_X3_countAnswers {l : Launch} {G : jq_G} {n : Nat} {ad : Nat → Nat} {X : xs_T} (hn : 21 ≤ n) {w h : Nat} {num : Nat → Int32} (hT : dv_T w h X) (hN : dv_N w h num X) (hLC : dv_LC w h X) {A B : Nat} (hA : A < 2 ^ 40) (hB : B < 2 ^ 40) (ig : Int32) : xs_Ct l G mX3_countAnswers 21 [.ref (ad 19), .long (lN A), .long (lN B), .int (ig)] n ad X (xs_pi (fun v X' => v = nI ((dv_loops w h).filter (dv_fits w h num A B ig)).length ∧ xs_fr dv_SL dv_FL X X' ∧ dv_LC w h X')) := by
  have hle := dv_loops_le hT.1
  have loop : ∀ (Y : xs_T) (hf : xs_fr dv_SL dv_FL X Y) (h3 : Y.1 19 3 = 1) (hL : dv_Ls (dv_loops w h) Y) (rest pre : List Nat) (c : Nat), dv_loops w h = pre ++ rest → c = (pre.filter (dv_fits w h num A B ig)).length → jq_J l G mX3_countAnswers (jq_R 21 0 0) jq_E0 (xs_Ye G n ad (xs_pi (fun v X' => v = nI ((dv_loops w h).filter (dv_fits w h num A B ig)).length ∧ xs_fr dv_SL dv_FL X X' ∧ dv_LC w h X'))) 10 [some (.ref (ad 19)), some (.long (lN A)), none, some (.long (lN B)), none, some (.int (ig)), some (.int (nI (c))), some (.int (nI (pre.length)))] [] n ad (xs_mem G ad Y) 0 0 := by
    intro Y hf h3 hL rest
    have hT1 := dv_fr hT hf
    have hN1 := dv_nfr hN hf
    induction rest with
    | nil =>
      intro pre c hp hc
      have hlen : (dv_loops w h).length = pre.length := by rw [hp, List.append_nil]
      refine jq_iload dX3_countAnswers_10 rfl ?_
      refine jq_aload_n dX3_countAnswers_12 rfl rfl ?_
      refine xq_getI fX3_23 dX3_countAnswers_13 (xs_lt (by decide) hn) (by decide) hL.1 ?_
      refine jq_geN (tgt := 46) dX3_countAnswers_16 (by decide) ⟨by omega, by omega⟩ (fun c16 => ?_) (fun c16 => ?_)
      · refine jq_iload dX3_countAnswers_46 rfl ?_
        exact xq_ireturn dX3_countAnswers_48 rfl rfl (⟨_, rfl, by rw [hc, hp, List.append_nil], hf, Or.inr ⟨h3, hL⟩⟩)
      · exact absurd c16 (by omega)
    | cons S rest ih =>
      intro pre c hp hc
      have hlen : (dv_loops w h).length = pre.length + 1 + rest.length := by rw [hp]; simp; omega
      have hat := dv_Ls_at hL hp
      have hS := dv_loops_lt hT.1 (x := S) (by rw [hp]; simp)
      have hi : vp_in (nI pre.length) 9349 := vp_inN (by omega) (by decide)
      have hpx : dv_loops w h = (pre ++ [S]) ++ rest := by rw [hp]; simp
      have hih := ih (pre ++ [S])
      rw [show (pre ++ [S]).length = pre.length + 1 by simp] at hih
      refine jq_iload dX3_countAnswers_10 rfl ?_
      refine jq_aload_n dX3_countAnswers_12 rfl rfl ?_
      refine xq_getI fX3_23 dX3_countAnswers_13 (xs_lt (by decide) hn) (by decide) hL.1 ?_
      refine jq_geN (tgt := 46) dX3_countAnswers_16 (by decide) ⟨by omega, by omega⟩ (fun c16 => ?_) (fun c16 => ?_)
      · exact absurd c16 (by omega)
      · refine jq_aload_n dX3_countAnswers_19 rfl rfl ?_
        refine jq_lload_n dX3_countAnswers_20 rfl rfl ?_
        refine jq_lload_n dX3_countAnswers_21 rfl rfl ?_
        refine jq_iload dX3_countAnswers_22 rfl ?_
        refine jq_aload_n dX3_countAnswers_24 rfl rfl ?_
        refine xq_getR 20 fX3_9 dX3_countAnswers_25 (xs_lt (by decide) hn) (by decide) ?_
        refine jq_iload dX3_countAnswers_28 rfl ?_
        refine xq_laload dX3_countAnswers_30 (xs_lt (by decide) hn) rfl hi (xs_rdL hat (by omega)) ?_
        refine xq_vI dX3_countAnswers_31 kX3_60 (c_X3_isAnswerFor hn hT1 hN1 hA hB hS ig) (xs_lt (by decide) hn) ⟨rfl, rfl⟩ rfl rfl (Nat.le_of_ble_eq_true rfl) ⟨⟨by decide, by decide⟩, Nat.le_refl _, Nat.le_refl _⟩ ?_
        refine jq_if_eq (tgt := 40) dX3_countAnswers_34 (by decide) (fun c34 => ?_) (fun c34 => ?_)
        · have d34 := tb_b0.mp c34
          refine jq_iincN dX3_countAnswers_40 (by decide) rfl rfl rfl ?_
          refine jq_goto (tgt := 10) dX3_countAnswers_43 (by decide) ?_
          first
            | exact hih c hpx (by rw [hc, List.filter_append]; simp [d34])
            | exact hih (c + 1) hpx (by rw [hc, List.filter_append]; simp [d34])
        · have d34 := tb_b1.mp c34
          refine jq_iincN dX3_countAnswers_37 (by decide) rfl rfl rfl ?_
          refine jq_iincN dX3_countAnswers_40 (by decide) rfl rfl rfl ?_
          refine jq_goto (tgt := 10) dX3_countAnswers_43 (by decide) ?_
          first
            | exact hih c hpx (by rw [hc, List.filter_append]; simp [d34])
            | exact hih (c + 1) hpx (by rw [hc, List.filter_append]; simp [d34])
  refine xs_Ct_of (L := [some (.ref (ad 19)), some (.long (lN A)), none, some (.long (lN B)), none, some (.int (ig)), none, none]) rfl (Nat.le_of_ble_eq_true rfl) rfl ?_
  refine jq_aload_n dX3_countAnswers_0 rfl rfl ?_
  refine xq_rV dX3_countAnswers_1 kX3_57 (c_X3_find hn hT hLC) (xs_lt (by decide) hn) ⟨rfl, rfl⟩ rfl rfl (Nat.le_of_ble_eq_true rfl) ⟨⟨by decide, by decide⟩, Nat.le_refl _, Nat.le_refl _⟩ (fun X1 h1 => ?_)
  obtain ⟨hf1, h31, hL1⟩ := h1
  refine jq_iconst (v := (nI 0)) dX3_countAnswers_4 (by decide) ?_
  refine jq_istore dX3_countAnswers_5 (by decide) rfl rfl ?_
  refine jq_iconst (v := (nI 0)) dX3_countAnswers_7 (by decide) ?_
  refine jq_istore dX3_countAnswers_8 (by decide) rfl rfl ?_
  exact loop X1 hf1 h31 hL1 (dv_loops w h) [] 0 rfl rfl
set_option maxHeartbeats 4000000 in
theorem c_X3_findAnswer {l : Launch} {G : jq_G} {n : Nat} {ad : Nat → Nat} {X : xs_T} (hn : 21 ≤ n) {w h : Nat} {num : Nat → Int32} (hT : dv_T w h X) (hN : dv_N w h num X) (hLC : dv_LC w h X) {A B : Nat} (hA : A < 2 ^ 40) (hB : B < 2 ^ 40) (a : Int32) : xs_Ct l G mX3_findAnswer 21 [.ref (ad 19), .long (lN A), .long (lN B), .int (a)] n ad X (xs_pl (fun v X' => v = lN (dv_pick (dv_fits w h num A B (-1)) a (dv_loops w h) 0) ∧ xs_fr dv_SL dv_FL X X' ∧ dv_LC w h X')) := by
  have hle := dv_loops_le hT.1
  have loop : ∀ (Y : xs_T) (hf : xs_fr dv_SL dv_FL X Y) (h3 : Y.1 19 3 = 1) (hL : dv_Ls (dv_loops w h) Y) (rest pre : List Nat) (c : Nat), dv_loops w h = pre ++ rest → dv_pick (dv_fits w h num A B (-1)) a (dv_loops w h) 0 = dv_pick (dv_fits w h num A B (-1)) a rest c → jq_J l G mX3_findAnswer (jq_R 21 0 0) jq_E0 (xs_Ye G n ad (xs_pl (fun v X' => v = lN (dv_pick (dv_fits w h num A B (-1)) a (dv_loops w h) 0) ∧ xs_fr dv_SL dv_FL X X' ∧ dv_LC w h X'))) 10 [some (.ref (ad 19)), some (.long (lN A)), none, some (.long (lN B)), none, some (.int (a)), some (.int (nI (c))), some (.int (nI (pre.length)))] [] n ad (xs_mem G ad Y) 0 0 := by
    intro Y hf h3 hL rest
    have hT1 := dv_fr hT hf
    have hN1 := dv_nfr hN hf
    induction rest with
    | nil =>
      intro pre c hp hr
      have hlen : (dv_loops w h).length = pre.length := by rw [hp, List.append_nil]
      refine jq_iload dX3_findAnswer_10 rfl ?_
      refine jq_aload_n dX3_findAnswer_12 rfl rfl ?_
      refine xq_getI fX3_23 dX3_findAnswer_13 (xs_lt (by decide) hn) (by decide) hL.1 ?_
      refine jq_geN (tgt := 60) dX3_findAnswer_16 (by decide) ⟨by omega, by omega⟩ (fun c16 => ?_) (fun c16 => ?_)
      · refine jq_lconst (v := (lN 0)) dX3_findAnswer_60 (by decide) ?_
        exact xq_lreturn dX3_findAnswer_61 rfl (⟨_, rfl, by rw [hr]; rfl, hf, Or.inr ⟨h3, hL⟩⟩)
      · exact absurd c16 (by omega)
    | cons S rest ih =>
      intro pre c hp hr
      have hlen : (dv_loops w h).length = pre.length + 1 + rest.length := by rw [hp]; simp; omega
      have hat := dv_Ls_at hL hp
      have hS := dv_loops_lt hT.1 (x := S) (by rw [hp]; simp)
      have hi : vp_in (nI pre.length) 9349 := vp_inN (by omega) (by decide)
      have hpx : dv_loops w h = (pre ++ [S]) ++ rest := by rw [hp]; simp
      have hih := ih (pre ++ [S])
      rw [show (pre ++ [S]).length = pre.length + 1 by simp] at hih
      rw [dv_pick] at hr
      refine jq_iload dX3_findAnswer_10 rfl ?_
      refine jq_aload_n dX3_findAnswer_12 rfl rfl ?_
      refine xq_getI fX3_23 dX3_findAnswer_13 (xs_lt (by decide) hn) (by decide) hL.1 ?_
      refine jq_geN (tgt := 60) dX3_findAnswer_16 (by decide) ⟨by omega, by omega⟩ (fun c16 => ?_) (fun c16 => ?_)
      · exact absurd c16 (by omega)
      · refine jq_aload_n dX3_findAnswer_19 rfl rfl ?_
        refine jq_lload_n dX3_findAnswer_20 rfl rfl ?_
        refine jq_lload_n dX3_findAnswer_21 rfl rfl ?_
        refine jq_iconst (v := (-1)) dX3_findAnswer_22 (by decide) ?_
        refine jq_aload_n dX3_findAnswer_23 rfl rfl ?_
        refine xq_getR 20 fX3_9 dX3_findAnswer_24 (xs_lt (by decide) hn) (by decide) ?_
        refine jq_iload dX3_findAnswer_27 rfl ?_
        refine xq_laload dX3_findAnswer_29 (xs_lt (by decide) hn) rfl hi (xs_rdL hat (by omega)) ?_
        refine xq_vI dX3_findAnswer_30 kX3_60 (c_X3_isAnswerFor hn hT1 hN1 hA hB hS (-1)) (xs_lt (by decide) hn) ⟨rfl, rfl⟩ rfl rfl (Nat.le_of_ble_eq_true rfl) ⟨⟨by decide, by decide⟩, Nat.le_refl _, Nat.le_refl _⟩ ?_
        refine jq_if_eq (tgt := 54) dX3_findAnswer_33 (by decide) (fun c33 => ?_) (fun c33 => ?_)
        · have d33 := tb_b0.mp c33
          refine jq_iincN dX3_findAnswer_54 (by decide) rfl rfl rfl ?_
          refine jq_goto (tgt := 10) dX3_findAnswer_57 (by decide) ?_
          first
            | exact hih c hpx (by rw [hr, if_neg (by rw [d33]; decide)])
            | exact hih (c + 1) hpx (by rw [hr, if_pos d33, if_neg c40])
        · have d33 := tb_b1.mp c33
          refine jq_iload dX3_findAnswer_36 rfl ?_
          refine jq_iload dX3_findAnswer_38 rfl ?_
          refine jq_icmp_ne (tgt := 51) dX3_findAnswer_40 (by decide) (fun c40 => ?_) (fun c40 => ?_)
          · refine jq_iincN dX3_findAnswer_51 (by decide) rfl rfl rfl ?_
            refine jq_iincN dX3_findAnswer_54 (by decide) rfl rfl rfl ?_
            refine jq_goto (tgt := 10) dX3_findAnswer_57 (by decide) ?_
            first
              | exact hih c hpx (by rw [hr, if_neg (by rw [d33]; decide)])
              | exact hih (c + 1) hpx (by rw [hr, if_pos d33, if_neg c40])
          · refine jq_aload_n dX3_findAnswer_43 rfl rfl ?_
            refine xq_getR 20 fX3_9 dX3_findAnswer_44 (xs_lt (by decide) hn) (by decide) ?_
            refine jq_iload dX3_findAnswer_47 rfl ?_
            refine xq_laload dX3_findAnswer_49 (xs_lt (by decide) hn) rfl hi (xs_rdL hat (by omega)) ?_
            exact xq_lreturn dX3_findAnswer_50 rfl (⟨_, rfl, by rw [hr, if_pos d33, if_pos c40], hf, Or.inr ⟨h3, hL⟩⟩)
  refine xs_Ct_of (L := [some (.ref (ad 19)), some (.long (lN A)), none, some (.long (lN B)), none, some (.int (a)), none, none]) rfl (Nat.le_of_ble_eq_true rfl) rfl ?_
  refine jq_aload_n dX3_findAnswer_0 rfl rfl ?_
  refine xq_rV dX3_findAnswer_1 kX3_57 (c_X3_find hn hT hLC) (xs_lt (by decide) hn) ⟨rfl, rfl⟩ rfl rfl (Nat.le_of_ble_eq_true rfl) ⟨⟨by decide, by decide⟩, Nat.le_refl _, Nat.le_refl _⟩ (fun X1 h1 => ?_)
  obtain ⟨hf1, h31, hL1⟩ := h1
  refine jq_iconst (v := (nI 0)) dX3_findAnswer_4 (by decide) ?_
  refine jq_istore dX3_findAnswer_5 (by decide) rfl rfl ?_
  refine jq_iconst (v := (nI 0)) dX3_findAnswer_7 (by decide) ?_
  refine jq_istore dX3_findAnswer_8 (by decide) rfl rfl ?_
  exact loop X1 hf1 h31 hL1 (dv_loops w h) [] 0 rfl rfl
set_option maxHeartbeats 4000000 in
theorem c_X3_linesOfAll {l : Launch} {G : jq_G} {n : Nat} {ad : Nat → Nat} {X : xs_T} (hn : 21 ≤ n) {w h : Nat} {num : Nat → Int32} (hT : dv_T w h X) (hN : dv_N w h num X) (hLC : dv_LC w h X) {A B : Nat} (hA : A < 2 ^ 40) (hB : B < 2 ^ 40) : xs_Ct l G mX3_linesOfAll 21 [.ref (ad 19), .long (lN A), .long (lN B)] n ad X (xs_pl (fun v X' => v = lN ((dv_loops w h).foldl (dv_gA (dv_fits w h num A B (-1))) (2 ^ tb_ne w h - 1)) ∧ xs_fr dv_SL dv_FL X X' ∧ dv_LC w h X')) := by
  have hle := dv_loops_le hT.1
  have hz := tb_sizes hT.1
  have hpw : 2 ^ tb_ne w h ≤ 2 ^ 40 := Nat.pow_le_pow_right (by decide) hz.2.2.2.2.2.1
  have loop : ∀ (Y : xs_T) (hf : xs_fr dv_SL dv_FL X Y) (h3 : Y.1 19 3 = 1) (hL : dv_Ls (dv_loops w h) Y) (rest pre : List Nat) (c : Nat), dv_loops w h = pre ++ rest → c < 2 ^ 40 → (dv_loops w h).foldl (dv_gA (dv_fits w h num A B (-1))) (2 ^ tb_ne w h - 1) = rest.foldl (dv_gA (dv_fits w h num A B (-1))) c → jq_J l G mX3_linesOfAll (jq_R 21 0 0) jq_E0 (xs_Ye G n ad (xs_pl (fun v X' => v = lN ((dv_loops w h).foldl (dv_gA (dv_fits w h num A B (-1))) (2 ^ tb_ne w h - 1)) ∧ xs_fr dv_SL dv_FL X X' ∧ dv_LC w h X'))) 16 [some (.ref (ad 19)), some (.long (lN A)), none, some (.long (lN B)), none, some (.long (lN c)), none, some (.int (nI (pre.length)))] [] n ad (xs_mem G ad Y) 0 0 := by
    intro Y hf h3 hL rest
    have hT1 := dv_fr hT hf
    have hN1 := dv_nfr hN hf
    induction rest with
    | nil =>
      intro pre c hp hc hr
      have hlen : (dv_loops w h).length = pre.length := by rw [hp, List.append_nil]
      refine jq_iload dX3_linesOfAll_16 rfl ?_
      refine jq_aload_n dX3_linesOfAll_18 rfl rfl ?_
      refine xq_getI fX3_23 dX3_linesOfAll_19 (xs_lt (by decide) hn) (by decide) hL.1 ?_
      refine jq_geN (tgt := 60) dX3_linesOfAll_22 (by decide) ⟨by omega, by omega⟩ (fun c22 => ?_) (fun c22 => ?_)
      · refine jq_lload dX3_linesOfAll_60 rfl ?_
        exact xq_lreturn dX3_linesOfAll_62 rfl (⟨_, rfl, by rw [hr]; rfl, hf, Or.inr ⟨h3, hL⟩⟩)
      · exact absurd c22 (by omega)
    | cons S rest ih =>
      intro pre c hp hc hr
      have hlen : (dv_loops w h).length = pre.length + 1 + rest.length := by rw [hp]; simp; omega
      have hat := dv_Ls_at hL hp
      have hS := dv_loops_lt hT.1 (x := S) (by rw [hp]; simp)
      have hcS : c &&& S < 2 ^ 40 := dv_and_lt hc
      have hi : vp_in (nI pre.length) 9349 := vp_inN (by omega) (by decide)
      have hpx : dv_loops w h = (pre ++ [S]) ++ rest := by rw [hp]; simp
      have hih := ih (pre ++ [S])
      rw [show (pre ++ [S]).length = pre.length + 1 by simp] at hih
      rw [List.foldl_cons] at hr
      refine jq_iload dX3_linesOfAll_16 rfl ?_
      refine jq_aload_n dX3_linesOfAll_18 rfl rfl ?_
      refine xq_getI fX3_23 dX3_linesOfAll_19 (xs_lt (by decide) hn) (by decide) hL.1 ?_
      refine jq_geN (tgt := 60) dX3_linesOfAll_22 (by decide) ⟨by omega, by omega⟩ (fun c22 => ?_) (fun c22 => ?_)
      · exact absurd c22 (by omega)
      · refine jq_aload_n dX3_linesOfAll_25 rfl rfl ?_
        refine jq_lload_n dX3_linesOfAll_26 rfl rfl ?_
        refine jq_lload_n dX3_linesOfAll_27 rfl rfl ?_
        refine jq_iconst (v := (-1)) dX3_linesOfAll_28 (by decide) ?_
        refine jq_aload_n dX3_linesOfAll_29 rfl rfl ?_
        refine xq_getR 20 fX3_9 dX3_linesOfAll_30 (xs_lt (by decide) hn) (by decide) ?_
        refine jq_iload dX3_linesOfAll_33 rfl ?_
        refine xq_laload dX3_linesOfAll_35 (xs_lt (by decide) hn) rfl hi (xs_rdL hat (by omega)) ?_
        refine xq_vI dX3_linesOfAll_36 kX3_60 (c_X3_isAnswerFor hn hT1 hN1 hA hB hS (-1)) (xs_lt (by decide) hn) ⟨rfl, rfl⟩ rfl rfl (Nat.le_of_ble_eq_true rfl) ⟨⟨by decide, by decide⟩, Nat.le_refl _, Nat.le_refl _⟩ ?_
        refine jq_if_eq (tgt := 54) dX3_linesOfAll_39 (by decide) (fun c39 => ?_) (fun c39 => ?_)
        · have d39 := tb_b0.mp c39
          refine jq_iincN dX3_linesOfAll_54 (by decide) rfl rfl rfl ?_
          refine jq_goto (tgt := 16) dX3_linesOfAll_57 (by decide) ?_
          first
            | exact hih c hpx hc (by rw [hr, show dv_gA (dv_fits w h num A B (-1)) c S = c from if_neg (by rw [d39]; decide)])
            | exact hih (c &&& S) hpx hcS (by rw [hr, show dv_gA (dv_fits w h num A B (-1)) c S = c &&& S from if_pos d39])
        · have d39 := tb_b1.mp c39
          refine jq_lload dX3_linesOfAll_42 rfl ?_
          refine jq_aload_n dX3_linesOfAll_44 rfl rfl ?_
          refine xq_getR 20 fX3_9 dX3_linesOfAll_45 (xs_lt (by decide) hn) (by decide) ?_
          refine jq_iload dX3_linesOfAll_48 rfl ?_
          refine xq_laload dX3_linesOfAll_50 (xs_lt (by decide) hn) rfl hi (xs_rdL hat (by omega)) ?_
          refine jq_land dX3_linesOfAll_51 ?_
          rw [wb_and (by omega) (by omega)]
          refine jq_lstore dX3_linesOfAll_52 (by decide) rfl rfl ?_
          refine jq_iincN dX3_linesOfAll_54 (by decide) rfl rfl rfl ?_
          refine jq_goto (tgt := 16) dX3_linesOfAll_57 (by decide) ?_
          first
            | exact hih c hpx hc (by rw [hr, show dv_gA (dv_fits w h num A B (-1)) c S = c from if_neg (by rw [d39]; decide)])
            | exact hih (c &&& S) hpx hcS (by rw [hr, show dv_gA (dv_fits w h num A B (-1)) c S = c &&& S from if_pos d39])
  refine xs_Ct_of (L := [some (.ref (ad 19)), some (.long (lN A)), none, some (.long (lN B)), none, none, none, none]) rfl (Nat.le_of_ble_eq_true rfl) rfl ?_
  refine jq_aload_n dX3_linesOfAll_0 rfl rfl ?_
  refine xq_rV dX3_linesOfAll_1 kX3_57 (c_X3_find hn hT hLC) (xs_lt (by decide) hn) ⟨rfl, rfl⟩ rfl rfl (Nat.le_of_ble_eq_true rfl) ⟨⟨by decide, by decide⟩, Nat.le_refl _, Nat.le_refl _⟩ (fun X1 h1 => ?_)
  obtain ⟨hf1, h31, hL1⟩ := h1
  have hT1 := dv_fr hT hf1
  refine jq_aload_n dX3_linesOfAll_4 rfl rfl ?_
  refine xq_getR 1 fX3_15 dX3_linesOfAll_5 (xs_lt (by decide) hn) (by decide) ?_
  refine xq_getL fX3_64 dX3_linesOfAll_8 (xs_lt (by decide) hn) (by decide) hT1.2.1.2.2.2.2.2.2 ?_
  refine jq_lstore dX3_linesOfAll_11 (by decide) rfl rfl ?_
  refine jq_iconst (v := (nI 0)) dX3_linesOfAll_13 (by decide) ?_
  refine jq_istore dX3_linesOfAll_14 (by decide) rfl rfl ?_
  exact loop X1 hf1 h31 hL1 (dv_loops w h) [] _ rfl (by omega) rfl
set_option maxHeartbeats 4000000 in
theorem c_X3_linesOfSome {l : Launch} {G : jq_G} {n : Nat} {ad : Nat → Nat} {X : xs_T} (hn : 21 ≤ n) {w h : Nat} {num : Nat → Int32} (hT : dv_T w h X) (hN : dv_N w h num X) (hLC : dv_LC w h X) {A B : Nat} (hA : A < 2 ^ 40) (hB : B < 2 ^ 40) : xs_Ct l G mX3_linesOfSome 21 [.ref (ad 19), .long (lN A), .long (lN B)] n ad X (xs_pl (fun v X' => v = lN ((dv_loops w h).foldl (dv_gS (dv_fits w h num A B (-1))) 0) ∧ xs_fr dv_SL dv_FL X X' ∧ dv_LC w h X')) := by
  have hle := dv_loops_le hT.1
  have loop : ∀ (Y : xs_T) (hf : xs_fr dv_SL dv_FL X Y) (h3 : Y.1 19 3 = 1) (hL : dv_Ls (dv_loops w h) Y) (rest pre : List Nat) (c : Nat), dv_loops w h = pre ++ rest → c < 2 ^ 40 → (dv_loops w h).foldl (dv_gS (dv_fits w h num A B (-1))) 0 = rest.foldl (dv_gS (dv_fits w h num A B (-1))) c → jq_J l G mX3_linesOfSome (jq_R 21 0 0) jq_E0 (xs_Ye G n ad (xs_pl (fun v X' => v = lN ((dv_loops w h).foldl (dv_gS (dv_fits w h num A B (-1))) 0) ∧ xs_fr dv_SL dv_FL X X' ∧ dv_LC w h X'))) 10 [some (.ref (ad 19)), some (.long (lN A)), none, some (.long (lN B)), none, some (.long (lN c)), none, some (.int (nI (pre.length)))] [] n ad (xs_mem G ad Y) 0 0 := by
    intro Y hf h3 hL rest
    have hT1 := dv_fr hT hf
    have hN1 := dv_nfr hN hf
    induction rest with
    | nil =>
      intro pre c hp hc hr
      have hlen : (dv_loops w h).length = pre.length := by rw [hp, List.append_nil]
      refine jq_iload dX3_linesOfSome_10 rfl ?_
      refine jq_aload_n dX3_linesOfSome_12 rfl rfl ?_
      refine xq_getI fX3_23 dX3_linesOfSome_13 (xs_lt (by decide) hn) (by decide) hL.1 ?_
      refine jq_geN (tgt := 54) dX3_linesOfSome_16 (by decide) ⟨by omega, by omega⟩ (fun c16 => ?_) (fun c16 => ?_)
      · refine jq_lload dX3_linesOfSome_54 rfl ?_
        exact xq_lreturn dX3_linesOfSome_56 rfl (⟨_, rfl, by rw [hr]; rfl, hf, Or.inr ⟨h3, hL⟩⟩)
      · exact absurd c16 (by omega)
    | cons S rest ih =>
      intro pre c hp hc hr
      have hlen : (dv_loops w h).length = pre.length + 1 + rest.length := by rw [hp]; simp; omega
      have hat := dv_Ls_at hL hp
      have hS := dv_loops_lt hT.1 (x := S) (by rw [hp]; simp)
      have hcS : c ||| S < 2 ^ 40 := Nat.or_lt_two_pow hc hS
      have hi : vp_in (nI pre.length) 9349 := vp_inN (by omega) (by decide)
      have hpx : dv_loops w h = (pre ++ [S]) ++ rest := by rw [hp]; simp
      have hih := ih (pre ++ [S])
      rw [show (pre ++ [S]).length = pre.length + 1 by simp] at hih
      rw [List.foldl_cons] at hr
      refine jq_iload dX3_linesOfSome_10 rfl ?_
      refine jq_aload_n dX3_linesOfSome_12 rfl rfl ?_
      refine xq_getI fX3_23 dX3_linesOfSome_13 (xs_lt (by decide) hn) (by decide) hL.1 ?_
      refine jq_geN (tgt := 54) dX3_linesOfSome_16 (by decide) ⟨by omega, by omega⟩ (fun c16 => ?_) (fun c16 => ?_)
      · exact absurd c16 (by omega)
      · refine jq_aload_n dX3_linesOfSome_19 rfl rfl ?_
        refine jq_lload_n dX3_linesOfSome_20 rfl rfl ?_
        refine jq_lload_n dX3_linesOfSome_21 rfl rfl ?_
        refine jq_iconst (v := (-1)) dX3_linesOfSome_22 (by decide) ?_
        refine jq_aload_n dX3_linesOfSome_23 rfl rfl ?_
        refine xq_getR 20 fX3_9 dX3_linesOfSome_24 (xs_lt (by decide) hn) (by decide) ?_
        refine jq_iload dX3_linesOfSome_27 rfl ?_
        refine xq_laload dX3_linesOfSome_29 (xs_lt (by decide) hn) rfl hi (xs_rdL hat (by omega)) ?_
        refine xq_vI dX3_linesOfSome_30 kX3_60 (c_X3_isAnswerFor hn hT1 hN1 hA hB hS (-1)) (xs_lt (by decide) hn) ⟨rfl, rfl⟩ rfl rfl (Nat.le_of_ble_eq_true rfl) ⟨⟨by decide, by decide⟩, Nat.le_refl _, Nat.le_refl _⟩ ?_
        refine jq_if_eq (tgt := 48) dX3_linesOfSome_33 (by decide) (fun c33 => ?_) (fun c33 => ?_)
        · have d33 := tb_b0.mp c33
          refine jq_iincN dX3_linesOfSome_48 (by decide) rfl rfl rfl ?_
          refine jq_goto (tgt := 10) dX3_linesOfSome_51 (by decide) ?_
          first
            | exact hih c hpx hc (by rw [hr, show dv_gS (dv_fits w h num A B (-1)) c S = c from if_neg (by rw [d33]; decide)])
            | exact hih (c ||| S) hpx hcS (by rw [hr, show dv_gS (dv_fits w h num A B (-1)) c S = c ||| S from if_pos d33])
        · have d33 := tb_b1.mp c33
          refine jq_lload dX3_linesOfSome_36 rfl ?_
          refine jq_aload_n dX3_linesOfSome_38 rfl rfl ?_
          refine xq_getR 20 fX3_9 dX3_linesOfSome_39 (xs_lt (by decide) hn) (by decide) ?_
          refine jq_iload dX3_linesOfSome_42 rfl ?_
          refine xq_laload dX3_linesOfSome_44 (xs_lt (by decide) hn) rfl hi (xs_rdL hat (by omega)) ?_
          refine jq_lor dX3_linesOfSome_45 ?_
          rw [wb_or (by omega) (by omega)]
          refine jq_lstore dX3_linesOfSome_46 (by decide) rfl rfl ?_
          refine jq_iincN dX3_linesOfSome_48 (by decide) rfl rfl rfl ?_
          refine jq_goto (tgt := 10) dX3_linesOfSome_51 (by decide) ?_
          first
            | exact hih c hpx hc (by rw [hr, show dv_gS (dv_fits w h num A B (-1)) c S = c from if_neg (by rw [d33]; decide)])
            | exact hih (c ||| S) hpx hcS (by rw [hr, show dv_gS (dv_fits w h num A B (-1)) c S = c ||| S from if_pos d33])
  refine xs_Ct_of (L := [some (.ref (ad 19)), some (.long (lN A)), none, some (.long (lN B)), none, none, none, none]) rfl (Nat.le_of_ble_eq_true rfl) rfl ?_
  refine jq_aload_n dX3_linesOfSome_0 rfl rfl ?_
  refine xq_rV dX3_linesOfSome_1 kX3_57 (c_X3_find hn hT hLC) (xs_lt (by decide) hn) ⟨rfl, rfl⟩ rfl rfl (Nat.le_of_ble_eq_true rfl) ⟨⟨by decide, by decide⟩, Nat.le_refl _, Nat.le_refl _⟩ (fun X1 h1 => ?_)
  obtain ⟨hf1, h31, hL1⟩ := h1
  refine jq_lconst (v := (lN 0)) dX3_linesOfSome_4 (by decide) ?_
  refine jq_lstore dX3_linesOfSome_5 (by decide) rfl rfl ?_
  refine jq_iconst (v := (nI 0)) dX3_linesOfSome_7 (by decide) ?_
  refine jq_istore dX3_linesOfSome_8 (by decide) rfl rfl ?_
  exact loop X1 hf1 h31 hL1 (dv_loops w h) [] 0 rfl (by decide) rfl
