/-! the reference's questions of answers -/
abbrev rf_SZ : List Nat := [29, 30, 31, 32, 33, 34, 35, 36, 37, 38]
abbrev rf_FZ : List (Nat × Nat) := [(21, 17), (21, 18), (21, 24), (21, 25), (21, 26)]
def tb_cnt2 (w h : Nat) (num : Nat → Int32) (mk : Nat → Nat) (ig : Int32) : Nat := ((dv_loops w h).filter (tb_fit w h num mk ig)).length
abbrev tb_pk (w h : Nat) (num : Nat → Int32) (mk : Nat → Nat) (a : Int32) : Nat := dv_pick (tb_fit w h num mk (-1)) a (dv_loops w h) 0
abbrev tb_wi (w h : Nat) (num : Nat → Int32) (mk : Nat → Nat) (e : Nat) : Nat := tb_with (tb_fit w h num mk (-1)) (dv_loops w h) e
def tb_prv (w h : Nat) (num : Nat → Int32) (mk : Nat → Nat) (e : Nat) : Nat := if tb_wi w h num mk e = tb_cnt2 w h num mk (-1) then 1 else if tb_wi w h num mk e = 0 then 2 else 0
def tb_beyB (w h : Nat) (num : Nat → Int32) (mk : Nat → Nat) (e : Nat) : Bool := (tb_follow w h num mk).1 e == 0 && (tb_wi w h num mk e == tb_cnt2 w h num mk (-1) || tb_wi w h num mk e == 0)
def tb_bey (w h : Nat) (num : Nat → Int32) (mk : Nat → Nat) : Nat := fb_ct (tb_beyB w h num mk) (tb_ne w h)
theorem tb_cnt2_le {w h : Nat} (hW : tb_W w h) (num : Nat → Int32) (mk : Nat → Nat) (ig : Int32) : tb_cnt2 w h num mk ig ≤ 9349 := Nat.le_trans (List.length_filter_le ..) (dv_loops_le hW)
theorem tb_wi_le {w h : Nat} (hW : tb_W w h) (num : Nat → Int32) (mk : Nat → Nat) (e : Nat) : tb_wi w h num mk e ≤ 9349 := Nat.le_trans (tb_with_le ..) (tb_cnt2_le hW num mk (-1))
theorem tb_pk_in {w h : Nat} {num : Nat → Int32} {mk : Nat → Nat} {a : Int32} (h0 : tb_pk w h num mk a ≠ 0) : tb_pk w h num mk a ∈ dv_loops w h := dv_pick_in _ _ h0
theorem tb_pk_lt {w h : Nat} (hW : tb_W w h) (num : Nat → Int32) (mk : Nat → Nat) (a : Int32) : tb_pk w h num mk a < 2 ^ 40 := by
  by_cases q : tb_pk w h num mk a = 0
  · rw [q]; decide
  · exact dv_loops_lt hW (tb_pk_in q)
theorem tb_pk_0 {w h : Nat} (hW : tb_W w h) (num : Nat → Int32) (mk : Nat → Nat) : tb_pk w h num mk (nI 0) = 0 ↔ tb_cnt2 w h num mk (-1) = 0 := dv_pick_0 _ (fun _ hx => dv_loops_pos hW hx)
def tb_w4 (x : Int32) : Bool := decide (nI 1 ≤ x) && decide (x ≤ nI 4)
theorem tb_w4_nI {x : Int32} (h : tb_w4 x = true) : ∃ w : Nat, 1 ≤ w ∧ w ≤ 4 ∧ x = nI w := by
  unfold tb_w4 at h
  rw [Bool.and_eq_true, decide_eq_true_eq, decide_eq_true_eq] at h
  obtain ⟨s, h1, h2⟩ := nI_of2 (M := 4) (n := 4) (by decide) (fun q => absurd (fa_trans q (show (0 : Int32) ≤ nI 1 by decide)) (fun z => by
    have := h.1
    rw [fa_le] at this
    rw [fa_lt] at q
    have e1 : (nI 1).toInt = 1 := by decide
    have e0 : (0 : Int32).toInt = 0 := by decide
    omega)) h.2
  refine ⟨s, ?_, h1, h2⟩
  rcases Nat.eq_zero_or_pos s with q | q
  · exfalso
    rw [h2, q] at h
    exact absurd h.1 (by decide)
  · exact q
set_option maxHeartbeats 4000000 in
theorem c_X6_answers {l : Launch} {G : jq_G} {n : Nat} {ad : Nat → Nat} {X : xs_T} (hn : 39 ≤ n) {w h : Nat} {num : Nat → Int32} {mk : Nat → Nat} (hA : rf_A w h num mk X) (hLC : rf_LC X) : xs_Ct l G mX6_answers 5 [.ref (ad 21)] n ad X (xs_pi (fun v X' => v = nI (tb_cnt2 w h num mk (-1)) ∧ xs_fr rf_SZ rf_FZ X X' ∧ rf_LC X' ∧ X'.1 21 26 = 0)) := by
  have hf0 : xs_fr [] [(21, 26)] X (xs_si X 21 26 0) := xs_fr_si xs_fr_rf (by decide)
  refine xs_Ct_of (L := [some (.ref (ad 21))]) rfl (Nat.le_of_ble_eq_true rfl) rfl ?_
  refine jq_aload_n dX6_answers_0 rfl rfl ?_
  refine jq_iconst (v := 0) dX6_answers_1 (by decide) ?_
  refine xq_putI pX6_67 dX6_answers_2 (xs_lt (by decide) hn) (by decide) rfl rfl ?_
  refine jq_aload_n dX6_answers_5 rfl rfl ?_
  refine jq_iconst (v := (-1)) dX6_answers_6 (by decide) ?_
  refine xq_rI dX6_answers_7 kX6_190 (c_X6_answersWithout hn (rf_afr hA hf0) (rf_lcfr hLC hf0) (-1)) (xs_lt (by decide) hn) ⟨rfl, rfl⟩ rfl rfl (Nat.le_of_ble_eq_true rfl) ⟨⟨by decide, by decide⟩, Nat.le_refl _, Nat.le_refl _⟩ (fun v7 X7 h7 => ?_)
  obtain ⟨a1, a2, a3⟩ := h7
  exact xq_ireturn dX6_answers_10 rfl rfl (⟨_, rfl, a1, xs_fr_tr (xs_fr_mo hf0 (by decide)) (xs_fr_mo a2 (by decide)), rf_LD_C hA.1.1 a3, xs_fi a2 21 26 xs_si_at⟩)
set_option maxHeartbeats 4000000 in
theorem c_X6_answer {l : Launch} {G : jq_G} {n : Nat} {ad : Nat → Nat} {X : xs_T} (hn : 39 ≤ n) {w h : Nat} {num : Nat → Int32} {mk : Nat → Nat} (hA : rf_A w h num mk X) (hLC : rf_LC X) (a : Int32) : xs_Ct l G mX6_answer 5 [.ref (ad 21), .int (a)] n ad X (xs_pl (fun v X' => v = lN (tb_pk w h num mk a) ∧ xs_fr rf_SZ rf_FZ X X' ∧ rf_LC X' ∧ X'.1 21 26 = tb_b (decide (tb_pk w h num mk a = 0)))) := by
  have hlt : tb_pk w h num mk a < 2 ^ 63 := Nat.lt_trans (tb_pk_lt hA.1.1 num mk a) (by decide)
  have h18 : ∀ (b : Bool) (Y : xs_T), b = !decide (tb_pk w h num mk a = 0) → xs_fr rf_SF rf_FF X Y → rf_LD w h Y → jq_J l G mX6_answer (jq_R 5 0 0) jq_E0 (xs_Ye G n ad (xs_pl (fun v X' => v = lN (tb_pk w h num mk a) ∧ xs_fr rf_SZ rf_FZ X X' ∧ rf_LC X' ∧ X'.1 21 26 = tb_b (decide (tb_pk w h num mk a = 0))))) 18 [some (.ref (ad 21)), some (.int (a)), some (.long (lN (tb_pk w h num mk a))), none] [.int (tb_b b), .ref (ad 21)] n ad (xs_mem G ad Y) 0 0 := by
    intro b Y hb hf hL
    have hf1 : xs_fr [] [(21, 26)] Y (xs_si Y 21 26 (tb_b (!b))) := xs_fr_si xs_fr_rf (by decide)
    have hfin : xs_fr rf_SZ rf_FZ X (xs_si Y 21 26 (tb_b (!b))) := xs_fr_tr (xs_fr_mo hf (by decide)) (xs_fr_mo hf1 (by decide))
    have hthr : (xs_si Y 21 26 (tb_b (!b))).1 21 26 = tb_b (decide (tb_pk w h num mk a = 0)) := by rw [xs_si_at, hb, Bool.not_not]
    have hlc := rf_lcfr (rf_LD_C hA.1.1 hL) hf1
    refine xq_vI dX6_answer_18 kX6_90 (c_X6_mayB hn b) (xs_lt (by decide) hn) ⟨rfl, rfl⟩ rfl rfl (Nat.le_of_ble_eq_true rfl) ⟨⟨by decide, by decide⟩, Nat.le_refl _, Nat.le_refl _⟩ ?_
    refine jq_if_eq (tgt := 28) dX6_answer_21 (by decide) (fun c21 => ?_) (fun c21 => ?_)
    · have d21 := tb_b0.mp c21
      have d0 : tb_pk w h num mk a = 0 := by rw [hb] at d21; simpa using d21
      refine jq_lconst (v := (lN 0)) dX6_answer_28 (by decide) ?_
      first
        | exact xq_lreturn dX6_answer_29 rfl ⟨_, rfl, by rw [d0], hfin, hlc, hthr⟩
        | exact xq_lreturn dX6_answer_29 rfl ⟨_, rfl, rfl, hfin, hlc, hthr⟩
    · refine jq_lload_n dX6_answer_24 rfl rfl ?_
      refine jq_goto (tgt := 29) dX6_answer_25 (by decide) ?_
      first
        | exact xq_lreturn dX6_answer_29 rfl ⟨_, rfl, by rw [d0], hfin, hlc, hthr⟩
        | exact xq_lreturn dX6_answer_29 rfl ⟨_, rfl, rfl, hfin, hlc, hthr⟩
  refine xs_Ct_of (L := [some (.ref (ad 21)), some (.int (a)), none, none]) rfl (Nat.le_of_ble_eq_true rfl) rfl ?_
  refine jq_aload_n dX6_answer_0 rfl rfl ?_
  refine jq_iload_n dX6_answer_1 rfl rfl ?_
  refine xq_rL dX6_answer_2 kX6_193 (c_X6_find hn hA hLC a) (xs_lt (by decide) hn) ⟨rfl, rfl⟩ rfl rfl (Nat.le_of_ble_eq_true rfl) ⟨⟨by decide, by decide⟩, Nat.le_refl _, Nat.le_refl _⟩ (fun v2 X2 h2 => ?_)
  obtain ⟨a1, a2, a3⟩ := h2
  subst a1
  refine jq_lstore_n dX6_answer_5 rfl (by decide) rfl rfl ?_
  refine jq_aload_n dX6_answer_6 rfl rfl ?_
  refine jq_lload_n dX6_answer_7 rfl rfl ?_
  refine jq_lconst (v := 0) dX6_answer_8 (by decide) ?_
  refine jq_lcmp dX6_answer_9 ?_
  refine jq_if_eq (tgt := 17) dX6_answer_10 (by decide) (fun c10 => ?_) (fun c10 => ?_)
  · have d10 := (lN_eq0 hlt).mp c10
    refine jq_iconst (v := (tb_b false)) dX6_answer_17 (by decide) ?_
    first
      | exact h18 false X2 (by rw [decide_eq_true d10]; rfl) a2 a3
      | exact h18 true X2 (by rw [decide_eq_false d10]; rfl) a2 a3
  · have d10 : ¬ tb_pk w h num mk a = 0 := fun q => c10 ((lN_eq0 hlt).mpr q)
    refine jq_iconst (v := (tb_b true)) dX6_answer_13 (by decide) ?_
    refine jq_goto (tgt := 18) dX6_answer_14 (by decide) ?_
    first
      | exact h18 false X2 (by rw [decide_eq_true d10]; rfl) a2 a3
      | exact h18 true X2 (by rw [decide_eq_false d10]; rfl) a2 a3
set_option maxHeartbeats 4000000 in
theorem c_X6_isInside_no {l : Launch} {G : jq_G} {n : Nat} {ad : Nat → Nat} {X : xs_T} (hn : 39 ≤ n) {w h : Nat} {num : Nat → Int32} {mk : Nat → Nat} (hA : rf_A w h num mk X) (hLC : rf_LC X) (a x : Int32) (hno : tb_pk w h num mk a = 0 ∨ tb_inB x (tb_nc w h) = false) : xs_Ct l G mX6_isInside 5 [.ref (ad 21), .int (a), .int (x)] n ad X (xs_pi (fun v X' => v = 0 ∧ xs_fr rf_SZ rf_FZ X X' ∧ rf_LC X' ∧ X'.1 21 26 = 1)) := by
  have hlt : tb_pk w h num mk a < 2 ^ 63 := Nat.lt_trans (tb_pk_lt hA.1.1 num mk a) (by decide)
  have h26 : ∀ (Y : xs_T), xs_fr rf_SF rf_FF X Y → rf_LD w h Y → jq_J l G mX6_isInside (jq_R 5 0 0) jq_E0 (xs_Ye G n ad (xs_pi (fun v X' => v = 0 ∧ xs_fr rf_SZ rf_FZ X X' ∧ rf_LC X' ∧ X'.1 21 26 = 1))) 26 [some (.ref (ad 21)), some (.int (a)), some (.int (x)), some (.long (lN (tb_pk w h num mk a))), none, none, none] [.int (tb_b false), .ref (ad 21)] n ad (xs_mem G ad Y) 0 0 := by
    intro Y hf hL
    have hf1 : xs_fr [] [(21, 26)] Y (xs_si Y 21 26 (tb_b (!false))) := xs_fr_si xs_fr_rf (by decide)
    refine xq_vI dX6_isInside_26 kX6_90 (c_X6_mayB hn false) (xs_lt (by decide) hn) ⟨rfl, rfl⟩ rfl rfl (Nat.le_of_ble_eq_true rfl) ⟨⟨by decide, by decide⟩, Nat.le_refl _, Nat.le_refl _⟩ ?_
    refine jq_if_ne (tgt := 34) dX6_isInside_29 (by decide) (fun c29 => ?_) (fun c29 => ?_)
    · exact absurd rfl c29
    · refine jq_iconst (v := 0) dX6_isInside_32 (by decide) ?_
      exact xq_ireturn dX6_isInside_33 rfl rfl (⟨_, rfl, rfl, xs_fr_tr (xs_fr_mo hf (by decide)) (xs_fr_mo hf1 (by decide)), rf_lcfr (rf_LD_C hA.1.1 hL) hf1, xs_si_at⟩)
  refine xs_Ct_of (L := [some (.ref (ad 21)), some (.int (a)), some (.int (x)), none, none, none, none]) rfl (Nat.le_of_ble_eq_true rfl) rfl ?_
  refine jq_aload_n dX6_isInside_0 rfl rfl ?_
  refine jq_iload_n dX6_isInside_1 rfl rfl ?_
  refine xq_rL dX6_isInside_2 kX6_193 (c_X6_find hn hA hLC a) (xs_lt (by decide) hn) ⟨rfl, rfl⟩ rfl rfl (Nat.le_of_ble_eq_true rfl) ⟨⟨by decide, by decide⟩, Nat.le_refl _, Nat.le_refl _⟩ (fun v2 X2 h2 => ?_)
  obtain ⟨a1, a2, a3⟩ := h2
  subst a1
  have hA1 := rf_afr2 hA a2
  refine jq_lstore_n dX6_isInside_5 rfl (by decide) rfl rfl ?_
  refine jq_aload_n dX6_isInside_6 rfl rfl ?_
  refine jq_lload_n dX6_isInside_7 rfl rfl ?_
  refine jq_lconst (v := 0) dX6_isInside_8 (by decide) ?_
  refine jq_lcmp dX6_isInside_9 ?_
  refine jq_if_eq (tgt := 25) dX6_isInside_10 (by decide) (fun c10 => ?_) (fun c10 => ?_)
  · refine jq_iconst (v := (tb_b false)) dX6_isInside_25 (by decide) ?_
    exact h26 X2 a2 a3
  · have d10 : ¬ tb_pk w h num mk a = 0 := fun q => c10 ((lN_eq0 hlt).mpr q)
    refine jq_aload_n dX6_isInside_13 rfl rfl ?_
    refine jq_iload_n dX6_isInside_14 rfl rfl ?_
    refine xq_vI dX6_isInside_15 kX6_94 (c_X6_isCellB hn hA1.1 x) (xs_lt (by decide) hn) ⟨rfl, rfl⟩ rfl rfl (Nat.le_of_ble_eq_true rfl) ⟨⟨by decide, by decide⟩, Nat.le_refl _, Nat.le_refl _⟩ ?_
    rw [hno.resolve_left d10]
    refine jq_if_eq (tgt := 25) dX6_isInside_18 (by decide) (fun c18 => ?_) (fun c18 => ?_)
    · refine jq_iconst (v := (tb_b false)) dX6_isInside_25 (by decide) ?_
      exact h26 X2 a2 a3
    · exact absurd rfl c18
set_option maxHeartbeats 4000000 in
theorem c_X6_isInside_ok {l : Launch} {G : jq_G} {n : Nat} {ad : Nat → Nat} {X : xs_T} (hn : 39 ≤ n) {w h : Nat} {num : Nat → Int32} {mk : Nat → Nat} (hA : rf_A w h num mk X) (hLC : rf_LC X) (a : Int32) {c C : Nat} (hc : c < tb_nc w h) (hC : C < 2 ^ tb_nc w h) (h0 : tb_pk w h num mk a ≠ 0) (hPC : tb_pk w h num mk a = dv_bd w h C) : xs_Ct l G mX6_isInside 5 [.ref (ad 21), .int (a), .int (nI (c))] n ad X (xs_pi (fun v X' => v = tb_b (C.testBit c) ∧ xs_fr rf_SZ rf_FZ X X' ∧ rf_LC X' ∧ X'.1 21 26 = 0)) := by
  have hW := hA.1.1
  have hz := tb_sizes hW
  have hW2 := hW
  obtain ⟨hw1, hw2, hh1, hh2⟩ := hW2
  have hlt : tb_pk w h num mk a < 2 ^ 63 := Nat.lt_trans (tb_pk_lt hW num mk a) (by decide)
  have hlt4 := tb_pk_lt hW num mk a
  have hin := tb_inB_nI hc (by omega)
  have e0 : c / w * w + c % w = c := by rw [Nat.mul_comm]; exact Nat.div_add_mod c w
  have hcw : c % w < w := Nat.mod_lt _ (by omega)
  have hcr : c / w < h := (Nat.div_lt_iff_lt_mul (by omega)).mpr (by unfold tb_nc at hc; rw [Nat.mul_comm]; exact hc)
  have hend : tb_inr w h (tb_pk w h num mk a) (c / w) (c % w + 1) = C.testBit c := by rw [hPC, tb_inr_eq hC hcr _ hcw, e0]
  have loop : ∀ (m k : Nat) (Y : xs_T), k + m = c % w + 1 → xs_fr rf_SZ rf_FZ X Y → rf_LC Y → Y.1 21 26 = 0 → jq_J l G mX6_isInside (jq_R 5 0 0) jq_E0 (xs_Ye G n ad (xs_pi (fun v X' => v = tb_b (C.testBit c) ∧ xs_fr rf_SZ rf_FZ X X' ∧ rf_LC X' ∧ X'.1 21 26 = 0))) 50 [some (.ref (ad 21)), some (.int (a)), some (.int (nI (c))), some (.long (lN (tb_pk w h num mk a))), none, some (.int (tb_b (tb_inr w h (tb_pk w h num mk a) (c / w) k))), some (.int (nI (c / w * w + k)))] [] n ad (xs_mem G ad Y) 0 0 := by
    intro m
    induction m with
    | zero =>
      intro k Y hk hf hL ht
      have hk2 : k = c % w + 1 := by omega
      subst hk2
      refine jq_iload dX6_isInside_50 rfl ?_
      refine jq_iload_n dX6_isInside_52 rfl rfl ?_
      refine jq_gtN (tgt := 89) dX6_isInside_53 (by decide) ⟨by omega, by omega⟩ (fun c53 => ?_) (fun c53 => ?_)
      · refine jq_iload dX6_isInside_89 rfl ?_
        exact xq_ireturn dX6_isInside_91 rfl (tb_narrow _) (⟨_, rfl, by rw [hend], hf, hL, ht⟩)
      · exact absurd c53 (by omega)
    | succ m ih =>
      intro k Y hk hf hL ht
      have hA1 := rf_afr hA hf
      have hjc : c / w * w + k < tb_nc w h := by omega
      have his : vp_in (nI (4 * (c / w * w + k) + 2)) 64 := vp_inN (by omega) (by decide)
      have hsd := hA1.1.2.2.2.2.2.2.2.2.2.2 _ hjc 2 (by decide)
      have hse := tb_sides hW _ hjc 2 (by decide)
      have hE := ih (k + 1) Y (by omega) hf hL ht
      have hstep : tb_inr w h (tb_pk w h num mk a) (c / w) (k + 1) = (tb_inr w h (tb_pk w h num mk a) (c / w) k != (tb_pk w h num mk a).testBit (tb_sid w h (c / w * w + k) 2)) := rfl
      refine jq_iload dX6_isInside_50 rfl ?_
      refine jq_iload_n dX6_isInside_52 rfl rfl ?_
      refine jq_gtN (tgt := 89) dX6_isInside_53 (by decide) ⟨by omega, by omega⟩ (fun c53 => ?_) (fun c53 => ?_)
      · exact absurd c53 (by omega)
      · refine jq_iload dX6_isInside_56 rfl ?_
        refine jq_lload_n dX6_isInside_58 rfl rfl ?_
        refine jq_aload_n dX6_isInside_59 rfl rfl ?_
        refine xq_getR 26 fX6_22 dX6_isInside_60 (xs_lt (by decide) hn) (by decide) ?_
        refine jq_iconst (v := (nI 4)) dX6_isInside_63 (by decide) ?_
        refine jq_iload dX6_isInside_64 rfl ?_
        refine jq_imulN dX6_isInside_66 ?_
        refine jq_iconst (v := (nI 2)) dX6_isInside_67 (by decide) ?_
        refine jq_iaddN dX6_isInside_68 ?_
        refine xq_iaload dX6_isInside_69 (xs_lt (by decide) hn) rfl his (xs_rd hsd (by omega)) ?_
        refine xq_sI dX6_isInside_70 kX6_166 (c_X6_has (by omega) (by omega)) rfl rfl (Nat.le_of_ble_eq_true rfl) ⟨⟨by decide, by decide⟩, Nat.le_refl _, Nat.le_refl _⟩ ?_
        refine jq_icmp_eq (tgt := 80) dX6_isInside_73 (by decide) (fun c73 => ?_) (fun c73 => ?_)
        · have d73 := tb_b_eq.mp c73
          refine jq_iconst (v := (tb_b false)) dX6_isInside_80 (by decide) ?_
          refine jq_istore dX6_isInside_81 (by decide) rfl rfl ?_
          refine jq_iincN dX6_isInside_83 (by decide) rfl rfl rfl ?_
          refine jq_goto (tgt := 50) dX6_isInside_86 (by decide) ?_
          first
            | (rw [hstep, ← tb_ne_f d73] at hE; exact hE)
            | (rw [hstep, ← tb_ne_t d73] at hE; exact hE)
        · have d73 := fun q => c73 (tb_b_eq.mpr q)
          refine jq_iconst (v := (tb_b true)) dX6_isInside_76 (by decide) ?_
          refine jq_goto (tgt := 81) dX6_isInside_77 (by decide) ?_
          refine jq_istore dX6_isInside_81 (by decide) rfl rfl ?_
          refine jq_iincN dX6_isInside_83 (by decide) rfl rfl rfl ?_
          refine jq_goto (tgt := 50) dX6_isInside_86 (by decide) ?_
          first
            | (rw [hstep, ← tb_ne_f d73] at hE; exact hE)
            | (rw [hstep, ← tb_ne_t d73] at hE; exact hE)
  have h26 : ∀ (Y : xs_T), xs_fr rf_SF rf_FF X Y → rf_LD w h Y → jq_J l G mX6_isInside (jq_R 5 0 0) jq_E0 (xs_Ye G n ad (xs_pi (fun v X' => v = tb_b (C.testBit c) ∧ xs_fr rf_SZ rf_FZ X X' ∧ rf_LC X' ∧ X'.1 21 26 = 0))) 26 [some (.ref (ad 21)), some (.int (a)), some (.int (nI (c))), some (.long (lN (tb_pk w h num mk a))), none, none, none] [.int (tb_b true), .ref (ad 21)] n ad (xs_mem G ad Y) 0 0 := by
    intro Y hf hL
    have hf1 : xs_fr [] [(21, 26)] Y (xs_si Y 21 26 (tb_b (!true))) := xs_fr_si xs_fr_rf (by decide)
    have hfa : xs_fr rf_SZ rf_FZ X (xs_si Y 21 26 (tb_b (!true))) := xs_fr_tr (xs_fr_mo hf (by decide)) (xs_fr_mo hf1 (by decide))
    have hA1 := rf_afr hA hfa
    refine xq_vI dX6_isInside_26 kX6_90 (c_X6_mayB hn true) (xs_lt (by decide) hn) ⟨rfl, rfl⟩ rfl rfl (Nat.le_of_ble_eq_true rfl) ⟨⟨by decide, by decide⟩, Nat.le_refl _, Nat.le_refl _⟩ ?_
    refine jq_if_ne (tgt := 34) dX6_isInside_29 (by decide) (fun c29 => ?_) (fun c29 => ?_)
    · refine jq_iconst (v := (tb_b false)) dX6_isInside_34 (by decide) ?_
      refine jq_istore dX6_isInside_35 (by decide) rfl rfl ?_
      refine jq_iload_n dX6_isInside_37 rfl rfl ?_
      refine jq_aload_n dX6_isInside_38 rfl rfl ?_
      refine xq_getI fX6_80 dX6_isInside_39 (xs_lt (by decide) hn) (by decide) hA1.1.2.1 ?_
      refine jq_idivN dX6_isInside_42 (⟨by omega, by omega, by omega⟩) ?_
      refine jq_aload_n dX6_isInside_43 rfl rfl ?_
      refine xq_getI fX6_80 dX6_isInside_44 (xs_lt (by decide) hn) (by decide) hA1.1.2.1 ?_
      refine jq_imulN dX6_isInside_47 ?_
      refine jq_istore dX6_isInside_48 (by decide) rfl rfl ?_
      exact loop (c % w + 1) 0 _ (by omega) hfa (rf_lcfr (rf_LD_C hW hL) hf1) xs_si_at
    · exact absurd c29 (by decide)
  refine xs_Ct_of (L := [some (.ref (ad 21)), some (.int (a)), some (.int (nI (c))), none, none, none, none]) rfl (Nat.le_of_ble_eq_true rfl) rfl ?_
  refine jq_aload_n dX6_isInside_0 rfl rfl ?_
  refine jq_iload_n dX6_isInside_1 rfl rfl ?_
  refine xq_rL dX6_isInside_2 kX6_193 (c_X6_find hn hA hLC a) (xs_lt (by decide) hn) ⟨rfl, rfl⟩ rfl rfl (Nat.le_of_ble_eq_true rfl) ⟨⟨by decide, by decide⟩, Nat.le_refl _, Nat.le_refl _⟩ (fun v2 X2 h2 => ?_)
  obtain ⟨a1, a2, a3⟩ := h2
  subst a1
  have hA1 := rf_afr2 hA a2
  refine jq_lstore_n dX6_isInside_5 rfl (by decide) rfl rfl ?_
  refine jq_aload_n dX6_isInside_6 rfl rfl ?_
  refine jq_lload_n dX6_isInside_7 rfl rfl ?_
  refine jq_lconst (v := 0) dX6_isInside_8 (by decide) ?_
  refine jq_lcmp dX6_isInside_9 ?_
  refine jq_if_eq (tgt := 25) dX6_isInside_10 (by decide) (fun c10 => ?_) (fun c10 => ?_)
  · exact absurd ((lN_eq0 hlt).mp c10) h0
  · refine jq_aload_n dX6_isInside_13 rfl rfl ?_
    refine jq_iload_n dX6_isInside_14 rfl rfl ?_
    refine xq_vI dX6_isInside_15 kX6_94 (c_X6_isCellB hn hA1.1 _) (xs_lt (by decide) hn) ⟨rfl, rfl⟩ rfl rfl (Nat.le_of_ble_eq_true rfl) ⟨⟨by decide, by decide⟩, Nat.le_refl _, Nat.le_refl _⟩ ?_
    rw [hin]
    refine jq_if_eq (tgt := 25) dX6_isInside_18 (by decide) (fun c18 => ?_) (fun c18 => ?_)
    · exact absurd c18 (by decide)
    · refine jq_iconst (v := (tb_b true)) dX6_isInside_21 (by decide) ?_
      refine jq_goto (tgt := 26) dX6_isInside_22 (by decide) ?_
      exact h26 X2 a2 a3
set_option maxHeartbeats 4000000 in
theorem c_X6_proved_no {l : Launch} {G : jq_G} {n : Nat} {ad : Nat → Nat} {X : xs_T} (hn : 39 ≤ n) {w h : Nat} {num : Nat → Int32} {mk : Nat → Nat} (hA : rf_A w h num mk X) (hLC : rf_LC X) (x : Int32) (hno : (tb_inB x (tb_ne w h) && decide (0 < tb_cnt2 w h num mk (-1))) = false) : xs_Ct l G mX6_proved 5 [.ref (ad 21), .int (x)] n ad X (xs_pi (fun v X' => v = 0 ∧ xs_fr rf_SZ rf_FZ X X' ∧ rf_LC X' ∧ X'.1 21 26 = tb_thr (tb_inB x (tb_ne w h)) (decide (0 < tb_cnt2 w h num mk (-1))))) := by
  have hle := tb_cnt2_le hA.1.1 num mk (-1)
  have h21 : ∀ (b : Bool) (Y : xs_T), b = decide (0 < tb_cnt2 w h num mk (-1)) → xs_fr rf_SF rf_FF X Y → rf_LD w h Y → jq_J l G mX6_proved (jq_R 5 0 0) jq_E0 (xs_Ye G n ad (xs_pi (fun v X' => v = 0 ∧ xs_fr rf_SZ rf_FZ X X' ∧ rf_LC X' ∧ X'.1 21 26 = tb_thr (tb_inB x (tb_ne w h)) (decide (0 < tb_cnt2 w h num mk (-1)))))) 21 [some (.ref (ad 21)), some (.int (x)), some (.int (nI (tb_cnt2 w h num mk (-1)))), none] [.int (tb_b b), .int (tb_b (tb_inB x (tb_ne w h))), .ref (ad 21)] n ad (xs_mem G ad Y) 0 0 := by
    intro b Y hb hf hL
    subst hb
    have hf1 : xs_fr [] [(21, 26)] Y (xs_si Y 21 26 (tb_thr (tb_inB x (tb_ne w h)) (decide (0 < tb_cnt2 w h num mk (-1))))) := xs_fr_si xs_fr_rf (by decide)
    refine xq_vI dX6_proved_21 kX6_98 (c_X6_mayBoth hn _ _) (xs_lt (by decide) hn) ⟨rfl, rfl⟩ rfl rfl (Nat.le_of_ble_eq_true rfl) ⟨⟨by decide, by decide⟩, Nat.le_refl _, Nat.le_refl _⟩ ?_
    rw [hno]
    refine jq_if_ne (tgt := 29) dX6_proved_24 (by decide) (fun c24 => ?_) (fun c24 => ?_)
    · exact absurd rfl c24
    · refine jq_iconst (v := 0) dX6_proved_27 (by decide) ?_
      exact xq_ireturn dX6_proved_28 rfl rfl (⟨_, rfl, rfl, xs_fr_tr (xs_fr_mo hf (by decide)) (xs_fr_mo hf1 (by decide)), rf_lcfr (rf_LD_C hA.1.1 hL) hf1, xs_si_at⟩)
  refine xs_Ct_of (L := [some (.ref (ad 21)), some (.int (x)), none, none]) rfl (Nat.le_of_ble_eq_true rfl) rfl ?_
  refine jq_aload_n dX6_proved_0 rfl rfl ?_
  refine jq_iconst (v := (-1)) dX6_proved_1 (by decide) ?_
  refine xq_rI dX6_proved_2 kX6_190 (c_X6_answersWithout hn hA hLC (-1)) (xs_lt (by decide) hn) ⟨rfl, rfl⟩ rfl rfl (Nat.le_of_ble_eq_true rfl) ⟨⟨by decide, by decide⟩, Nat.le_refl _, Nat.le_refl _⟩ (fun v2 X2 h2 => ?_)
  obtain ⟨a1, a2, a3⟩ := h2
  change v2 = nI (tb_cnt2 w h num mk (-1)) at a1
  subst a1
  have hA1 := rf_afr2 hA a2
  refine jq_istore_n dX6_proved_5 rfl (by decide) rfl rfl ?_
  refine jq_aload_n dX6_proved_6 rfl rfl ?_
  refine jq_aload_n dX6_proved_7 rfl rfl ?_
  refine jq_iload_n dX6_proved_8 rfl rfl ?_
  refine xq_vI dX6_proved_9 kX6_102 (c_X6_isEdge hn hA1.1 x) (xs_lt (by decide) hn) ⟨rfl, rfl⟩ rfl rfl (Nat.le_of_ble_eq_true rfl) ⟨⟨by decide, by decide⟩, Nat.le_refl _, Nat.le_refl _⟩ ?_
  refine jq_iload_n dX6_proved_12 rfl rfl ?_
  refine jq_leZ (tgt := 20) dX6_proved_13 (by decide) (by omega) (fun c13 => ?_) (fun c13 => ?_)
  · refine jq_iconst (v := (tb_b false)) dX6_proved_20 (by decide) ?_
    first
      | exact h21 false X2 (decide_eq_false (by omega)).symm a2 a3
      | exact h21 true X2 (decide_eq_true (by omega)).symm a2 a3
  · refine jq_iconst (v := (tb_b true)) dX6_proved_16 (by decide) ?_
    refine jq_goto (tgt := 21) dX6_proved_17 (by decide) ?_
    first
      | exact h21 false X2 (decide_eq_false (by omega)).symm a2 a3
      | exact h21 true X2 (decide_eq_true (by omega)).symm a2 a3
set_option maxHeartbeats 4000000 in
theorem c_X6_proved_ok {l : Launch} {G : jq_G} {n : Nat} {ad : Nat → Nat} {X : xs_T} (hn : 39 ≤ n) {w h : Nat} {num : Nat → Int32} {mk : Nat → Nat} (hA : rf_A w h num mk X) (hLC : rf_LC X) {e : Nat} (he : e < tb_ne w h) (h0 : 0 < tb_cnt2 w h num mk (-1)) : xs_Ct l G mX6_proved 5 [.ref (ad 21), .int (nI (e))] n ad X (xs_pi (fun v X' => v = nI (tb_prv w h num mk e) ∧ xs_fr rf_SZ rf_FZ X X' ∧ rf_LC X' ∧ X'.1 21 26 = 0)) := by
  have hW := hA.1.1
  have hz := tb_sizes hW
  have hle := tb_cnt2_le hW num mk (-1)
  have hle2 := tb_wi_le hW num mk e
  have hle3 : tb_with (tb_fit w h num mk (-1)) (dv_loops w h) e ≤ 9349 := hle2
  have hin := tb_inB_nI he (by omega)
  have h21 : ∀ (Y : xs_T), xs_fr rf_SF rf_FF X Y → rf_LD w h Y → jq_J l G mX6_proved (jq_R 5 0 0) jq_E0 (xs_Ye G n ad (xs_pi (fun v X' => v = nI (tb_prv w h num mk e) ∧ xs_fr rf_SZ rf_FZ X X' ∧ rf_LC X' ∧ X'.1 21 26 = 0))) 21 [some (.ref (ad 21)), some (.int (nI (e))), some (.int (nI (tb_cnt2 w h num mk (-1)))), none] [.int (tb_b true), .int (tb_b true), .ref (ad 21)] n ad (xs_mem G ad Y) 0 0 := by
    intro Y hf hL
    have hf1 : xs_fr [] [(21, 26)] Y (xs_si Y 21 26 (tb_thr true true)) := xs_fr_si xs_fr_rf (by decide)
    have hfa : xs_fr rf_SZ rf_FZ X (xs_si Y 21 26 (tb_thr true true)) := xs_fr_tr (xs_fr_mo hf (by decide)) (xs_fr_mo hf1 (by decide))
    have hA1 := rf_afr hA hfa
    have hL1 : rf_LD w h (xs_si Y 21 26 (tb_thr true true)) := ⟨xs_fi hf1 21 25 hL.1, rf_lsfr hL.2 hf1⟩
    have hlc := rf_LD_C hW hL1
    refine xq_vI dX6_proved_21 kX6_98 (c_X6_mayBoth hn true true) (xs_lt (by decide) hn) ⟨rfl, rfl⟩ rfl rfl (Nat.le_of_ble_eq_true rfl) ⟨⟨by decide, by decide⟩, Nat.le_refl _, Nat.le_refl _⟩ ?_
    refine jq_if_ne (tgt := 29) dX6_proved_24 (by decide) (fun c24 => ?_) (fun c24 => ?_)
    · refine jq_aload_n dX6_proved_29 rfl rfl ?_
      refine jq_iload_n dX6_proved_30 rfl rfl ?_
      refine xq_vI dX6_proved_31 kX6_196 (c_X6_having hn hA1 hL1 he) (xs_lt (by decide) hn) ⟨rfl, rfl⟩ rfl rfl (Nat.le_of_ble_eq_true rfl) ⟨⟨by decide, by decide⟩, Nat.le_refl _, Nat.le_refl _⟩ ?_
      refine jq_istore_n dX6_proved_34 rfl (by decide) rfl rfl ?_
      refine jq_iload_n dX6_proved_35 rfl rfl ?_
      refine jq_iload_n dX6_proved_36 rfl rfl ?_
      refine jq_neN (tgt := 44) dX6_proved_37 (by decide) ⟨by omega, by omega⟩ (fun c37 => ?_) (fun c37 => ?_)
      · refine jq_iload_n dX6_proved_44 rfl rfl ?_
        refine jq_neZ (tgt := 52) dX6_proved_45 (by decide) (by omega) (fun c45 => ?_) (fun c45 => ?_)
        · refine jq_iconst (v := (nI 0)) dX6_proved_52 (by decide) ?_
          refine xq_ireturn dX6_proved_53 rfl rfl ⟨_, rfl, ?_, hfa, hlc, xs_si_at⟩
          unfold tb_prv
          first
            | rw [if_pos c37]
            | rw [if_neg c37, if_pos c45]
            | rw [if_neg c37, if_neg c45]
        · refine jq_iconst (v := (nI 2)) dX6_proved_48 (by decide) ?_
          refine jq_goto (tgt := 53) dX6_proved_49 (by decide) ?_
          refine xq_ireturn dX6_proved_53 rfl rfl ⟨_, rfl, ?_, hfa, hlc, xs_si_at⟩
          unfold tb_prv
          first
            | rw [if_pos c37]
            | rw [if_neg c37, if_pos c45]
            | rw [if_neg c37, if_neg c45]
      · refine jq_iconst (v := (nI 1)) dX6_proved_40 (by decide) ?_
        refine jq_goto (tgt := 53) dX6_proved_41 (by decide) ?_
        refine xq_ireturn dX6_proved_53 rfl rfl ⟨_, rfl, ?_, hfa, hlc, xs_si_at⟩
        unfold tb_prv
        first
          | rw [if_pos c37]
          | rw [if_neg c37, if_pos c45]
          | rw [if_neg c37, if_neg c45]
    · exact absurd c24 (by decide)
  refine xs_Ct_of (L := [some (.ref (ad 21)), some (.int (nI (e))), none, none]) rfl (Nat.le_of_ble_eq_true rfl) rfl ?_
  refine jq_aload_n dX6_proved_0 rfl rfl ?_
  refine jq_iconst (v := (-1)) dX6_proved_1 (by decide) ?_
  refine xq_rI dX6_proved_2 kX6_190 (c_X6_answersWithout hn hA hLC (-1)) (xs_lt (by decide) hn) ⟨rfl, rfl⟩ rfl rfl (Nat.le_of_ble_eq_true rfl) ⟨⟨by decide, by decide⟩, Nat.le_refl _, Nat.le_refl _⟩ (fun v2 X2 h2 => ?_)
  obtain ⟨a1, a2, a3⟩ := h2
  change v2 = nI (tb_cnt2 w h num mk (-1)) at a1
  subst a1
  have hA1 := rf_afr2 hA a2
  refine jq_istore_n dX6_proved_5 rfl (by decide) rfl rfl ?_
  refine jq_aload_n dX6_proved_6 rfl rfl ?_
  refine jq_aload_n dX6_proved_7 rfl rfl ?_
  refine jq_iload_n dX6_proved_8 rfl rfl ?_
  refine xq_vI dX6_proved_9 kX6_102 (c_X6_isEdge hn hA1.1 _) (xs_lt (by decide) hn) ⟨rfl, rfl⟩ rfl rfl (Nat.le_of_ble_eq_true rfl) ⟨⟨by decide, by decide⟩, Nat.le_refl _, Nat.le_refl _⟩ ?_
  rw [hin]
  refine jq_iload_n dX6_proved_12 rfl rfl ?_
  refine jq_leZ (tgt := 20) dX6_proved_13 (by decide) (by omega) (fun c13 => ?_) (fun c13 => ?_)
  · exact absurd c13 (by omega)
  · refine jq_iconst (v := (tb_b true)) dX6_proved_16 (by decide) ?_
    refine jq_goto (tgt := 21) dX6_proved_17 (by decide) ?_
    exact h21 X2 a2 a3
set_option maxHeartbeats 4000000 in
theorem c_X6_beyondRules_no {l : Launch} {G : jq_G} {n : Nat} {ad : Nat → Nat} {X : xs_T} (hn : 39 ≤ n) {w h : Nat} {num : Nat → Int32} {mk : Nat → Nat} (hA : rf_A w h num mk X) (hLC : rf_LC X) (h0 : tb_cnt2 w h num mk (-1) = 0) : xs_Ct l G mX6_beyondRules 7 [.ref (ad 21)] n ad X (xs_pi (fun v X' => v = 0 ∧ xs_fr rf_SZ rf_FZ X X' ∧ rf_LC X' ∧ X'.1 21 26 = 1)) := by
  refine xs_Ct_of (L := [some (.ref (ad 21)), none, none, none, none]) rfl (Nat.le_of_ble_eq_true rfl) rfl ?_
  refine jq_aload_n dX6_beyondRules_0 rfl rfl ?_
  refine jq_iconst (v := (-1)) dX6_beyondRules_1 (by decide) ?_
  refine xq_rI dX6_beyondRules_2 kX6_190 (c_X6_answersWithout hn hA hLC (-1)) (xs_lt (by decide) hn) ⟨rfl, rfl⟩ rfl rfl (Nat.le_of_ble_eq_true rfl) ⟨⟨by decide, by decide⟩, Nat.le_refl _, Nat.le_refl _⟩ (fun v2 X2 h2 => ?_)
  obtain ⟨a1, a2, a3⟩ := h2
  change v2 = nI (tb_cnt2 w h num mk (-1)) at a1
  rw [h0] at a1
  subst a1
  refine jq_istore_n dX6_beyondRules_5 rfl (by decide) rfl rfl ?_
  refine jq_aload_n dX6_beyondRules_6 rfl rfl ?_
  refine jq_iload_n dX6_beyondRules_7 rfl rfl ?_
  refine jq_leZ (tgt := 15) dX6_beyondRules_8 (by decide) (by omega) (fun c8 => ?_) (fun c8 => ?_)
  · refine jq_iconst (v := (tb_b false)) dX6_beyondRules_15 (by decide) ?_
    refine xq_vI dX6_beyondRules_16 kX6_90 (c_X6_mayB hn false) (xs_lt (by decide) hn) ⟨rfl, rfl⟩ rfl rfl (Nat.le_of_ble_eq_true rfl) ⟨⟨by decide, by decide⟩, Nat.le_refl _, Nat.le_refl _⟩ ?_
    refine jq_if_ne (tgt := 24) dX6_beyondRules_19 (by decide) (fun c19 => ?_) (fun c19 => ?_)
    · exact absurd rfl c19
    · refine jq_iconst (v := 0) dX6_beyondRules_22 (by decide) ?_
      have hf1 : xs_fr [] [(21, 26)] X2 (xs_si X2 21 26 (tb_b (!false))) := xs_fr_si xs_fr_rf (by decide)
      exact xq_ireturn dX6_beyondRules_23 rfl rfl ⟨_, rfl, rfl, xs_fr_tr (xs_fr_mo a2 (by decide)) (xs_fr_mo hf1 (by decide)), rf_lcfr (rf_LD_C hA.1.1 a3) hf1, xs_si_at⟩
  · exact absurd c8 (by omega)
set_option maxHeartbeats 8000000 in
theorem c_X6_beyondRules_ok {l : Launch} {G : jq_G} {n : Nat} {ad : Nat → Nat} {X : xs_T} (hn : 39 ≤ n) {w h : Nat} {num : Nat → Int32} {mk : Nat → Nat} (hA : rf_A w h num mk X) (hLC : rf_LC X) (h0 : 0 < tb_cnt2 w h num mk (-1)) : xs_Ct l G mX6_beyondRules 7 [.ref (ad 21)] n ad X (xs_pi (fun v X' => v = nI (tb_bey w h num mk) ∧ xs_fr rf_SZ rf_FZ X X' ∧ rf_LC X' ∧ X'.1 21 26 = 0)) := by
  have hW := hA.1.1
  have hz := tb_sizes hW
  have hle := tb_cnt2_le hW num mk (-1)
  have loop : ∀ (k e : Nat) (o4 : Option Value) (Y : xs_T), e + k = tb_ne w h → xs_fr rf_SZ rf_FZ X Y → rf_LD w h Y → rf_S w h (tb_follow w h num mk).1 Y → Y.1 21 26 = 0 → jq_J l G mX6_beyondRules (jq_R 7 0 0) jq_E0 (xs_Ye G n ad (xs_pi (fun v X' => v = nI (tb_bey w h num mk) ∧ xs_fr rf_SZ rf_FZ X X' ∧ rf_LC X' ∧ X'.1 21 26 = 0))) 32 [some (.ref (ad 21)), some (.int (nI (tb_cnt2 w h num mk (-1)))), some (.int (nI (fb_ct (tb_beyB w h num mk) e))), some (.int (nI (e))), o4] [] n ad (xs_mem G ad Y) 0 0 := by
    intro k
    induction k with
    | zero =>
      intro e o4 Y hk hf hL hS ht
      have hA1 := rf_afr hA hf
      have hee : e = tb_ne w h := by omega
      subst hee
      refine jq_iload_n dX6_beyondRules_32 rfl rfl ?_
      refine jq_aload_n dX6_beyondRules_33 rfl rfl ?_
      refine xq_getI fX6_74 dX6_beyondRules_34 (xs_lt (by decide) hn) (by decide) hA1.1.2.2.2.2.1 ?_
      refine jq_geN (tgt := 94) dX6_beyondRules_37 (by decide) ⟨by omega, by omega⟩ (fun c37 => ?_) (fun c37 => ?_)
      · refine jq_iload_n dX6_beyondRules_94 rfl rfl ?_
        exact xq_ireturn dX6_beyondRules_95 rfl rfl (⟨_, rfl, rfl, hf, rf_LD_C hW hL, ht⟩)
      · exact absurd c37 (by omega)
    | succ k ih =>
      intro e o4 Y hk hf hL hS ht
      have hA1 := rf_afr hA hf
      have he : e < tb_ne w h := by omega
      have hie : vp_in (nI e) 40 := vp_inN (by omega) (by decide)
      have hse := hS e he
      have hle2 := tb_wi_le hW num mk e
      have hsu := fb_ct_succ (tb_beyB w h num mk) e
      have h58 : ∀ (wv : Nat) (o4 : Option Value), wv ≤ 9349 → ((tb_follow w h num mk).1 e = 0 → wv = tb_wi w h num mk e) → jq_J l G mX6_beyondRules (jq_R 7 0 0) jq_E0 (xs_Ye G n ad (xs_pi (fun v X' => v = nI (tb_bey w h num mk) ∧ xs_fr rf_SZ rf_FZ X X' ∧ rf_LC X' ∧ X'.1 21 26 = 0))) 58 [some (.ref (ad 21)), some (.int (nI (tb_cnt2 w h num mk (-1)))), some (.int (nI (fb_ct (tb_beyB w h num mk) e))), some (.int (nI (e))), o4] [.int (nI (wv))] n ad (xs_mem G ad Y) 0 0 := by
        intro wv o4 hwl hwv
        have hE : ∀ o4, jq_J l G mX6_beyondRules (jq_R 7 0 0) jq_E0 (xs_Ye G n ad (xs_pi (fun v X' => v = nI (tb_bey w h num mk) ∧ xs_fr rf_SZ rf_FZ X X' ∧ rf_LC X' ∧ X'.1 21 26 = 0))) 32 [some (.ref (ad 21)), some (.int (nI (tb_cnt2 w h num mk (-1)))), some (.int (nI (fb_ct (tb_beyB w h num mk) (e + 1)))), some (.int (nI (e + 1))), o4] [] n ad (xs_mem G ad Y) 0 0 := fun o4 => ih (e + 1) o4 Y (by omega) hf hL hS ht
        have hB : tb_beyB w h num mk e = ((tb_follow w h num mk).1 e == 0 && (tb_wi w h num mk e == tb_cnt2 w h num mk (-1) || tb_wi w h num mk e == 0)) := rfl
        have hF : tb_beyB w h num mk e = false → ∀ o4, jq_J l G mX6_beyondRules (jq_R 7 0 0) jq_E0 (xs_Ye G n ad (xs_pi (fun v X' => v = nI (tb_bey w h num mk) ∧ xs_fr rf_SZ rf_FZ X X' ∧ rf_LC X' ∧ X'.1 21 26 = 0))) 32 [some (.ref (ad 21)), some (.int (nI (tb_cnt2 w h num mk (-1)))), some (.int (nI (fb_ct (tb_beyB w h num mk) e + 0))), some (.int (nI (e + 1))), o4] [] n ad (xs_mem G ad Y) 0 0 := by
          intro q o4
          have z := hE o4
          rw [hsu, q] at z
          exact z
        have hT : tb_beyB w h num mk e = true → ∀ o4, jq_J l G mX6_beyondRules (jq_R 7 0 0) jq_E0 (xs_Ye G n ad (xs_pi (fun v X' => v = nI (tb_bey w h num mk) ∧ xs_fr rf_SZ rf_FZ X X' ∧ rf_LC X' ∧ X'.1 21 26 = 0))) 32 [some (.ref (ad 21)), some (.int (nI (tb_cnt2 w h num mk (-1)))), some (.int (nI (fb_ct (tb_beyB w h num mk) e + 1))), some (.int (nI (e + 1))), o4] [] n ad (xs_mem G ad Y) 0 0 := by
          intro q o4
          have z := hE o4
          rw [hsu, q] at z
          exact z
        have b1 : (tb_follow w h num mk).1 e ≠ 0 → tb_beyB w h num mk e = false := fun q => by rw [hB, beq_eq_false_iff_ne.mpr q]; rfl
        have b2 : (tb_follow w h num mk).1 e = 0 → wv ≠ tb_cnt2 w h num mk (-1) → wv ≠ 0 → tb_beyB w h num mk e = false := fun q q1 q2 => by
          rw [hwv q] at q1 q2
          rw [hB, beq_eq_false_iff_ne.mpr q1, beq_eq_false_iff_ne.mpr q2, Bool.or_false, Bool.and_false]
        have b3 : (tb_follow w h num mk).1 e = 0 → wv = tb_cnt2 w h num mk (-1) → tb_beyB w h num mk e = true := fun q q1 => by
          rw [hwv q] at q1
          rw [hB, q, q1, beq_self_eq_true, beq_self_eq_true]; rfl
        have b4 : (tb_follow w h num mk).1 e = 0 → wv = 0 → tb_beyB w h num mk e = true := fun q q1 => by
          rw [hwv q] at q1
          rw [hB, q, q1, beq_self_eq_true, Bool.or_true]; rfl
        refine jq_istore dX6_beyondRules_58 (by decide) rfl rfl ?_
        refine jq_iload_n dX6_beyondRules_60 rfl rfl ?_
        refine jq_aload_n dX6_beyondRules_61 rfl rfl ?_
        refine xq_getR 29 fX6_31 dX6_beyondRules_62 (xs_lt (by decide) hn) (by decide) ?_
        refine jq_iload_n dX6_beyondRules_65 rfl rfl ?_
        refine xq_iaload dX6_beyondRules_66 (xs_lt (by decide) hn) rfl hie (xs_rd hse.1 (by omega)) ?_
        refine jq_neZ (tgt := 85) dX6_beyondRules_67 (by decide) (by omega) (fun c67 => ?_) (fun c67 => ?_)
        · refine jq_iconst (v := (nI 0)) dX6_beyondRules_85 (by decide) ?_
          refine jq_iaddN dX6_beyondRules_86 ?_
          refine jq_istore_n dX6_beyondRules_87 rfl (by decide) rfl rfl ?_
          refine jq_iincN dX6_beyondRules_88 (by decide) rfl rfl rfl ?_
          refine jq_goto (tgt := 32) dX6_beyondRules_91 (by decide) ?_
          first
            | exact hF (b1 c67) _
            | exact hF (b2 c67 c73 c78) _
            | exact hT (b3 c67 c73) _
            | exact hT (b4 c67 c78) _
        · refine jq_iload dX6_beyondRules_70 rfl ?_
          refine jq_iload_n dX6_beyondRules_72 rfl rfl ?_
          refine jq_eqN (tgt := 81) dX6_beyondRules_73 (by decide) ⟨by omega, by omega⟩ (fun c73 => ?_) (fun c73 => ?_)
          · refine jq_iconst (v := (nI 1)) dX6_beyondRules_81 (by decide) ?_
            refine jq_goto (tgt := 86) dX6_beyondRules_82 (by decide) ?_
            refine jq_iaddN dX6_beyondRules_86 ?_
            refine jq_istore_n dX6_beyondRules_87 rfl (by decide) rfl rfl ?_
            refine jq_iincN dX6_beyondRules_88 (by decide) rfl rfl rfl ?_
            refine jq_goto (tgt := 32) dX6_beyondRules_91 (by decide) ?_
            first
              | exact hF (b1 c67) _
              | exact hF (b2 c67 c73 c78) _
              | exact hT (b3 c67 c73) _
              | exact hT (b4 c67 c78) _
          · refine jq_iload dX6_beyondRules_76 rfl ?_
            refine jq_neZ (tgt := 85) dX6_beyondRules_78 (by decide) (by omega) (fun c78 => ?_) (fun c78 => ?_)
            · refine jq_iconst (v := (nI 0)) dX6_beyondRules_85 (by decide) ?_
              refine jq_iaddN dX6_beyondRules_86 ?_
              refine jq_istore_n dX6_beyondRules_87 rfl (by decide) rfl rfl ?_
              refine jq_iincN dX6_beyondRules_88 (by decide) rfl rfl rfl ?_
              refine jq_goto (tgt := 32) dX6_beyondRules_91 (by decide) ?_
              first
                | exact hF (b1 c67) _
                | exact hF (b2 c67 c73 c78) _
                | exact hT (b3 c67 c73) _
                | exact hT (b4 c67 c78) _
            · refine jq_iconst (v := (nI 1)) dX6_beyondRules_81 (by decide) ?_
              refine jq_goto (tgt := 86) dX6_beyondRules_82 (by decide) ?_
              refine jq_iaddN dX6_beyondRules_86 ?_
              refine jq_istore_n dX6_beyondRules_87 rfl (by decide) rfl rfl ?_
              refine jq_iincN dX6_beyondRules_88 (by decide) rfl rfl rfl ?_
              refine jq_goto (tgt := 32) dX6_beyondRules_91 (by decide) ?_
              first
                | exact hF (b1 c67) _
                | exact hF (b2 c67 c73 c78) _
                | exact hT (b3 c67 c73) _
                | exact hT (b4 c67 c78) _
      refine jq_iload_n dX6_beyondRules_32 rfl rfl ?_
      refine jq_aload_n dX6_beyondRules_33 rfl rfl ?_
      refine xq_getI fX6_74 dX6_beyondRules_34 (xs_lt (by decide) hn) (by decide) hA1.1.2.2.2.2.1 ?_
      refine jq_geN (tgt := 94) dX6_beyondRules_37 (by decide) ⟨by omega, by omega⟩ (fun c37 => ?_) (fun c37 => ?_)
      · exact absurd c37 (by omega)
      · refine jq_aload_n dX6_beyondRules_40 rfl rfl ?_
        refine xq_getR 29 fX6_31 dX6_beyondRules_41 (xs_lt (by decide) hn) (by decide) ?_
        refine jq_iload_n dX6_beyondRules_44 rfl rfl ?_
        refine xq_iaload dX6_beyondRules_45 (xs_lt (by decide) hn) rfl hie (xs_rd hse.1 (by omega)) ?_
        refine jq_neZ (tgt := 57) dX6_beyondRules_46 (by decide) (by omega) (fun c46 => ?_) (fun c46 => ?_)
        · refine jq_iconst (v := (nI 1)) dX6_beyondRules_57 (by decide) ?_
          first
            | exact h58 1 _ (by decide) (fun q => absurd q c46)
            | exact h58 _ _ hle2 (fun _ => rfl)
        · refine jq_aload_n dX6_beyondRules_49 rfl rfl ?_
          refine jq_iload_n dX6_beyondRules_50 rfl rfl ?_
          refine xq_vI dX6_beyondRules_51 kX6_196 (c_X6_having hn hA1 hL he) (xs_lt (by decide) hn) ⟨rfl, rfl⟩ rfl rfl (Nat.le_of_ble_eq_true rfl) ⟨⟨by decide, by decide⟩, Nat.le_refl _, Nat.le_refl _⟩ ?_
          refine jq_goto (tgt := 58) dX6_beyondRules_54 (by decide) ?_
          first
            | exact h58 1 _ (by decide) (fun q => absurd q c46)
            | exact h58 _ _ hle2 (fun _ => rfl)
  refine xs_Ct_of (L := [some (.ref (ad 21)), none, none, none, none]) rfl (Nat.le_of_ble_eq_true rfl) rfl ?_
  refine jq_aload_n dX6_beyondRules_0 rfl rfl ?_
  refine jq_iconst (v := (-1)) dX6_beyondRules_1 (by decide) ?_
  refine xq_rI dX6_beyondRules_2 kX6_190 (c_X6_answersWithout hn hA hLC (-1)) (xs_lt (by decide) hn) ⟨rfl, rfl⟩ rfl rfl (Nat.le_of_ble_eq_true rfl) ⟨⟨by decide, by decide⟩, Nat.le_refl _, Nat.le_refl _⟩ (fun v2 X2 h2 => ?_)
  obtain ⟨a1, a2, a3⟩ := h2
  change v2 = nI (tb_cnt2 w h num mk (-1)) at a1
  subst a1
  refine jq_istore_n dX6_beyondRules_5 rfl (by decide) rfl rfl ?_
  refine jq_aload_n dX6_beyondRules_6 rfl rfl ?_
  refine jq_iload_n dX6_beyondRules_7 rfl rfl ?_
  refine jq_leZ (tgt := 15) dX6_beyondRules_8 (by decide) (by omega) (fun c8 => ?_) (fun c8 => ?_)
  · exact absurd c8 (by omega)
  · refine jq_iconst (v := (tb_b true)) dX6_beyondRules_11 (by decide) ?_
    refine jq_goto (tgt := 16) dX6_beyondRules_12 (by decide) ?_
    refine xq_vI dX6_beyondRules_16 kX6_90 (c_X6_mayB hn true) (xs_lt (by decide) hn) ⟨rfl, rfl⟩ rfl rfl (Nat.le_of_ble_eq_true rfl) ⟨⟨by decide, by decide⟩, Nat.le_refl _, Nat.le_refl _⟩ ?_
    have hf1 : xs_fr [] [(21, 26)] X2 (xs_si X2 21 26 (tb_b (!true))) := xs_fr_si xs_fr_rf (by decide)
    have hfa : xs_fr rf_SZ rf_FZ X (xs_si X2 21 26 (tb_b (!true))) := xs_fr_tr (xs_fr_mo a2 (by decide)) (xs_fr_mo hf1 (by decide))
    have hA2 := rf_afr hA hfa
    refine jq_if_ne (tgt := 24) dX6_beyondRules_19 (by decide) (fun c19 => ?_) (fun c19 => ?_)
    · refine jq_aload_n dX6_beyondRules_24 rfl rfl ?_
      refine xq_rV dX6_beyondRules_25 kX6_105 (c_X6_follow hn hA2.1 hA2.2.1 hA2.2.2) (xs_lt (by decide) hn) ⟨rfl, rfl⟩ rfl rfl (Nat.le_of_ble_eq_true rfl) ⟨⟨by decide, by decide⟩, Nat.le_refl _, Nat.le_refl _⟩ (fun X25 h25 => ?_)
      obtain ⟨b1, b2⟩ := h25
      refine jq_iconst (v := (nI 0)) dX6_beyondRules_28 (by decide) ?_
      refine jq_istore_n dX6_beyondRules_29 rfl (by decide) rfl rfl ?_
      refine jq_iconst (v := (nI 0)) dX6_beyondRules_30 (by decide) ?_
      refine jq_istore_n dX6_beyondRules_31 rfl (by decide) rfl rfl ?_
      have hL1 : rf_LD w h (xs_si X2 21 26 (tb_b (!true))) := ⟨xs_fi hf1 21 25 a3.1, rf_lsfr a3.2 hf1⟩
      exact loop (tb_ne w h) 0 _ X25 (by omega) (xs_fr_tr hfa (xs_fr_mo b1 (by decide))) ⟨xs_fi b1 21 25 hL1.1, rf_lsfr hL1.2 b1⟩ b2.1 (xs_fi b1 21 26 xs_si_at)
    · exact absurd c19 (by decide)
set_option maxHeartbeats 4000000 in
theorem c_X6_isNeeded_no {l : Launch} {G : jq_G} {n : Nat} {ad : Nat → Nat} {X : xs_T} (hn : 39 ≤ n) {w h : Nat} {num : Nat → Int32} {mk : Nat → Nat} (hA : rf_A w h num mk X) (hLC : rf_LC X) (x : Int32) (hno : tb_inB x (tb_nc w h) = false) : xs_Ct l G mX6_isNeeded 5 [.ref (ad 21), .int (x)] n ad X (xs_pi (fun v X' => v = 0 ∧ xs_fr rf_SZ rf_FZ X X' ∧ rf_LC X' ∧ X'.1 21 26 = 1)) := by
  have hf1 : xs_fr [] [(21, 26)] X (xs_si X 21 26 (tb_b (!false))) := xs_fr_si xs_fr_rf (by decide)
  refine xs_Ct_of (L := [some (.ref (ad 21)), some (.int (x))]) rfl (Nat.le_of_ble_eq_true rfl) rfl ?_
  refine jq_aload_n dX6_isNeeded_0 rfl rfl ?_
  refine jq_aload_n dX6_isNeeded_1 rfl rfl ?_
  refine jq_iload_n dX6_isNeeded_2 rfl rfl ?_
  refine xq_vI dX6_isNeeded_3 kX6_94 (c_X6_isCellB hn hA.1 x) (xs_lt (by decide) hn) ⟨rfl, rfl⟩ rfl rfl (Nat.le_of_ble_eq_true rfl) ⟨⟨by decide, by decide⟩, Nat.le_refl _, Nat.le_refl _⟩ ?_
  rw [hno]
  refine xq_vI dX6_isNeeded_6 kX6_90 (c_X6_mayB hn false) (xs_lt (by decide) hn) ⟨rfl, rfl⟩ rfl rfl (Nat.le_of_ble_eq_true rfl) ⟨⟨by decide, by decide⟩, Nat.le_refl _, Nat.le_refl _⟩ ?_
  refine jq_if_eq (tgt := 39) dX6_isNeeded_9 (by decide) (fun c9 => ?_) (fun c9 => ?_)
  · refine jq_iconst (v := 0) dX6_isNeeded_39 (by decide) ?_
    exact xq_ireturn dX6_isNeeded_40 rfl rfl (⟨_, rfl, rfl, xs_fr_mo hf1 (by decide), rf_lcfr hLC hf1, xs_si_at⟩)
  · exact absurd rfl c9
set_option maxHeartbeats 4000000 in
theorem c_X6_isNeeded_ok {l : Launch} {G : jq_G} {n : Nat} {ad : Nat → Nat} {X : xs_T} (hn : 39 ≤ n) {w h : Nat} {num : Nat → Int32} {mk : Nat → Nat} (hA : rf_A w h num mk X) (hLC : rf_LC X) {c : Nat} (hc : c < tb_nc w h) : xs_Ct l G mX6_isNeeded 5 [.ref (ad 21), .int (nI (c))] n ad X (xs_pi (fun v X' => v = tb_b (!(num c == -1) && decide (tb_cnt2 w h num mk (-1) < tb_cnt2 w h num mk (nI c))) ∧ xs_fr rf_SZ rf_FZ X X' ∧ rf_LC X' ∧ X'.1 21 26 = 0)) := by
  have hW := hA.1.1
  have hz := tb_sizes hW
  have hin := tb_inB_nI hc (by omega)
  have hic : vp_in (nI c) 16 := vp_inN (by omega) (by decide)
  have hf1 : xs_fr [] [(21, 26)] X (xs_si X 21 26 (tb_b (!true))) := xs_fr_si xs_fr_rf (by decide)
  have hA1 := rf_afr hA hf1
  have hL1 := rf_lcfr hLC hf1
  have hnc := hA1.2.2 c hc
  have hle := tb_cnt2_le hW num mk (-1)
  have hle2 := tb_cnt2_le hW num mk (nI c)
  refine xs_Ct_of (L := [some (.ref (ad 21)), some (.int (nI (c)))]) rfl (Nat.le_of_ble_eq_true rfl) rfl ?_
  refine jq_aload_n dX6_isNeeded_0 rfl rfl ?_
  refine jq_aload_n dX6_isNeeded_1 rfl rfl ?_
  refine jq_iload_n dX6_isNeeded_2 rfl rfl ?_
  refine xq_vI dX6_isNeeded_3 kX6_94 (c_X6_isCellB hn hA.1 _) (xs_lt (by decide) hn) ⟨rfl, rfl⟩ rfl rfl (Nat.le_of_ble_eq_true rfl) ⟨⟨by decide, by decide⟩, Nat.le_refl _, Nat.le_refl _⟩ ?_
  rw [hin]
  refine xq_vI dX6_isNeeded_6 kX6_90 (c_X6_mayB hn true) (xs_lt (by decide) hn) ⟨rfl, rfl⟩ rfl rfl (Nat.le_of_ble_eq_true rfl) ⟨⟨by decide, by decide⟩, Nat.le_refl _, Nat.le_refl _⟩ ?_
  refine jq_if_eq (tgt := 39) dX6_isNeeded_9 (by decide) (fun c9 => ?_) (fun c9 => ?_)
  · exact absurd c9 (by decide)
  · refine jq_aload_n dX6_isNeeded_12 rfl rfl ?_
    refine xq_getR 27 fX6_25 dX6_isNeeded_13 (xs_lt (by decide) hn) (by decide) ?_
    refine jq_iload_n dX6_isNeeded_16 rfl rfl ?_
    refine xq_iaload dX6_isNeeded_17 (xs_lt (by decide) hn) rfl hic (xs_rd hnc (by omega)) ?_
    refine jq_iconst (v := (-1)) dX6_isNeeded_18 (by decide) ?_
    refine jq_icmp_eq (tgt := 39) dX6_isNeeded_19 (by decide) (fun c19 => ?_) (fun c19 => ?_)
    · refine jq_iconst (v := 0) dX6_isNeeded_39 (by decide) ?_
      first
        | exact xq_ireturn dX6_isNeeded_40 rfl rfl ⟨_, rfl, by rw [c19]; rfl, xs_fr_mo hf1 (by decide), hL1, xs_si_at⟩
        | exact xq_ireturn dX6_isNeeded_40 rfl rfl ⟨_, rfl, by rw [decide_eq_false (by omega), Bool.and_false]; rfl, xs_fr_tr (xs_fr_mo hf1 (by decide)) (xs_fr_mo (xs_fr_tr a2 b2) (by decide)), rf_LD_C hW b3, xs_fi (xs_fr_tr a2 b2) 21 26 xs_si_at⟩
        | exact xq_ireturn dX6_isNeeded_40 rfl rfl ⟨_, rfl, by rw [decide_eq_true (by omega), Bool.and_true]; simp [c19, tb_b], xs_fr_tr (xs_fr_mo hf1 (by decide)) (xs_fr_mo (xs_fr_tr a2 b2) (by decide)), rf_LD_C hW b3, xs_fi (xs_fr_tr a2 b2) 21 26 xs_si_at⟩
    · refine jq_aload_n dX6_isNeeded_22 rfl rfl ?_
      refine jq_iload_n dX6_isNeeded_23 rfl rfl ?_
      refine xq_rI dX6_isNeeded_24 kX6_190 (c_X6_answersWithout hn hA1 hL1 (nI c)) (xs_lt (by decide) hn) ⟨rfl, rfl⟩ rfl rfl (Nat.le_of_ble_eq_true rfl) ⟨⟨by decide, by decide⟩, Nat.le_refl _, Nat.le_refl _⟩ (fun v24 X24 h24 => ?_)
      obtain ⟨a1, a2, a3⟩ := h24
      change v24 = nI (tb_cnt2 w h num mk (nI c)) at a1
      subst a1
      have hA2 := rf_afr2 hA1 a2
      have hL2 := rf_LD_C hW a3
      refine jq_aload_n dX6_isNeeded_27 rfl rfl ?_
      refine jq_iconst (v := (-1)) dX6_isNeeded_28 (by decide) ?_
      refine xq_rI dX6_isNeeded_29 kX6_190 (c_X6_answersWithout hn hA2 hL2 (-1)) (xs_lt (by decide) hn) ⟨rfl, rfl⟩ rfl rfl (Nat.le_of_ble_eq_true rfl) ⟨⟨by decide, by decide⟩, Nat.le_refl _, Nat.le_refl _⟩ (fun v29 X29 h29 => ?_)
      obtain ⟨b1, b2, b3⟩ := h29
      change v29 = nI (tb_cnt2 w h num mk (-1)) at b1
      subst b1
      refine jq_leN (tgt := 39) dX6_isNeeded_32 (by decide) ⟨by omega, by omega⟩ (fun c32 => ?_) (fun c32 => ?_)
      · refine jq_iconst (v := 0) dX6_isNeeded_39 (by decide) ?_
        first
          | exact xq_ireturn dX6_isNeeded_40 rfl rfl ⟨_, rfl, by rw [c19]; rfl, xs_fr_mo hf1 (by decide), hL1, xs_si_at⟩
          | exact xq_ireturn dX6_isNeeded_40 rfl rfl ⟨_, rfl, by rw [decide_eq_false (by omega), Bool.and_false]; rfl, xs_fr_tr (xs_fr_mo hf1 (by decide)) (xs_fr_mo (xs_fr_tr a2 b2) (by decide)), rf_LD_C hW b3, xs_fi (xs_fr_tr a2 b2) 21 26 xs_si_at⟩
          | exact xq_ireturn dX6_isNeeded_40 rfl rfl ⟨_, rfl, by rw [decide_eq_true (by omega), Bool.and_true]; simp [c19, tb_b], xs_fr_tr (xs_fr_mo hf1 (by decide)) (xs_fr_mo (xs_fr_tr a2 b2) (by decide)), rf_LD_C hW b3, xs_fi (xs_fr_tr a2 b2) 21 26 xs_si_at⟩
      · refine jq_iconst (v := 1) dX6_isNeeded_35 (by decide) ?_
        refine jq_goto (tgt := 40) dX6_isNeeded_36 (by decide) ?_
        first
          | exact xq_ireturn dX6_isNeeded_40 rfl rfl ⟨_, rfl, by rw [c19]; rfl, xs_fr_mo hf1 (by decide), hL1, xs_si_at⟩
          | exact xq_ireturn dX6_isNeeded_40 rfl rfl ⟨_, rfl, by rw [decide_eq_false (by omega), Bool.and_false]; rfl, xs_fr_tr (xs_fr_mo hf1 (by decide)) (xs_fr_mo (xs_fr_tr a2 b2) (by decide)), rf_LD_C hW b3, xs_fi (xs_fr_tr a2 b2) 21 26 xs_si_at⟩
          | exact xq_ireturn dX6_isNeeded_40 rfl rfl ⟨_, rfl, by rw [decide_eq_true (by omega), Bool.and_true]; simp [c19, tb_b], xs_fr_tr (xs_fr_mo hf1 (by decide)) (xs_fr_mo (xs_fr_tr a2 b2) (by decide)), rf_LD_C hW b3, xs_fi (xs_fr_tr a2 b2) 21 26 xs_si_at⟩
set_option maxHeartbeats 4000000 in
theorem c_X6_lay_no {l : Launch} {G : jq_G} {n : Nat} {ad : Nat → Nat} {X : xs_T} (hn : 39 ≤ n) (x y : Int32) (hno : (tb_w4 x && tb_w4 y) = false) : xs_Ct l G mX6_lay 3 [.ref (ad 21), .int (x), .int (y)] n ad X (xs_pv (fun X' => xs_fr [] [(21, 26)] X X' ∧ X'.1 21 26 = 1)) := by
  refine xs_Ct_of (L := [some (.ref (ad 21)), some (.int (x)), some (.int (y))]) rfl (Nat.le_of_ble_eq_true rfl) rfl ?_
  refine jq_aload_n dX6_lay_0 rfl rfl ?_
  refine jq_iload_n dX6_lay_1 rfl rfl ?_
  refine jq_iconst (v := (nI 1)) dX6_lay_2 (by decide) ?_
  refine jq_icmp_lt (tgt := 25) dX6_lay_3 (by decide) (fun c3 => ?_) (fun c3 => ?_)
  · refine jq_iconst (v := (tb_b false)) dX6_lay_25 (by decide) ?_
    refine xq_vI dX6_lay_26 kX6_90 (c_X6_mayB hn false) (xs_lt (by decide) hn) ⟨rfl, rfl⟩ rfl rfl (Nat.le_of_ble_eq_true rfl) ⟨⟨by decide, by decide⟩, Nat.le_refl _, Nat.le_refl _⟩ ?_
    refine jq_if_eq (tgt := 38) dX6_lay_29 (by decide) (fun c29 => ?_) (fun c29 => ?_)
    · exact xq_return rfl dX6_lay_38 rfl (⟨rfl, xs_fr_si xs_fr_rf (by decide), xs_si_at⟩)
    · exact absurd rfl c29
  · refine jq_iload_n dX6_lay_6 rfl rfl ?_
    refine jq_iconst (v := (nI 4)) dX6_lay_7 (by decide) ?_
    refine jq_icmp_gt (tgt := 25) dX6_lay_8 (by decide) (fun c8 => ?_) (fun c8 => ?_)
    · refine jq_iconst (v := (tb_b false)) dX6_lay_25 (by decide) ?_
      refine xq_vI dX6_lay_26 kX6_90 (c_X6_mayB hn false) (xs_lt (by decide) hn) ⟨rfl, rfl⟩ rfl rfl (Nat.le_of_ble_eq_true rfl) ⟨⟨by decide, by decide⟩, Nat.le_refl _, Nat.le_refl _⟩ ?_
      refine jq_if_eq (tgt := 38) dX6_lay_29 (by decide) (fun c29 => ?_) (fun c29 => ?_)
      · exact xq_return rfl dX6_lay_38 rfl (⟨rfl, xs_fr_si xs_fr_rf (by decide), xs_si_at⟩)
      · exact absurd rfl c29
    · refine jq_iload_n dX6_lay_11 rfl rfl ?_
      refine jq_iconst (v := (nI 1)) dX6_lay_12 (by decide) ?_
      refine jq_icmp_lt (tgt := 25) dX6_lay_13 (by decide) (fun c13 => ?_) (fun c13 => ?_)
      · refine jq_iconst (v := (tb_b false)) dX6_lay_25 (by decide) ?_
        refine xq_vI dX6_lay_26 kX6_90 (c_X6_mayB hn false) (xs_lt (by decide) hn) ⟨rfl, rfl⟩ rfl rfl (Nat.le_of_ble_eq_true rfl) ⟨⟨by decide, by decide⟩, Nat.le_refl _, Nat.le_refl _⟩ ?_
        refine jq_if_eq (tgt := 38) dX6_lay_29 (by decide) (fun c29 => ?_) (fun c29 => ?_)
        · exact xq_return rfl dX6_lay_38 rfl (⟨rfl, xs_fr_si xs_fr_rf (by decide), xs_si_at⟩)
        · exact absurd rfl c29
      · refine jq_iload_n dX6_lay_16 rfl rfl ?_
        refine jq_iconst (v := (nI 4)) dX6_lay_17 (by decide) ?_
        refine jq_icmp_gt (tgt := 25) dX6_lay_18 (by decide) (fun c18 => ?_) (fun c18 => ?_)
        · refine jq_iconst (v := (tb_b false)) dX6_lay_25 (by decide) ?_
          refine xq_vI dX6_lay_26 kX6_90 (c_X6_mayB hn false) (xs_lt (by decide) hn) ⟨rfl, rfl⟩ rfl rfl (Nat.le_of_ble_eq_true rfl) ⟨⟨by decide, by decide⟩, Nat.le_refl _, Nat.le_refl _⟩ ?_
          refine jq_if_eq (tgt := 38) dX6_lay_29 (by decide) (fun c29 => ?_) (fun c29 => ?_)
          · exact xq_return rfl dX6_lay_38 rfl (⟨rfl, xs_fr_si xs_fr_rf (by decide), xs_si_at⟩)
          · exact absurd rfl c29
        · exact absurd hno (by unfold tb_w4; rw [decide_eq_true (fa_of_nlt c3), decide_eq_true (fa_of_nlt c8), decide_eq_true (fa_of_nlt c13), decide_eq_true (fa_of_nlt c18)]; decide)
set_option maxHeartbeats 4000000 in
theorem c_X6_lay_ok {l : Launch} {G : jq_G} {n : Nat} {ad : Nat → Nat} {X : xs_T} (hn : 39 ≤ n) {w h : Nat} (hW : tb_W w h) : xs_Ct l G mX6_lay 3 [.ref (ad 21), .int (nI (w)), .int (nI (h))] n ad X (xs_pv (fun X' => xs_fr rf_SL ((21, 26) :: rf_FL) X X' ∧ rf_A w h (fun _ => -1) (fun _ => 0) X' ∧ X'.1 21 26 = 0)) := by
  have hW2 := hW
  obtain ⟨hw1, hw2, hh1, hh2⟩ := hW2
  have hf1 : xs_fr [] [(21, 26)] X (xs_si X 21 26 (tb_b (!true))) := xs_fr_si xs_fr_rf (by decide)
  refine xs_Ct_of (L := [some (.ref (ad 21)), some (.int (nI (w))), some (.int (nI (h)))]) rfl (Nat.le_of_ble_eq_true rfl) rfl ?_
  refine jq_aload_n dX6_lay_0 rfl rfl ?_
  refine jq_iload_n dX6_lay_1 rfl rfl ?_
  refine jq_iconst (v := (nI 1)) dX6_lay_2 (by decide) ?_
  refine jq_ltN (tgt := 25) dX6_lay_3 (by decide) ⟨by omega, by omega⟩ (fun c3 => ?_) (fun c3 => ?_)
  · exact absurd c3 (by omega)
  · refine jq_iload_n dX6_lay_6 rfl rfl ?_
    refine jq_iconst (v := (nI 4)) dX6_lay_7 (by decide) ?_
    refine jq_gtN (tgt := 25) dX6_lay_8 (by decide) ⟨by omega, by omega⟩ (fun c8 => ?_) (fun c8 => ?_)
    · exact absurd c8 (by omega)
    · refine jq_iload_n dX6_lay_11 rfl rfl ?_
      refine jq_iconst (v := (nI 1)) dX6_lay_12 (by decide) ?_
      refine jq_ltN (tgt := 25) dX6_lay_13 (by decide) ⟨by omega, by omega⟩ (fun c13 => ?_) (fun c13 => ?_)
      · exact absurd c13 (by omega)
      · refine jq_iload_n dX6_lay_16 rfl rfl ?_
        refine jq_iconst (v := (nI 4)) dX6_lay_17 (by decide) ?_
        refine jq_gtN (tgt := 25) dX6_lay_18 (by decide) ⟨by omega, by omega⟩ (fun c18 => ?_) (fun c18 => ?_)
        · exact absurd c18 (by omega)
        · refine jq_iconst (v := (tb_b true)) dX6_lay_21 (by decide) ?_
          refine jq_goto (tgt := 26) dX6_lay_22 (by decide) ?_
          refine xq_vI dX6_lay_26 kX6_90 (c_X6_mayB hn true) (xs_lt (by decide) hn) ⟨rfl, rfl⟩ rfl rfl (Nat.le_of_ble_eq_true rfl) ⟨⟨by decide, by decide⟩, Nat.le_refl _, Nat.le_refl _⟩ ?_
          refine jq_if_eq (tgt := 38) dX6_lay_29 (by decide) (fun c29 => ?_) (fun c29 => ?_)
          · exact absurd c29 (by decide)
          · refine jq_aload_n dX6_lay_32 rfl rfl ?_
            refine jq_iload_n dX6_lay_33 rfl rfl ?_
            refine jq_iload_n dX6_lay_34 rfl rfl ?_
            refine xq_rV dX6_lay_35 kX6_63 (c_X6_lays hn hW) (xs_lt (by decide) hn) ⟨rfl, rfl⟩ rfl rfl (Nat.le_of_ble_eq_true rfl) ⟨⟨by decide, by decide⟩, Nat.le_refl _, Nat.le_refl _⟩ (fun X35 h35 => ?_)
            obtain ⟨a1, a2, a3, a4⟩ := h35
            exact xq_return rfl dX6_lay_38 rfl (⟨rfl, xs_fr_tr (xs_fr_mo hf1 (by decide)) (xs_fr_mo a1 (by decide)), ⟨a2, a3, a4⟩, xs_fi a1 21 26 xs_si_at⟩)
