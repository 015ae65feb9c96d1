/-! what the class's sets of wants tell, in the reference's words -/
theorem dv_wx {w h : Nat} (hW : tb_W w h) (num : Nat → Int32) (st : Nat → Nat) {e : Nat} (he : e < tb_ne w h) : (dv_asks w h num st).2.1.testBit e = ((tb_asks w h num st).1 e).testBit 0 ∧ (dv_asks w h num st).2.2.testBit e = ((tb_asks w h num st).1 e).testBit 1 ∧ (tb_asks w h num st).1 e < 4 := (dv_asks_rel hW num st he).1
def dv_inU (w h : Nat) (D : dv_Wt) : Prop := D.2.1 < 2 ^ tb_ne w h ∧ D.2.2 < 2 ^ tb_ne w h
theorem dv_inU_w {w h : Nat} {st : Nat → Nat} {D : dv_Wt} (hD : dv_inU w h D) (r how m : Nat) : dv_inU w h (dv_want (dv_S w h st 0) D r how m) := by
  have hm : m &&& dv_S w h st 0 < 2 ^ tb_ne w h := Nat.lt_of_le_of_lt Nat.and_le_right (bm_lt _ _)
  unfold dv_want dv_inU
  dsimp only
  constructor
  · split
    · exact Nat.or_lt_two_pow hD.1 hm
    · exact hD.1
  · split
    · exact hD.2
    · exact Nat.or_lt_two_pow hD.2 hm
theorem dv_inU_all {w h : Nat} (num : Nat → Int32) (st : Nat → Nat) : dv_inU w h (dv_asks w h num st) := by
  have hC : ∀ c, dv_inU w h (dv_askC w h num st c) := by
    intro c
    induction c with
    | zero => exact ⟨Nat.two_pow_pos _, Nat.two_pow_pos _⟩
    | succ c ih =>
      have h1 : dv_inU w h (dv_askC1 w h num st c) := by
        unfold dv_askC1
        split
        · exact dv_inU_w ih _ _ _
        · exact ih
      rw [dv_askC_s]
      split
      · exact dv_inU_w h1 _ _ _
      · exact h1
  have hP : ∀ p, dv_inU w h (dv_askP w h num st p) := by
    intro p
    induction p with
    | zero => exact hC _
    | succ p ih =>
      have h1 : dv_inU w h (dv_askP1 w h st (dv_askP w h num st p) p) := by
        unfold dv_askP1; split
        · exact dv_inU_w ih _ _ _
        · exact ih
      have h2 : dv_inU w h (dv_askP2 w h st (dv_askP1 w h st (dv_askP w h num st p) p) p) := by
        unfold dv_askP2; split
        · exact dv_inU_w h1 _ _ _
        · exact h1
      rw [dv_askP]; unfold dv_askP3; split
      · exact dv_inU_w h2 _ _ _
      · exact h2
  have hW1 : ∀ V D, dv_inU w h D → ∀ k, dv_inU w h (dv_askW1 w h num st V D k) := by
    intro V D hD k
    induction k with
    | zero => exact hD
    | succ k ih =>
      rw [dv_askW1]; split
      · exact dv_inU_w ih _ _ _
      · exact ih
  have hWW : ∀ k R D, dv_inU w h D → dv_inU w h (dv_askW w h num st k R D) := by
    intro k
    induction k with
    | zero => intro R D hD; exact hD
    | succ k ih =>
      intro R D hD
      rw [dv_askW]; split
      · exact hD
      · exact ih _ _ (hW1 _ _ hD _)
  have hE : ∀ D, dv_inU w h D → ∀ k, dv_inU w h (dv_askE w h st D k) := by
    intro D hD k
    induction k with
    | zero => exact hD
    | succ k ih =>
      rw [dv_askE]; split
      · exact dv_inU_w ih _ _ _
      · exact ih
  exact hE _ (hWW _ _ _ (hP _)) _
theorem dv_S_lt2 {w h : Nat} {st : Nat → Nat} {how : Nat} : dv_S w h st how < 2 ^ tb_ne w h := bm_lt _ _
theorem tb_x4 {x : Nat} (hx : x < 4) : x = 0 ∨ x = 1 ∨ x = 2 ∨ x = 3 := by omega
theorem dv_torn {w h : Nat} (hW : tb_W w h) (num : Nat → Int32) (st : Nat → Nat) : (!((dv_asks w h num st).2.1 &&& (dv_asks w h num st).2.2 == 0)) = tb_torn w h (tb_asks w h num st) := by
  have hU := dv_inU_all (w := w) (h := h) num st
  rw [Bool.eq_iff_iff, Bool.not_eq_true', beq_eq_false_iff_ne]
  unfold tb_torn
  rw [List.any_eq_true]
  have hx : ∀ e, e < tb_ne w h → (((dv_asks w h num st).2.1 &&& (dv_asks w h num st).2.2).testBit e = true ↔ (tb_asks w h num st).1 e = 3) := by
    intro e he
    obtain ⟨h1, h2, h3⟩ := dv_wx hW num st he
    rw [Nat.testBit_and, h1, h2]
    rcases tb_x4 h3 with z | z | z | z <;> rw [z] <;> decide
  constructor
  · intro hne
    apply Decidable.byContradiction
    intro hno
    apply hne
    apply bm_ext
    intro e
    rw [Nat.zero_testBit, Bool.eq_false_iff]
    intro hb
    rcases Nat.lt_or_ge e (tb_ne w h) with z | z
    · exact hno ⟨e, List.mem_range.mpr z, by rw [(hx e z).mp hb]; rfl⟩
    · rw [Nat.testBit_and, bm_hi hU.1 z] at hb; cases hb
  · rintro ⟨e, he, h3⟩ h0
    have := (hx e (List.mem_range.mp he)).mpr (eq_of_beq h3)
    rw [h0, Nat.zero_testBit] at this
    cases this
theorem dv_has {w h : Nat} (hW : tb_W w h) (num : Nat → Int32) (st : Nat → Nat) {e : Nat} (he : e < tb_ne w h) : ((dv_asks w h num st).2.1 ||| (dv_asks w h num st).2.2).testBit e = !((tb_asks w h num st).1 e == 0) := by
  obtain ⟨h1, h2, h3⟩ := dv_wx hW num st he
  rw [Nat.testBit_or, h1, h2]
  rcases tb_x4 h3 with z | z | z | z <;> rw [z] <;> decide
theorem dv_more {w h : Nat} (hW : tb_W w h) (num : Nat → Int32) (st : Nat → Nat) : (dv_asks w h num st).2.1 ||| (dv_asks w h num st).2.2 = 0 ↔ tb_more w h (tb_asks w h num st) = false := by
  have hU := dv_inU_all (w := w) (h := h) num st
  unfold tb_more
  constructor
  · intro h0
    apply tb_anyF
    intro e he
    have := dv_has hW num st he
    rw [h0, Nat.zero_testBit] at this
    exact this.symm
  · intro hm
    apply bm_ext
    intro e
    rw [Nat.zero_testBit]
    rcases Nat.lt_or_ge e (tb_ne w h) with z | z
    · rw [dv_has hW num st z, Bool.eq_false_iff]
      intro q
      have := tb_anyT (p := fun e => !((tb_asks w h num st).1 e == 0)) z q
      rw [hm] at this
      cases this
    · exact bm_hi (Nat.or_lt_two_pow hU.1 hU.2) z
theorem dv_nt {w h : Nat} {num : Nat → Int32} {st : Nat → Nat} (ht : tb_torn w h (tb_asks w h num st) = false) {e : Nat} (he : e < tb_ne w h) : (tb_asks w h num st).1 e ≠ 3 := by
  intro q
  have := tb_anyT (p := fun e => (tb_asks w h num st).1 e == 3) he (by simpa using q)
  unfold tb_torn at ht
  rw [ht] at this
  cases this
theorem dv_stepL {w h : Nat} (hW : tb_W w h) {num : Nat → Int32} {st : Nat → Nat} (ht : tb_torn w h (tb_asks w h num st) = false) : dv_S w h st 1 ||| (dv_asks w h num st).2.1 = dv_S w h (tb_dec (tb_asks w h num st) st) 1 := by
  have hU := dv_inU_all (w := w) (h := h) num st
  apply bm_ext
  intro e
  rcases Nat.lt_or_ge e (tb_ne w h) with he | he
  · obtain ⟨h1, h2, h3⟩ := dv_wx hW num st he
    have hn := dv_nt ht he
    have hk := tb_wok_all (w := w) (h := h) (num := num) (st := st) e
    rw [Nat.testBit_or, dv_S_bit he, dv_S_bit he, h1]
    unfold tb_dec
    by_cases s : st e = 0
    · rcases tb_x4 h3 with z | z | z | z
      · rw [z, s]; decide
      · rw [z, s]; decide
      · rw [z, s]; decide
      · exact absurd z hn
    · rw [hk s, if_pos rfl, Nat.zero_testBit, Bool.or_false]
  · rw [bm_hi (Nat.or_lt_two_pow dv_S_lt2 hU.1) he, bm_hi dv_S_lt2 he]
theorem dv_stepC {w h : Nat} (hW : tb_W w h) {num : Nat → Int32} {st : Nat → Nat} (ht : tb_torn w h (tb_asks w h num st) = false) : dv_S w h st 2 ||| (dv_asks w h num st).2.2 = dv_S w h (tb_dec (tb_asks w h num st) st) 2 := by
  have hU := dv_inU_all (w := w) (h := h) num st
  apply bm_ext
  intro e
  rcases Nat.lt_or_ge e (tb_ne w h) with he | he
  · obtain ⟨h1, h2, h3⟩ := dv_wx hW num st he
    have hn := dv_nt ht he
    have hk := tb_wok_all (w := w) (h := h) (num := num) (st := st) e
    rw [Nat.testBit_or, dv_S_bit he, dv_S_bit he, h2]
    unfold tb_dec
    by_cases s : st e = 0
    · rcases tb_x4 h3 with z | z | z | z
      · rw [z, s]; decide
      · rw [z, s]; decide
      · rw [z, s]; decide
      · exact absurd z hn
    · rw [hk s, if_pos rfl, Nat.zero_testBit, Bool.or_false]
  · rw [bm_hi (Nat.or_lt_two_pow dv_S_lt2 hU.2) he, bm_hi dv_S_lt2 he]
theorem tb_dec_le {w h : Nat} (hW : tb_W w h) {num : Nat → Int32} {st : Nat → Nat} (hst : ∀ e, e < tb_ne w h → st e ≤ 2) (ht : tb_torn w h (tb_asks w h num st) = false) : ∀ e, e < tb_ne w h → tb_dec (tb_asks w h num st) st e ≤ 2 := by
  intro e he
  have h3 := (dv_wx hW num st he).2.2
  have hn := dv_nt ht he
  unfold tb_dec
  split
  · exact hst e he
  · omega
theorem dv_rl_eq {D : dv_Wt} {e b : Nat} (hb : b < 8) (h1 : (D.1 b).testBit e = true) (h0 : ∀ r, r < b → (D.1 r).testBit e = false) : ∀ k r, k + r = 8 → r ≤ b → dv_rl D e k r = nI b
  | 0, r, hk, hr => by omega
  | k + 1, r, hk, hr => by
    rw [dv_rl]
    rcases Nat.lt_or_ge r b with z | z
    · rw [if_neg (by rw [h0 r z]; decide)]
      exact dv_rl_eq hb h1 h0 k (r + 1) (by omega) (by omega)
    · have : r = b := by omega
      subst this
      rw [if_pos h1]
theorem dv_rule {w h : Nat} (hW : tb_W w h) (num : Nat → Int32) (st : Nat → Nat) {e : Nat} (he : e < tb_ne w h) (hn : (tb_asks w h num st).1 e ≠ 0) : dv_rl (dv_asks w h num st) e 7 1 = nI ((tb_asks w h num st).2 e) := by
  obtain ⟨_, a4, a5, a6⟩ := dv_asks_rel hW num st he
  have hx2 : (tb_asks w h num st).2 e ≠ 0 := a6 hn
  have hb := a5 hx2
  obtain ⟨b1, b2, b3, b4⟩ := a4 _ hb
  refine dv_rl_eq b2 hb (fun r hr => ?_) 7 1 rfl b1
  rw [Bool.eq_false_iff]
  intro z
  have := (a4 r z).2.2.2
  have hr2 : r < (tb_asks w h num st).2 e := hr
  have h2 : (tb_asks w h num st).2 e ≤ r := this
  omega
/-! the class's rounds -/
abbrev dv_SC : List Nat := [13, 14, 15, 17, 18]
abbrev dv_FC : List (Nat × Nat) := [(11, 3), (11, 4), (11, 5), (11, 6), (12, 2), (12, 3), (16, 4), (16, 5), (16, 6), (16, 7)]
def dv_V (w h : Nat) (st : Nat → Nat) (rd rl : Nat → Int32) (c : Nat) (X : xs_T) : Prop := (X.2.1 16 4 = lN (dv_S w h st 1) ∧ X.2.1 16 5 = lN (dv_S w h st 2) ∧ X.1 16 6 = nI c) ∧ ∀ e, e < tb_ne w h → X.2.2.1 17 e = rd e ∧ X.2.2.1 18 e = rl e
theorem dv_vfr {w h : Nat} {st : Nat → Nat} {rd rl : Nat → Int32} {c : Nat} {S : List Nat} {F : List (Nat × Nat)} {X Y : xs_T} (hV : dv_V w h st rd rl c X) (hf : xs_fr S F X Y) (hq : (!decide (17 ∈ S) && !decide (18 ∈ S) && !decide ((16, 4) ∈ F) && !decide ((16, 5) ∈ F) && !decide ((16, 6) ∈ F)) = true := by decide) : dv_V w h st rd rl c Y := by
  simp only [Bool.and_eq_true, Bool.not_eq_true'] at hq
  obtain ⟨⟨⟨⟨q1, q2⟩, q3⟩, q4⟩, q5⟩ := hq
  refine ⟨⟨xs_fl hf 16 4 hV.1.1 q3, xs_fl hf 16 5 hV.1.2.1 q4, xs_fi hf 16 6 hV.1.2.2 q5⟩, fun e he => ?_⟩
  rw [xs_fa hf 17 q1, xs_fa hf 18 q2]
  exact hV.2 e he
set_option maxHeartbeats 4000000 in
theorem c_X2_begin {l : Launch} {G : jq_G} {n : Nat} {ad : Nat → Nat} {X : xs_T} (hn : 21 ≤ n) {w h : Nat} {st : Nat → Nat} (hT : dv_T w h X) (hst : ∀ e, e < tb_ne w h → st e ≤ 2) : xs_Ct l G mX2_begin 2 [.ref (ad 16), .long (lN (dv_S w h st 1)), .long (lN (dv_S w h st 2))] n ad X (xs_pv (fun X' => xs_fr dv_SC dv_FC X X' ∧ dv_V w h st (tb_rd0 st) (fun _ => -1) 0 X' ∧ X'.1 16 7 = nI 0)) := by
  have hz := tb_sizes hT.1
  have hL := dv_S_lt hT.1 st 1
  have hC := dv_S_lt hT.1 st 2
  have loop : ∀ (k e : Nat) (Y : xs_T), e + k = tb_ne w h → xs_fr dv_SC dv_FC X Y → Y.2.1 16 4 = lN (dv_S w h st 1) → Y.2.1 16 5 = lN (dv_S w h st 2) → Y.1 16 6 = nI 0 → Y.1 16 7 = nI 0 → (∀ j, j < e → Y.2.2.1 17 j = tb_rd0 st j ∧ Y.2.2.1 18 j = -1) → jq_J l G mX2_begin (jq_R 2 0 0) jq_E0 (xs_Ye G n ad (xs_pv (fun X' => xs_fr dv_SC dv_FC X X' ∧ dv_V w h st (tb_rd0 st) (fun _ => -1) 0 X' ∧ X'.1 16 7 = nI 0))) 23 [some (.ref (ad 16)), some (.long (lN (dv_S w h st 1))), none, some (.long (lN (dv_S w h st 2))), none, some (.int (nI (e)))] [] n ad (xs_mem G ad Y) 0 0 := by
    intro k
    induction k with
    | zero =>
      intro e Y hk hf h4 h5 h6 h7 hr
      have hT2 := dv_fr hT hf
      have e1 : e = tb_ne w h := by omega
      subst e1
      refine jq_iload dX2_begin_23 rfl ?_
      refine jq_aload_n dX2_begin_25 rfl rfl ?_
      refine xq_getR 1 fX2_18 dX2_begin_26 (xs_lt (by decide) hn) (by decide) ?_
      refine xq_getI fX2_48 dX2_begin_29 (xs_lt (by decide) hn) (by decide) hT2.2.1.2.2.2.2.1 ?_
      refine jq_geN (tgt := 78) dX2_begin_32 (by decide) ⟨by omega, by omega⟩ (fun c32 => ?_) (fun c32 => ?_)
      · exact xq_return rfl dX2_begin_78 rfl (⟨rfl, hf, ⟨⟨h4, h5, h6⟩, hr⟩, h7⟩)
      · exact absurd c32 (by omega)
    | succ k ih =>
      intro e Y hk hf h4 h5 h6 h7 hr
      have hT2 := dv_fr hT hf
      have he : e < tb_ne w h := by omega
      have hi : vp_in (nI e) 40 := vp_inN (by omega) (by decide)
      have h63 : ∀ v : Int32, v = tb_rd0 st e → jq_J l G mX2_begin (jq_R 2 0 0) jq_E0 (xs_Ye G n ad (xs_pv (fun X' => xs_fr dv_SC dv_FC X X' ∧ dv_V w h st (tb_rd0 st) (fun _ => -1) 0 X' ∧ X'.1 16 7 = nI 0))) 63 [some (.ref (ad 16)), some (.long (lN (dv_S w h st 1))), none, some (.long (lN (dv_S w h st 2))), none, some (.int (nI (e)))] [.int (v), .int (nI (e)), .ref (ad 17)] n ad (xs_mem G ad Y) 0 0 := by
        intro v hv
        refine xq_iastore dX2_begin_63 (xs_lt (by decide) hn) rfl hi ?_
        refine jq_aload_n dX2_begin_64 rfl rfl ?_
        refine xq_getR 18 fX2_15 dX2_begin_65 (xs_lt (by decide) hn) (by decide) ?_
        refine jq_iload dX2_begin_68 rfl ?_
        refine jq_iconst (v := (-1)) dX2_begin_70 (by decide) ?_
        refine xq_iastore dX2_begin_71 (xs_lt (by decide) hn) rfl hi ?_
        refine jq_iincN dX2_begin_72 (by decide) rfl rfl rfl ?_
        refine jq_goto (tgt := 23) dX2_begin_75 (by decide) ?_
        refine ih (e + 1) _ (by omega) (xs_fr_ai (xs_fr_ai hf (by decide)) (by decide)) h4 h5 h6 h7 (fun j hj => ?_)
        rw [xs_ai_ne (by decide), xs_ai_at, xs_ai_at, xs_ai_ne (by decide)]
        rcases Nat.lt_or_ge j e with q | q
        · rw [xs_upd_ne (by omega) (by omega), xs_upd_ne (by omega) (by omega)]; exact hr j q
        · rw [show j = e by omega, xs_upd_at (by omega), xs_upd_at (by omega)]; exact ⟨hv, rfl⟩
      have hb : (dv_S w h st 1 ||| dv_S w h st 2).testBit e = !(st e == 0) := by
        have := hst e he
        rw [Nat.testBit_or, dv_S_bit he, dv_S_bit he]
        have : st e = 0 ∨ st e = 1 ∨ st e = 2 := by omega
        rcases this with z | z | z <;> rw [z] <;> decide
      have ho : dv_S w h st 1 ||| dv_S w h st 2 < 2 ^ 40 := Nat.or_lt_two_pow hL hC
      refine jq_iload dX2_begin_23 rfl ?_
      refine jq_aload_n dX2_begin_25 rfl rfl ?_
      refine xq_getR 1 fX2_18 dX2_begin_26 (xs_lt (by decide) hn) (by decide) ?_
      refine xq_getI fX2_48 dX2_begin_29 (xs_lt (by decide) hn) (by decide) hT2.2.1.2.2.2.2.1 ?_
      refine jq_geN (tgt := 78) dX2_begin_32 (by decide) ⟨by omega, by omega⟩ (fun c32 => ?_) (fun c32 => ?_)
      · exact absurd c32 (by omega)
      · refine jq_aload_n dX2_begin_35 rfl rfl ?_
        refine xq_getR 17 fX2_9 dX2_begin_36 (xs_lt (by decide) hn) (by decide) ?_
        refine jq_iload dX2_begin_39 rfl ?_
        refine jq_aload_n dX2_begin_41 rfl rfl ?_
        refine xq_getL fX2_34 dX2_begin_42 (xs_lt (by decide) hn) (by decide) h4 ?_
        refine jq_aload_n dX2_begin_45 rfl rfl ?_
        refine xq_getL fX2_38 dX2_begin_46 (xs_lt (by decide) hn) (by decide) h5 ?_
        refine jq_lor dX2_begin_49 ?_
        rw [wb_or (by omega) (by omega)]
        refine jq_iload dX2_begin_50 rfl ?_
        refine xq_sI dX2_begin_52 kX2_53 (c_X5_has (by omega) (by omega)) rfl rfl (Nat.le_of_ble_eq_true rfl) ⟨⟨by decide, by decide⟩, Nat.le_refl _, Nat.le_refl _⟩ ?_
        rw [hb]
        refine jq_if_eq (tgt := 62) dX2_begin_55 (by decide) (fun c55 => ?_) (fun c55 => ?_)
        · have d55 : st e = 0 := by simpa using tb_b0.mp c55
          refine jq_iconst (v := (-1)) dX2_begin_62 (by decide) ?_
          exact h63 _ (by unfold tb_rd0; first | exact (if_pos d55).symm | exact (if_neg d55).symm | omega)
        · have d55 : st e ≠ 0 := by simpa using tb_b1.mp c55
          refine jq_iconst (v := 0) dX2_begin_58 (by decide) ?_
          refine jq_goto (tgt := 63) dX2_begin_59 (by decide) ?_
          exact h63 _ (by unfold tb_rd0; first | exact (if_pos d55).symm | exact (if_neg d55).symm | omega)
  refine xs_Ct_of (L := [some (.ref (ad 16)), some (.long (lN (dv_S w h st 1))), none, some (.long (lN (dv_S w h st 2))), none, none]) rfl (Nat.le_of_ble_eq_true rfl) rfl ?_
  refine jq_aload_n dX2_begin_0 rfl rfl ?_
  refine jq_lload_n dX2_begin_1 rfl rfl ?_
  refine xq_putL pX2_34 dX2_begin_2 (xs_lt (by decide) hn) (by decide) ?_
  refine jq_aload_n dX2_begin_5 rfl rfl ?_
  refine jq_lload_n dX2_begin_6 rfl rfl ?_
  refine xq_putL pX2_38 dX2_begin_7 (xs_lt (by decide) hn) (by decide) ?_
  refine jq_aload_n dX2_begin_10 rfl rfl ?_
  refine jq_iconst (v := (nI 0)) dX2_begin_11 (by decide) ?_
  refine xq_putI pX2_41 dX2_begin_12 (xs_lt (by decide) hn) (by decide) rfl rfl ?_
  refine jq_aload_n dX2_begin_15 rfl rfl ?_
  refine jq_iconst (v := (nI 0)) dX2_begin_16 (by decide) ?_
  refine xq_putI pX2_45 dX2_begin_17 (xs_lt (by decide) hn) (by decide) rfl rfl ?_
  refine jq_iconst (v := (nI 0)) dX2_begin_20 (by decide) ?_
  refine jq_istore dX2_begin_21 (by decide) rfl rfl ?_
  exact loop (tb_ne w h) 0 _ (by omega) (xs_fr_si (xs_fr_si (xs_fr_sl (xs_fr_sl xs_fr_rf (by decide)) (by decide)) (by decide)) (by decide)) ((xs_sl_ne (by decide)).trans xs_sl_at) xs_sl_at ((xs_si_ne (by decide)).trans xs_si_at) xs_si_at (fun j hj => absurd hj (Nat.not_lt_zero j))
set_option maxHeartbeats 4000000 in
theorem c_X2_decide {l : Launch} {G : jq_G} {n : Nat} {ad : Nat → Nat} {X : xs_T} (hn : 21 ≤ n) {w h : Nat} {num : Nat → Int32} {st : Nat → Nat} {rd rl : Nat → Int32} {c : Nat} (hT : dv_T w h X) (hD : dv_D (dv_asks w h num st) X) (hV : dv_V w h st rd rl c X) (ht : tb_torn w h (tb_asks w h num st) = false) : xs_Ct l G mX2_decide 3 [.ref (ad 16)] n ad X (xs_pv (fun X' => xs_fr dv_SC [(16, 4), (16, 5), (16, 6)] X X' ∧ dv_V w h (tb_dec (tb_asks w h num st) st) (tb_decR (tb_asks w h num st) rd (c + 1)) (tb_decL (tb_asks w h num st) rl) (c + 1) X')) := by
  have hz := tb_sizes hT.1
  have hL := dv_S_lt hT.1 st 1
  have hC := dv_S_lt hT.1 st 2
  have hd1 := hD.2.1.2
  have hd2 := hD.2.2.2
  have ho : (dv_asks w h num st).2.1 ||| (dv_asks w h num st).2.2 < 2 ^ 40 := Nat.or_lt_two_pow hd1 hd2
  have loop : ∀ (k e : Nat) (Y : xs_T), e + k = tb_ne w h → xs_fr dv_SC [(16, 4), (16, 5), (16, 6)] X Y → Y.2.1 16 4 = lN (dv_S w h (tb_dec (tb_asks w h num st) st) 1) → Y.2.1 16 5 = lN (dv_S w h (tb_dec (tb_asks w h num st) st) 2) → Y.1 16 6 = nI (c + 1) → (∀ j, j < tb_ne w h → Y.2.2.1 17 j = (if j < e then tb_decR (tb_asks w h num st) rd (c + 1) j else rd j) ∧ Y.2.2.1 18 j = (if j < e then tb_decL (tb_asks w h num st) rl j else rl j)) → dv_D (dv_asks w h num st) Y → jq_J l G mX2_decide (jq_R 3 0 0) jq_E0 (xs_Ye G n ad (xs_pv (fun X' => xs_fr dv_SC [(16, 4), (16, 5), (16, 6)] X X' ∧ dv_V w h (tb_dec (tb_asks w h num st) st) (tb_decR (tb_asks w h num st) rd (c + 1)) (tb_decL (tb_asks w h num st) rl) (c + 1) X'))) 44 [some (.ref (ad 16)), some (.int (nI (e)))] [] n ad (xs_mem G ad Y) 0 0 := by
    intro k
    induction k with
    | zero =>
      intro e Y hk hf h4 h5 h6 hr hD2
      have hT2 := dv_fr hT hf
      refine jq_iload_n dX2_decide_44 rfl rfl ?_
      refine jq_aload_n dX2_decide_45 rfl rfl ?_
      refine xq_getR 1 fX2_18 dX2_decide_46 (xs_lt (by decide) hn) (by decide) ?_
      refine xq_getI fX2_48 dX2_decide_49 (xs_lt (by decide) hn) (by decide) hT2.2.1.2.2.2.2.1 ?_
      refine jq_geN (tgt := 107) dX2_decide_52 (by decide) ⟨by omega, by omega⟩ (fun c52 => ?_) (fun c52 => ?_)
      · exact xq_return rfl dX2_decide_107 rfl (⟨rfl, hf, ⟨h4, h5, h6⟩, fun j hj => ⟨by rw [(hr j hj).1, if_pos (by omega)], by rw [(hr j hj).2, if_pos (by omega)]⟩⟩)
      · exact absurd c52 (by omega)
    | succ k ih =>
      intro e Y hk hf h4 h5 h6 hr hD2
      have hT2 := dv_fr hT hf
      have he : e < tb_ne w h := by omega
      have hi : vp_in (nI e) 40 := vp_inN (by omega) (by decide)
      obtain ⟨r1, r2⟩ := hr e he
      rw [if_neg (Nat.lt_irrefl e)] at r1 r2
      have h101 : ∀ Z : xs_T, xs_fr dv_SC [(16, 4), (16, 5), (16, 6)] X Z → Z.2.1 16 4 = lN (dv_S w h (tb_dec (tb_asks w h num st) st) 1) → Z.2.1 16 5 = lN (dv_S w h (tb_dec (tb_asks w h num st) st) 2) → Z.1 16 6 = nI (c + 1) → dv_D (dv_asks w h num st) Z → (∀ j, j ≠ e → Z.2.2.1 17 j = Y.2.2.1 17 j ∧ Z.2.2.1 18 j = Y.2.2.1 18 j) → (Z.2.2.1 17 e = tb_decR (tb_asks w h num st) rd (c + 1) e ∧ Z.2.2.1 18 e = tb_decL (tb_asks w h num st) rl e) → jq_J l G mX2_decide (jq_R 3 0 0) jq_E0 (xs_Ye G n ad (xs_pv (fun X' => xs_fr dv_SC [(16, 4), (16, 5), (16, 6)] X X' ∧ dv_V w h (tb_dec (tb_asks w h num st) st) (tb_decR (tb_asks w h num st) rd (c + 1)) (tb_decL (tb_asks w h num st) rl) (c + 1) X'))) 101 [some (.ref (ad 16)), some (.int (nI (e)))] [] n ad (xs_mem G ad Z) 0 0 := by
        intro Z hfZ z4 z5 z6 zD zo ze
        refine jq_iincN dX2_decide_101 (by decide) rfl rfl rfl ?_
        refine jq_goto (tgt := 44) dX2_decide_104 (by decide) ?_
        refine ih (e + 1) Z (by omega) hfZ z4 z5 z6 (fun j hj => ?_) zD
        by_cases q : j = e
        · subst q; rw [if_pos (by omega), if_pos (by omega)]; exact ze
        · rw [(zo j q).1, (zo j q).2, (hr j hj).1, (hr j hj).2]
          by_cases q2 : j < e
          · rw [if_pos q2, if_pos q2, if_pos (by omega), if_pos (by omega)]; exact ⟨rfl, rfl⟩
          · rw [if_neg q2, if_neg q2, if_neg (by omega), if_neg (by omega)]; exact ⟨rfl, rfl⟩
      refine jq_iload_n dX2_decide_44 rfl rfl ?_
      refine jq_aload_n dX2_decide_45 rfl rfl ?_
      refine xq_getR 1 fX2_18 dX2_decide_46 (xs_lt (by decide) hn) (by decide) ?_
      refine xq_getI fX2_48 dX2_decide_49 (xs_lt (by decide) hn) (by decide) hT2.2.1.2.2.2.2.1 ?_
      refine jq_geN (tgt := 107) dX2_decide_52 (by decide) ⟨by omega, by omega⟩ (fun c52 => ?_) (fun c52 => ?_)
      · exact absurd c52 (by omega)
      · refine jq_aload_n dX2_decide_55 rfl rfl ?_
        refine xq_getR 11 fX2_22 dX2_decide_56 (xs_lt (by decide) hn) (by decide) ?_
        refine xq_getL fX2_72 dX2_decide_59 (xs_lt (by decide) hn) (by decide) hD2.2.1.1 ?_
        refine jq_aload_n dX2_decide_62 rfl rfl ?_
        refine xq_getR 11 fX2_22 dX2_decide_63 (xs_lt (by decide) hn) (by decide) ?_
        refine xq_getL fX2_75 dX2_decide_66 (xs_lt (by decide) hn) (by decide) hD2.2.2.1 ?_
        refine jq_lor dX2_decide_69 ?_
        rw [wb_or (by omega) (by omega)]
        refine jq_iload_n dX2_decide_70 rfl rfl ?_
        refine xq_sI dX2_decide_71 kX2_53 (c_X5_has (by omega) (by omega)) rfl rfl (Nat.le_of_ble_eq_true rfl) ⟨⟨by decide, by decide⟩, Nat.le_refl _, Nat.le_refl _⟩ ?_
        rw [dv_has hT.1 num st he]
        refine jq_if_eq (tgt := 101) dX2_decide_74 (by decide) (fun c74 => ?_) (fun c74 => ?_)
        · have d74 : (tb_asks w h num st).1 e = 0 := by simpa using tb_b0.mp c74
          first
            | exact h101 Y hf h4 h5 h6 hD2 (fun j _ => ⟨rfl, rfl⟩) ⟨by rw [r1]; unfold tb_decR; rw [if_pos d74], by rw [r2]; unfold tb_decL; rw [if_pos d74]⟩
            | refine h101 _ (xs_fr_ai (xs_fr_ai hf (by decide)) (by decide)) h4 h5 h6 (dv_dfr hD2 (xs_fr_ai (S := [17, 18]) (F := []) (xs_fr_ai xs_fr_rf (by decide)) (by decide))) (fun j hj => ⟨?_, ?_⟩) ⟨?_, ?_⟩
              · rw [xs_ai_ne (by decide), xs_ai_at, xs_upd_ne (by omega) hj]
              · rw [xs_ai_at, xs_upd_ne (by omega) hj, xs_ai_ne (by decide)]
              · rw [xs_ai_ne (by decide), xs_ai_at, xs_upd_at (by omega)]; unfold tb_decR; rw [if_neg d74]
              · rw [xs_ai_at, xs_upd_at (by omega)]; unfold tb_decL; rw [if_neg d74]
        · have d74 : (tb_asks w h num st).1 e ≠ 0 := by simpa using tb_b1.mp c74
          refine jq_aload_n dX2_decide_77 rfl rfl ?_
          refine xq_getR 17 fX2_9 dX2_decide_78 (xs_lt (by decide) hn) (by decide) ?_
          refine jq_iload_n dX2_decide_81 rfl rfl ?_
          refine jq_aload_n dX2_decide_82 rfl rfl ?_
          refine xq_getI fX2_41 dX2_decide_83 (xs_lt (by decide) hn) (by decide) h6 ?_
          refine xq_iastore dX2_decide_86 (xs_lt (by decide) hn) rfl hi ?_
          refine jq_aload_n dX2_decide_87 rfl rfl ?_
          refine xq_getR 18 fX2_15 dX2_decide_88 (xs_lt (by decide) hn) (by decide) ?_
          refine jq_iload_n dX2_decide_91 rfl rfl ?_
          refine jq_aload_n dX2_decide_92 rfl rfl ?_
          refine xq_getR 11 fX2_22 dX2_decide_93 (xs_lt (by decide) hn) (by decide) ?_
          refine jq_iload_n dX2_decide_96 rfl rfl ?_
          refine xq_vI dX2_decide_97 kX2_81 (c_X4_firstRuleFor hn (dv_dfr hD2 (xs_fr_ai (S := [17]) (F := []) xs_fr_rf (by decide))) (by omega)) (xs_lt (by decide) hn) ⟨rfl, rfl⟩ rfl rfl (Nat.le_of_ble_eq_true rfl) ⟨⟨by decide, by decide⟩, Nat.le_refl _, Nat.le_refl _⟩ ?_
          rw [dv_rule hT.1 num st he d74]
          refine xq_iastore dX2_decide_100 (xs_lt (by decide) hn) rfl hi ?_
          first
            | exact h101 Y hf h4 h5 h6 hD2 (fun j _ => ⟨rfl, rfl⟩) ⟨by rw [r1]; unfold tb_decR; rw [if_pos d74], by rw [r2]; unfold tb_decL; rw [if_pos d74]⟩
            | refine h101 _ (xs_fr_ai (xs_fr_ai hf (by decide)) (by decide)) h4 h5 h6 (dv_dfr hD2 (xs_fr_ai (S := [17, 18]) (F := []) (xs_fr_ai xs_fr_rf (by decide)) (by decide))) (fun j hj => ⟨?_, ?_⟩) ⟨?_, ?_⟩
              · rw [xs_ai_ne (by decide), xs_ai_at, xs_upd_ne (by omega) hj]
              · rw [xs_ai_at, xs_upd_ne (by omega) hj, xs_ai_ne (by decide)]
              · rw [xs_ai_ne (by decide), xs_ai_at, xs_upd_at (by omega)]; unfold tb_decR; rw [if_neg d74]
              · rw [xs_ai_at, xs_upd_at (by omega)]; unfold tb_decL; rw [if_neg d74]
  have hD2 := hD
  refine xs_Ct_of (L := [some (.ref (ad 16)), none]) rfl (Nat.le_of_ble_eq_true rfl) rfl ?_
  refine jq_aload_n dX2_decide_0 rfl rfl ?_
  refine jq_dup dX2_decide_1 rfl ?_
  refine xq_getI fX2_41 dX2_decide_2 (xs_lt (by decide) hn) (by decide) hV.1.2.2 ?_
  refine jq_iconst (v := (nI 1)) dX2_decide_5 (by decide) ?_
  refine jq_iaddN dX2_decide_6 ?_
  refine xq_putI pX2_41 dX2_decide_7 (xs_lt (by decide) hn) (by decide) rfl rfl ?_
  refine jq_aload_n dX2_decide_10 rfl rfl ?_
  refine jq_dup dX2_decide_11 rfl ?_
  refine xq_getL fX2_34 dX2_decide_12 (xs_lt (by decide) hn) (by decide) ((xs_sl_ne (X := X) (q := 99) (k := 99) (v := 0) (by decide)).symm.trans hV.1.1) ?_
  refine jq_aload_n dX2_decide_15 rfl rfl ?_
  refine xq_getR 11 fX2_22 dX2_decide_16 (xs_lt (by decide) hn) (by decide) ?_
  refine xq_getL fX2_72 dX2_decide_19 (xs_lt (by decide) hn) (by decide) hD2.2.1.1 ?_
  refine jq_lor dX2_decide_22 ?_
  rw [wb_or (by omega) (by omega), dv_stepL hT.1 ht]
  refine xq_putL pX2_34 dX2_decide_23 (xs_lt (by decide) hn) (by decide) ?_
  refine jq_aload_n dX2_decide_26 rfl rfl ?_
  refine jq_dup dX2_decide_27 rfl ?_
  refine xq_getL fX2_38 dX2_decide_28 (xs_lt (by decide) hn) (by decide) ((xs_sl_ne (by decide)).trans hV.1.2.1) ?_
  refine jq_aload_n dX2_decide_31 rfl rfl ?_
  refine xq_getR 11 fX2_22 dX2_decide_32 (xs_lt (by decide) hn) (by decide) ?_
  refine xq_getL fX2_75 dX2_decide_35 (xs_lt (by decide) hn) (by decide) ((xs_sl_ne (by decide)).trans hD.2.2.1) ?_
  refine jq_lor dX2_decide_38 ?_
  rw [wb_or (by omega) (by omega), dv_stepC hT.1 ht]
  refine xq_putL pX2_38 dX2_decide_39 (xs_lt (by decide) hn) (by decide) ?_
  refine jq_iconst (v := (nI 0)) dX2_decide_42 (by decide) ?_
  refine jq_istore_n dX2_decide_43 rfl (by decide) rfl rfl ?_
  exact loop (tb_ne w h) 0 _ (by omega) (xs_fr_sl (xs_fr_sl (xs_fr_si xs_fr_rf (by decide)) (by decide)) (by decide)) ((xs_sl_ne (by decide)).trans xs_sl_at) xs_sl_at (show (xs_si X 16 6 (nI (c + 1))).1 16 6 = _ from xs_si_at) (fun j hj => by rw [if_neg (Nat.not_lt_zero j), if_neg (Nat.not_lt_zero j)]; exact hV.2 j hj) (dv_dfr hD (xs_fr_sl (S := []) (F := [(16, 4), (16, 5), (16, 6)]) (xs_fr_sl (xs_fr_si xs_fr_rf (by decide)) (by decide)) (by decide)))
