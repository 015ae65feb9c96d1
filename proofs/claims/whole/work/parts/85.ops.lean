/-! printed by program: EACH QUESTION OF THE LAW: what the class answers and what the reference answers are the same -/
def lw_go (w h : Nat) (num : Nat → Int32) (mk : Nat → Nat) (X : xs_T) : Prop := tb_W w h ∧ dv_A w h num mk X ∧ dv_LC w h X ∧ rf_A w h num mk X ∧ rf_LC X
def lw_st (X : xs_T) : Prop := ∃ w h num mk, lw_go w h num mk X
theorem xx_Cw_mono {l : Launch} {G : jq_G} {M : jq_M} {hh : List (Nat × Nat × Nat × Nat)} {d : Nat} {av : List Value} {n : Nat} {ad : Nat → Nat} {X : xs_T} {Pr Pr' : Option Value → xs_T → Prop} (h : xx_Cw l G M hh d av n ad X Pr) (hi : ∀ r X', Pr r X' → Pr' r X') : xx_Cw l G M hh d av n ad X Pr' := by
  intro sz p e ha hc hk s m args below hf hfit hP hKK
  obtain ⟨k, o, h1, h2, h3, hq⟩ := h sz p e ha hc hk s m args below hf hfit hP hKK
  refine ⟨k, o, h1, h2, h3, ?_⟩
  rcases hq with hq | hq
  · obtain ⟨⟨⟨r, n', ad', mem', e1, ⟨e2, e3, X', e4, e5⟩, e6⟩, hF⟩, hq⟩ := hq
    exact Or.inl ⟨⟨⟨r, n', ad', mem', e1, ⟨e2, e3, X', e4, hi r X' e5⟩, e6⟩, hF⟩, hq⟩
  · exact Or.inr hq
theorem tb_thr_ne {a b : Bool} (h : (a && b) = false) : tb_thr a b ≠ 0 := by cases a <;> cases b <;> first | decide | cases h
def lw_2 (l : Launch) (G : jq_G) (ad : Nat → Nat) (X : xs_T) (mL : jq_M) (hL : List (Nat × Nat × Nat × Nat)) (aL : List Value) (mR : jq_M) (d : Nat) (aR : List Value) (f : Int32 → Int64) : Prop :=
  ∃ (code : Int32) (Z : xs_T → Prop), xx_Cw l G mL hL 24 aL 40 ad X (xs_pi (fun r X1 => r = code ∧ Z X1)) ∧ ∀ X1, Z X1 → xs_Ct l G mR d aR 40 ad X1 (xs_pi (fun v X2 => X2.1 21 26 = code ∧ lw_st X2 ∧ (code = 0 → X2.2.2.2 39 0 = f v)))
def lw_2l (l : Launch) (G : jq_G) (ad : Nat → Nat) (X : xs_T) (mL : jq_M) (hL : List (Nat × Nat × Nat × Nat)) (aL : List Value) (mR : jq_M) (d : Nat) (aR : List Value) : Prop :=
  ∃ (code : Int32) (Z : xs_T → Prop), xx_Cw l G mL hL 24 aL 40 ad X (xs_pi (fun r X1 => r = code ∧ Z X1)) ∧ ∀ X1, Z X1 → xs_Ct l G mR d aR 40 ad X1 (xs_pl (fun v X2 => X2.1 21 26 = code ∧ lw_st X2 ∧ (code = 0 → X2.2.2.2 39 0 = v)))
def lw_2v (l : Launch) (G : jq_G) (ad : Nat → Nat) (X : xs_T) (mL : jq_M) (hL : List (Nat × Nat × Nat × Nat)) (aL : List Value) (mR : jq_M) (d : Nat) (aR : List Value) : Prop :=
  ∃ (code : Int32) (Z : xs_T → Prop), xx_Cw l G mL hL 24 aL 40 ad X (xs_pi (fun r X1 => r = code ∧ Z X1)) ∧ ∀ X1, Z X1 → xs_Ct l G mR d aR 40 ad X1 (xs_pv (fun X2 => X2.1 21 26 = code ∧ lw_st X2))
def lw_1 (l : Launch) (G : jq_G) (ad : Nat → Nat) (X : xs_T) (mL : jq_M) (dL : Nat) (mR : jq_M) (dR : Nat) : Prop :=
  ∃ (val : Int32) (Z : xs_T → Prop), xs_Ct l G mL dL [.ref (ad 0)] 40 ad X (xs_pi (fun r X1 => r = val ∧ Z X1)) ∧ ∀ X1, Z X1 → xs_Ct l G mR dR [.ref (ad 21)] 40 ad X1 (xs_pi (fun v X2 => v = val ∧ lw_st X2))
def lw_f (v : Int32) : Int64 := if v = 0 then 0 else 1
theorem lw_f_b {b : Bool} : tb_l b = lw_f (tb_b b) := by cases b <;> rfl
section LO
variable {l : Launch} {G : jq_G} {ad : Nat → Nat} {X : xs_T} {w h : Nat} {num : Nat → Int32} {mk : Nat → Nat}
set_option maxHeartbeats 1000000 in
theorem lw_number (hl : l.stackTraces = false) (hI : lw_go w h num mk X) (x v : Int32) : lw_2 l G ad X mL_number hL_number [.ref (ad 0), .int x, .int v, .ref (ad 39)] mX6_number 2 [.ref (ad 21), .int x, .int v] Int32.toInt64 := by
  obtain ⟨hW, hA, hL, hR, hC⟩ := hI
  have hz := tb_sizes hW
  by_cases hy : (tb_inB x (tb_nc w h) && tb_numOk v) = true
  · obtain ⟨hx, hv⟩ := (Bool.and_eq_true _ _).mp hy
    rcases tb_inB_cases x (N := tb_nc w h) (by omega) with q | ⟨c, hc, rfl⟩
    · rw [q] at hx; cases hx
    refine ⟨0, fun X1 => xs_fr [2, 39] [] X X1 ∧ dv_A w h (tb_up num c v) mk X1 ∧ X1.2.2.2 39 0 = (num c).toInt64, xx_Cw_mono (c_L_number_ok (Nat.le_refl _) hA hc hv) ?_, fun X1 hX1 => xs_Ct_mono (c_X6_number_ok (by decide) (rf_fr hR.1 hX1.1) hc hv) ?_⟩
    · rintro r X' ⟨v1, rfl, h1, h2⟩
      exact ⟨v1, rfl, h1, h2⟩
    · rintro r X2 ⟨v1, rfl, h1, h2, h3, h4⟩
      refine ⟨v1, rfl, h4, ⟨w, h, tb_up num c v, mk, hW, dv_afr hX1.2.1 h2, dv_lcfr (dv_lcfr hL hX1.1) h2, ⟨rf_fr (rf_fr hR.1 hX1.1) h2, rf_mfr (rf_mfr hR.2.1 hX1.1) h2, ?_⟩, rf_lcfr (rf_lcfr hC hX1.1) h2⟩, fun _ => ?_⟩
      · intro k hk
        rw [h3]
        by_cases e : k = c
        · rw [e, va_up_self]; simp [tb_up]
        · rw [va_up_ne _ _ e, (rf_nfr hR.2.2 hX1.1 (by decide)) k hk]; simp [tb_up, e]
      · rw [xs_fb h2 39, hX1.2.2, h1, (rf_nfr hR.2.2 hX1.1 (by decide)) c hc]
  · have hy : (tb_inB x (tb_nc w h) && tb_numOk v) = false := by simpa using hy
    refine ⟨(tb_thr (tb_inB x (tb_nc w h)) (tb_numOk v)), fun X1 => X1 = X, xx_Cw_mono (c_L_number_no hl (Nat.le_refl _) hA.1 x v hy) ?_, fun X1 hX1 => ?_⟩
    · rintro r X' ⟨v1, rfl, h1, h2⟩
      exact ⟨v1, rfl, h1, h2⟩
    · rw [hX1]
      refine xs_Ct_mono (c_X6_number_no (by decide) hR.1 x v hy) ?_
      rintro r X2 ⟨rfl, rfl⟩
      have hf : xs_fr [] [(21, 26)] X (xs_si X 21 26 (tb_thr (tb_inB x (tb_nc w h)) (tb_numOk v))) := xs_fr_si xs_fr_rf (by decide)
      exact ⟨_, rfl, xs_si_at, ⟨w, h, num, mk, hW, dv_afr hA hf, dv_lcfr hL hf, rf_afr hR hf, rf_lcfr hC hf⟩, fun e => absurd e (tb_thr_ne hy)⟩
set_option maxHeartbeats 1000000 in
theorem lw_mark (hl : l.stackTraces = false) (hI : lw_go w h num mk X) (x v : Int32) : lw_2 l G ad X mL_mark hL_mark [.ref (ad 0), .int x, .int v, .ref (ad 39)] mX6_mark 2 [.ref (ad 21), .int x, .int v] Int32.toInt64 := by
  obtain ⟨hW, hA, hL, hR, hC⟩ := hI
  have hz := tb_sizes hW
  by_cases hy : (tb_inB x (tb_ne w h) && tb_stOk v) = true
  · obtain ⟨hx, hv⟩ := (Bool.and_eq_true _ _).mp hy
    rcases tb_inB_cases x (N := tb_ne w h) (by omega) with q | ⟨c, hc, rfl⟩
    · rw [q] at hx; cases hx
    obtain ⟨s, hs, rfl⟩ := tb_stOk_nI hv
    refine ⟨0, fun X1 => xs_fr [39] [(0, 4), (0, 5)] X X1 ∧ dv_A w h num (tb_up mk c s) X1 ∧ X1.2.2.2 39 0 = (nI (mk c)).toInt64, xx_Cw_mono (c_L_mark_ok (Nat.le_refl _) hA hc hs) ?_, fun X1 hX1 => xs_Ct_mono (c_X6_mark_ok (by decide) (rf_fr hR.1 hX1.1) hc hv) ?_⟩
    · rintro r X' ⟨v1, rfl, h1, h2⟩
      exact ⟨v1, rfl, h1, h2⟩
    · rintro r X2 ⟨v1, rfl, h1, h2, h3, h4⟩
      refine ⟨v1, rfl, h4, ⟨w, h, num, tb_up mk c s, hW, dv_afr hX1.2.1 h2, dv_lcfr (dv_lcfr hL hX1.1) h2, ⟨rf_fr (rf_fr hR.1 hX1.1) h2, ?_, rf_nfr (rf_nfr hR.2.2 hX1.1) h2⟩, rf_lcfr (rf_lcfr hC hX1.1) h2⟩, fun _ => ?_⟩
      · intro k hk
        rw [h3]
        by_cases e : k = c
        · rw [e, va_up_self]
          simp only [tb_up, if_true]
          exact ⟨trivial, hs⟩
        · rw [va_up_ne _ _ e]
          simp only [tb_up, e, if_false]
          exact (rf_mfr hR.2.1 hX1.1 (by decide)) k hk
      · rw [xs_fb h2 39, hX1.2.2, h1, ((rf_mfr hR.2.1 hX1.1 (by decide)) c hc).1]
  · have hy : (tb_inB x (tb_ne w h) && tb_stOk v) = false := by simpa using hy
    refine ⟨(tb_thr (tb_inB x (tb_ne w h)) (tb_stOk v)), fun X1 => X1 = X, xx_Cw_mono (c_L_mark_no hl (Nat.le_refl _) hA.1 x v hy) ?_, fun X1 hX1 => ?_⟩
    · rintro r X' ⟨v1, rfl, h1, h2⟩
      exact ⟨v1, rfl, h1, h2⟩
    · rw [hX1]
      refine xs_Ct_mono (c_X6_mark_no (by decide) hR.1 x v hy) ?_
      rintro r X2 ⟨rfl, rfl⟩
      have hf : xs_fr [] [(21, 26)] X (xs_si X 21 26 (tb_thr (tb_inB x (tb_ne w h)) (tb_stOk v))) := xs_fr_si xs_fr_rf (by decide)
      exact ⟨_, rfl, xs_si_at, ⟨w, h, num, mk, hW, dv_afr hA hf, dv_lcfr hL hf, rf_afr hR hf, rf_lcfr hC hf⟩, fun e => absurd e (tb_thr_ne hy)⟩
set_option maxHeartbeats 1000000 in
theorem lw_edgeOf (hl : l.stackTraces = false) (hI : lw_go w h num mk X) (x y : Int32) : lw_2 l G ad X mL_edgeOf hL_edgeOf [.ref (ad 0), .int x, .int y, .ref (ad 39)] mX6_edgeOf 2 [.ref (ad 21), .int x, .int y] Int32.toInt64 := by
  obtain ⟨hW, hA, hL, hR, hC⟩ := hI
  have hz := tb_sizes hW
  by_cases hy : (tb_inB x (tb_nc w h) && tb_inB y 4) = true
  · obtain ⟨hx, hv⟩ := (Bool.and_eq_true _ _).mp hy
    rcases tb_inB_cases x (N := tb_nc w h) (by omega) with q | ⟨c, hc, rfl⟩
    · rw [q] at hx; cases hx
    rcases tb_inB_cases y (N := 4) (by omega) with q | ⟨s, hs, rfl⟩
    · rw [q] at hv; cases hv
    refine ⟨0, fun X1 => xs_fr [39] [] X X1 ∧ X1.2.2.2 39 0 = (nI (tb_sid w h c s)).toInt64, xx_Cw_mono (c_L_edgeOf_ok (Nat.le_refl _) hA.1 hc hs) ?_, fun X1 hX1 => xs_Ct_mono (c_X6_edgeOf_ok (by decide) (rf_fr hR.1 hX1.1) hc hs) ?_⟩
    · rintro r X' ⟨v1, rfl, h1, h2⟩
      exact ⟨v1, rfl, h1, h2⟩
    · rintro r X2 ⟨rfl, rfl⟩
      have hf : xs_fr [] [(21, 26)] X1 (xs_si X1 21 26 0) := xs_fr_si xs_fr_rf (by decide)
      exact ⟨_, rfl, xs_si_at, ⟨w, h, num, mk, hW, dv_afr (dv_afr hA hX1.1) hf, dv_lcfr (dv_lcfr hL hX1.1) hf, rf_afr (rf_afr hR hX1.1) hf, rf_lcfr (rf_lcfr hC hX1.1) hf⟩, fun _ => hX1.2⟩
  · have hy : (tb_inB x (tb_nc w h) && tb_inB y 4) = false := by simpa using hy
    refine ⟨1, fun X1 => X1 = X, xx_Cw_mono (c_L_edgeOf_no hl (Nat.le_refl _) hA.1 x y hy) ?_, fun X1 hX1 => ?_⟩
    · rintro r X' ⟨v1, rfl, h1, h2⟩
      exact ⟨v1, rfl, h1, h2⟩
    · rw [hX1]
      refine xs_Ct_mono (c_X6_edgeOf_no (by decide) hR.1 x y hy) ?_
      rintro r X2 ⟨rfl, rfl⟩
      have hf : xs_fr [] [(21, 26)] X (xs_si X 21 26 1) := xs_fr_si xs_fr_rf (by decide)
      exact ⟨_, rfl, xs_si_at, ⟨w, h, num, mk, hW, dv_afr hA hf, dv_lcfr hL hf, rf_afr hR hf, rf_lcfr hC hf⟩, fun e => absurd e (by decide)⟩
set_option maxHeartbeats 1000000 in
theorem lw_follows (hl : l.stackTraces = false) (hI : lw_go w h num mk X) (x : Int32) : lw_2 l G ad X mL_follows hL_follows [.ref (ad 0), .int x, .ref (ad 39)] mX6_follows 7 [.ref (ad 21), .int x] Int32.toInt64 := by
  obtain ⟨hW, hA, hL, hR, hC⟩ := hI
  have hz := tb_sizes hW
  rcases tb_inB_cases x (N := tb_ne w h) (by omega) with hx | ⟨j, hj, rfl⟩
  · skip
    refine ⟨1, fun X1 => X1 = X, xx_Cw_mono (c_L_follows_no hl (Nat.le_refl _) hA.1 x hx) ?_, fun X1 hX1 => ?_⟩
    · rintro r X' ⟨v1, rfl, h1, h2⟩
      exact ⟨v1, rfl, h1, h2⟩
    · rw [hX1]
      refine xs_Ct_mono (c_X6_follows_no (by decide) hR x hx) ?_
      rintro r X2 ⟨rfl, rfl⟩
      have hf : xs_fr [] [(21, 26)] X (xs_si X 21 26 1) := xs_fr_si xs_fr_rf (by decide)
      exact ⟨_, rfl, xs_si_at, ⟨w, h, num, mk, hW, dv_afr hA hf, dv_lcfr hL hf, rf_afr hR hf, rf_lcfr hC hf⟩, fun e => absurd e (by decide)⟩
  · refine ⟨0, fun X1 => xs_fr (39 :: dv_SC) dv_FC X X1 ∧ X1.2.2.2 39 0 = (nI ((tb_follow w h num mk).1 j)).toInt64, xx_Cw_mono (c_L_follows_ok (Nat.le_refl _) hA hj) ?_, fun X1 hX1 => xs_Ct_mono (c_X6_follows_ok (by decide) (rf_afr hR hX1.1) hj) ?_⟩
    · rintro r X' ⟨v1, rfl, h1, h2⟩
      exact ⟨v1, rfl, h1, h2⟩
    · rintro r X2 ⟨v1, rfl, h1, h2, h3⟩
      exact ⟨v1, rfl, h3, ⟨w, h, num, mk, hW, dv_afr (dv_afr hA hX1.1) h2, dv_lcfr (dv_lcfr hL hX1.1) h2, rf_afr (rf_afr hR hX1.1) h2, rf_lcfr (rf_lcfr hC hX1.1) h2⟩, fun _ => by rw [xs_fb h2 39, hX1.2, h1]⟩
set_option maxHeartbeats 1000000 in
theorem lw_roundOf (hl : l.stackTraces = false) (hI : lw_go w h num mk X) (x : Int32) : lw_2 l G ad X mL_roundOf hL_roundOf [.ref (ad 0), .int x, .ref (ad 39)] mX6_roundOf 7 [.ref (ad 21), .int x] Int32.toInt64 := by
  obtain ⟨hW, hA, hL, hR, hC⟩ := hI
  have hz := tb_sizes hW
  rcases tb_inB_cases x (N := tb_ne w h) (by omega) with hx | ⟨j, hj, rfl⟩
  · skip
    refine ⟨1, fun X1 => X1 = X, xx_Cw_mono (c_L_roundOf_no hl (Nat.le_refl _) hA.1 x hx) ?_, fun X1 hX1 => ?_⟩
    · rintro r X' ⟨v1, rfl, h1, h2⟩
      exact ⟨v1, rfl, h1, h2⟩
    · rw [hX1]
      refine xs_Ct_mono (c_X6_roundOf_no (by decide) hR x hx) ?_
      rintro r X2 ⟨rfl, rfl⟩
      have hf : xs_fr [] [(21, 26)] X (xs_si X 21 26 1) := xs_fr_si xs_fr_rf (by decide)
      exact ⟨_, rfl, xs_si_at, ⟨w, h, num, mk, hW, dv_afr hA hf, dv_lcfr hL hf, rf_afr hR hf, rf_lcfr hC hf⟩, fun e => absurd e (by decide)⟩
  · refine ⟨0, fun X1 => xs_fr (39 :: dv_SC) dv_FC X X1 ∧ X1.2.2.2 39 0 = ((tb_follow w h num mk).2.1 j).toInt64, xx_Cw_mono (c_L_roundOf_ok (Nat.le_refl _) hA hj) ?_, fun X1 hX1 => xs_Ct_mono (c_X6_roundOf_ok (by decide) (rf_afr hR hX1.1) hj) ?_⟩
    · rintro r X' ⟨v1, rfl, h1, h2⟩
      exact ⟨v1, rfl, h1, h2⟩
    · rintro r X2 ⟨v1, rfl, h1, h2, h3⟩
      exact ⟨v1, rfl, h3, ⟨w, h, num, mk, hW, dv_afr (dv_afr hA hX1.1) h2, dv_lcfr (dv_lcfr hL hX1.1) h2, rf_afr (rf_afr hR hX1.1) h2, rf_lcfr (rf_lcfr hC hX1.1) h2⟩, fun _ => by rw [xs_fb h2 39, hX1.2, h1]⟩
set_option maxHeartbeats 1000000 in
theorem lw_ruleOf (hl : l.stackTraces = false) (hI : lw_go w h num mk X) (x : Int32) : lw_2 l G ad X mL_ruleOf hL_ruleOf [.ref (ad 0), .int x, .ref (ad 39)] mX6_ruleOf 7 [.ref (ad 21), .int x] Int32.toInt64 := by
  obtain ⟨hW, hA, hL, hR, hC⟩ := hI
  have hz := tb_sizes hW
  rcases tb_inB_cases x (N := tb_ne w h) (by omega) with hx | ⟨j, hj, rfl⟩
  · skip
    refine ⟨1, fun X1 => X1 = X, xx_Cw_mono (c_L_ruleOf_no hl (Nat.le_refl _) hA.1 x hx) ?_, fun X1 hX1 => ?_⟩
    · rintro r X' ⟨v1, rfl, h1, h2⟩
      exact ⟨v1, rfl, h1, h2⟩
    · rw [hX1]
      refine xs_Ct_mono (c_X6_ruleOf_no (by decide) hR x hx) ?_
      rintro r X2 ⟨rfl, rfl⟩
      have hf : xs_fr [] [(21, 26)] X (xs_si X 21 26 1) := xs_fr_si xs_fr_rf (by decide)
      exact ⟨_, rfl, xs_si_at, ⟨w, h, num, mk, hW, dv_afr hA hf, dv_lcfr hL hf, rf_afr hR hf, rf_lcfr hC hf⟩, fun e => absurd e (by decide)⟩
  · refine ⟨0, fun X1 => xs_fr (39 :: dv_SC) dv_FC X X1 ∧ X1.2.2.2 39 0 = ((tb_follow w h num mk).2.2.1 j).toInt64, xx_Cw_mono (c_L_ruleOf_ok (Nat.le_refl _) hA hj) ?_, fun X1 hX1 => xs_Ct_mono (c_X6_ruleOf_ok (by decide) (rf_afr hR hX1.1) hj) ?_⟩
    · rintro r X' ⟨v1, rfl, h1, h2⟩
      exact ⟨v1, rfl, h1, h2⟩
    · rintro r X2 ⟨v1, rfl, h1, h2, h3⟩
      exact ⟨v1, rfl, h3, ⟨w, h, num, mk, hW, dv_afr (dv_afr hA hX1.1) h2, dv_lcfr (dv_lcfr hL hX1.1) h2, rf_afr (rf_afr hR hX1.1) h2, rf_lcfr (rf_lcfr hC hX1.1) h2⟩, fun _ => by rw [xs_fb h2 39, hX1.2, h1]⟩
set_option maxHeartbeats 1000000 in
theorem lw_answer (hl : l.stackTraces = false) (hI : lw_go w h num mk X) (x : Int32) : lw_2l l G ad X mL_answer hL_answer [.ref (ad 0), .int x, .ref (ad 39)] mX6_answer 5 [.ref (ad 21), .int x] := by
  obtain ⟨hW, hA, hL, hR, hC⟩ := hI
  have hz := tb_sizes hW
  by_cases h0 : tb_pk w h num mk x = 0
  · skip
    refine ⟨1, fun X1 => xs_fr dv_SL dv_FL X X1 ∧ dv_LC w h X1, xx_Cw_mono (c_L_answer_no hl (Nat.le_refl _) hA hL x h0) ?_, fun X1 hX1 => xs_Ct_mono (c_X6_answer (by decide) (rf_afr hR hX1.1) (rf_lcfr hC hX1.1) x) ?_⟩
    · rintro r X' ⟨v1, rfl, h1, h2⟩
      exact ⟨v1, rfl, h1, h2⟩
    · rintro r X2 ⟨v1, rfl, -, h2, h3, h4⟩
      exact ⟨v1, rfl, by rw [h4, h0]; rfl, ⟨w, h, num, mk, hW, dv_afr (dv_afr hA hX1.1) h2, dv_lcfr hX1.2 h2, rf_afr (rf_afr hR hX1.1) h2, h3⟩, fun e => absurd e (by decide)⟩
  · skip
    refine ⟨0, fun X1 => xs_fr [20, 39] dv_FL X X1 ∧ dv_LC w h X1 ∧ X1.2.2.2 39 0 = lN (tb_pk w h num mk x), xx_Cw_mono (c_L_answer_ok (Nat.le_refl _) hA hL x h0) ?_, fun X1 hX1 => xs_Ct_mono (c_X6_answer (by decide) (rf_afr hR hX1.1) (rf_lcfr hC hX1.1) x) ?_⟩
    · rintro r X' ⟨v1, rfl, h1, h2⟩
      exact ⟨v1, rfl, h1, h2⟩
    · rintro r X2 ⟨v1, rfl, h1, h2, h3, h4⟩
      refine ⟨v1, rfl, by rw [h4, decide_eq_false h0]; rfl, ⟨w, h, num, mk, hW, dv_afr (dv_afr hA hX1.1) h2, dv_lcfr hX1.2.1 h2, rf_afr (rf_afr hR hX1.1) h2, h3⟩, fun _ => ?_⟩
      rw [xs_fb h2 39, hX1.2.2, h1]
set_option maxHeartbeats 1000000 in
theorem lw_isInside (hl : l.stackTraces = false) (hI : lw_go w h num mk X) (x y : Int32) : lw_2 l G ad X mL_isInside hL_isInside [.ref (ad 0), .int x, .int y, .ref (ad 39)] mX6_isInside 5 [.ref (ad 21), .int x, .int y] lw_f := by
  obtain ⟨hW, hA, hL, hR, hC⟩ := hI
  have hz := tb_sizes hW
  by_cases h0 : tb_pk w h num mk x = 0
  · skip
    refine ⟨1, fun X1 => xs_fr dv_SL dv_FL X X1 ∧ dv_LC w h X1, xx_Cw_mono (c_L_isInside_no hl (Nat.le_refl _) hA hL x y (Or.inl h0)) ?_, fun X1 hX1 => xs_Ct_mono (c_X6_isInside_no (by decide) (rf_afr hR hX1.1) (rf_lcfr hC hX1.1) x y (Or.inl h0)) ?_⟩
    · rintro r X' ⟨v1, rfl, h1, h2⟩
      exact ⟨v1, rfl, h1, h2⟩
    · rintro r X2 ⟨v1, rfl, -, h2, h3, h4⟩
      exact ⟨v1, rfl, h4, ⟨w, h, num, mk, hW, dv_afr (dv_afr hA hX1.1) h2, dv_lcfr hX1.2 h2, rf_afr (rf_afr hR hX1.1) h2, h3⟩, fun e => absurd e (by decide)⟩
  · rcases tb_inB_cases y (N := tb_nc w h) (by omega) with hy | ⟨c, hc, rfl⟩
    · skip
      refine ⟨1, fun X1 => xs_fr dv_SL dv_FL X X1 ∧ dv_LC w h X1, xx_Cw_mono (c_L_isInside_no hl (Nat.le_refl _) hA hL x y (Or.inr hy)) ?_, fun X1 hX1 => xs_Ct_mono (c_X6_isInside_no (by decide) (rf_afr hR hX1.1) (rf_lcfr hC hX1.1) x y (Or.inr hy)) ?_⟩
      · rintro r X' ⟨v1, rfl, h1, h2⟩
        exact ⟨v1, rfl, h1, h2⟩
      · rintro r X2 ⟨v1, rfl, -, h2, h3, h4⟩
        exact ⟨v1, rfl, h4, ⟨w, h, num, mk, hW, dv_afr (dv_afr hA hX1.1) h2, dv_lcfr hX1.2 h2, rf_afr (rf_afr hR hX1.1) h2, h3⟩, fun e => absurd e (by decide)⟩
    obtain ⟨-, C, hC1, hC2⟩ := (dv_mem_loops hW).mp (tb_pk_in h0)
    refine ⟨0, fun X1 => xs_fr [20, 39] dv_FL X X1 ∧ dv_LC w h X1 ∧ X1.2.2.2 39 0 = tb_l (C.testBit c), xx_Cw_mono (c_L_isInside_ok (Nat.le_refl _) hA hL x hc hC1 h0 hC2) ?_, fun X1 hX1 => xs_Ct_mono (c_X6_isInside_ok (by decide) (rf_afr hR hX1.1) (rf_lcfr hC hX1.1) x hc hC1 h0 hC2) ?_⟩
    · rintro r X' ⟨v1, rfl, h1, h2⟩
      exact ⟨v1, rfl, h1, h2⟩
    · rintro r X2 ⟨v1, rfl, h1, h2, h3, h4⟩
      refine ⟨v1, rfl, h4, ⟨w, h, num, mk, hW, dv_afr (dv_afr hA hX1.1) h2, dv_lcfr hX1.2.1 h2, rf_afr (rf_afr hR hX1.1) h2, h3⟩, fun _ => ?_⟩
      rw [xs_fb h2 39, hX1.2.2, h1, lw_f_b]
set_option maxHeartbeats 1000000 in
theorem lw_proved (hl : l.stackTraces = false) (hI : lw_go w h num mk X) (x : Int32) : lw_2 l G ad X mL_proved hL_proved [.ref (ad 0), .int x, .ref (ad 39)] mX6_proved 5 [.ref (ad 21), .int x] Int32.toInt64 := by
  obtain ⟨hW, hA, hL, hR, hC⟩ := hI
  have hz := tb_sizes hW
  by_cases hy : (tb_inB x (tb_ne w h) && decide (0 < tb_cnt2 w h num mk (-1))) = true
  · obtain ⟨hx, hv⟩ := (Bool.and_eq_true _ _).mp hy
    have hv := of_decide_eq_true hv
    rcases tb_inB_cases x (N := tb_ne w h) (by omega) with q | ⟨c, hc, rfl⟩
    · rw [q] at hx; cases hx
    refine ⟨0, fun X1 => xs_fr [20, 39] dv_FL X X1 ∧ dv_LC w h X1 ∧ X1.2.2.2 39 0 = (nI (tb_prv w h num mk c)).toInt64, xx_Cw_mono (c_L_proved_ok (Nat.le_refl _) hA hL hc hv) ?_, fun X1 hX1 => xs_Ct_mono (c_X6_proved_ok (by decide) (rf_afr hR hX1.1) (rf_lcfr hC hX1.1) hc hv) ?_⟩
    · rintro r X' ⟨v1, rfl, h1, h2⟩
      exact ⟨v1, rfl, h1, h2⟩
    · rintro r X2 ⟨v1, rfl, h1, h2, h3, h4⟩
      refine ⟨v1, rfl, h4, ⟨w, h, num, mk, hW, dv_afr (dv_afr hA hX1.1) h2, dv_lcfr hX1.2.1 h2, rf_afr (rf_afr hR hX1.1) h2, h3⟩, fun _ => ?_⟩
      rw [xs_fb h2 39, hX1.2.2, h1]
  · have hy : (tb_inB x (tb_ne w h) && decide (0 < tb_cnt2 w h num mk (-1))) = false := by
      cases q : (tb_inB x (tb_ne w h) && decide (0 < tb_cnt2 w h num mk (-1)))
      · rfl
      · exact absurd q hy
    refine ⟨(tb_thr (tb_inB x (tb_ne w h)) (decide (0 < tb_cnt2 w h num mk (-1)))), fun X1 => xs_fr dv_SL dv_FL X X1 ∧ dv_LC w h X1, xx_Cw_mono (c_L_proved_no hl (Nat.le_refl _) hA hL x hy) ?_, fun X1 hX1 => xs_Ct_mono (c_X6_proved_no (by decide) (rf_afr hR hX1.1) (rf_lcfr hC hX1.1) x hy) ?_⟩
    · rintro r X' ⟨v1, rfl, h1, h2⟩
      exact ⟨v1, rfl, h1, h2⟩
    · rintro r X2 ⟨v1, rfl, -, h2, h3, h4⟩
      exact ⟨v1, rfl, h4, ⟨w, h, num, mk, hW, dv_afr (dv_afr hA hX1.1) h2, dv_lcfr hX1.2 h2, rf_afr (rf_afr hR hX1.1) h2, h3⟩, fun e => absurd e (tb_thr_ne hy)⟩
set_option maxHeartbeats 1000000 in
theorem lw_beyondRules (hl : l.stackTraces = false) (hI : lw_go w h num mk X) : lw_2 l G ad X mL_beyondRules hL_beyondRules [.ref (ad 0), .ref (ad 39)] mX6_beyondRules 7 [.ref (ad 21)] Int32.toInt64 := by
  obtain ⟨hW, hA, hL, hR, hC⟩ := hI
  have hz := tb_sizes hW
  by_cases h0 : tb_cnt2 w h num mk (-1) = 0
  · skip
    refine ⟨1, fun X1 => xs_fr dv_SL dv_FL X X1 ∧ dv_LC w h X1, xx_Cw_mono (c_L_beyondRules_no hl (Nat.le_refl _) hA hL h0) ?_, fun X1 hX1 => xs_Ct_mono (c_X6_beyondRules_no (by decide) (rf_afr hR hX1.1) (rf_lcfr hC hX1.1) h0) ?_⟩
    · rintro r X' ⟨v1, rfl, h1, h2⟩
      exact ⟨v1, rfl, h1, h2⟩
    · rintro r X2 ⟨v1, rfl, -, h2, h3, h4⟩
      exact ⟨v1, rfl, h4, ⟨w, h, num, mk, hW, dv_afr (dv_afr hA hX1.1) h2, dv_lcfr hX1.2 h2, rf_afr (rf_afr hR hX1.1) h2, h3⟩, fun e => absurd e (by decide)⟩
  · have h0 : 0 < tb_cnt2 w h num mk (-1) := Nat.pos_of_ne_zero h0
    refine ⟨0, fun X1 => xs_fr (39 :: 20 :: dv_SC) ((19, 2) :: (19, 3) :: dv_FC) X X1 ∧ dv_LC w h X1 ∧ X1.2.2.2 39 0 = (nI (tb_bey w h num mk)).toInt64, xx_Cw_mono (c_L_beyondRules_ok (Nat.le_refl _) hA hL h0) ?_, fun X1 hX1 => xs_Ct_mono (c_X6_beyondRules_ok (by decide) (rf_afr hR hX1.1) (rf_lcfr hC hX1.1) h0) ?_⟩
    · rintro r X' ⟨v1, rfl, h1, h2⟩
      exact ⟨v1, rfl, h1, h2⟩
    · rintro r X2 ⟨v1, rfl, h1, h2, h3, h4⟩
      refine ⟨v1, rfl, h4, ⟨w, h, num, mk, hW, dv_afr (dv_afr hA hX1.1) h2, dv_lcfr hX1.2.1 h2, rf_afr (rf_afr hR hX1.1) h2, h3⟩, fun _ => ?_⟩
      rw [xs_fb h2 39, hX1.2.2, h1]
set_option maxHeartbeats 1000000 in
theorem lw_isNeeded (hl : l.stackTraces = false) (hI : lw_go w h num mk X) (x : Int32) : lw_2 l G ad X mL_isNeeded hL_isNeeded [.ref (ad 0), .int x, .ref (ad 39)] mX6_isNeeded 5 [.ref (ad 21), .int x] lw_f := by
  obtain ⟨hW, hA, hL, hR, hC⟩ := hI
  have hz := tb_sizes hW
  rcases tb_inB_cases x (N := tb_nc w h) (by omega) with hx | ⟨c, hc, rfl⟩
  · refine ⟨1, fun X1 => X1 = X, xx_Cw_mono (c_L_isNeeded_no hl (Nat.le_refl _) hA.1 x hx) ?_, fun X1 hX1 => ?_⟩
    · rintro r X' ⟨v1, rfl, h1, h2⟩
      exact ⟨v1, rfl, h1, h2⟩
    · rw [hX1]
      refine xs_Ct_mono (c_X6_isNeeded_no (by decide) hR hC x hx) ?_
      rintro r X2 ⟨v1, rfl, -, h2, h3, h4⟩
      exact ⟨v1, rfl, h4, ⟨w, h, num, mk, hW, dv_afr hA h2, dv_lcfr hL h2, rf_afr hR h2, h3⟩, fun e => absurd e (by decide)⟩
  · skip
    refine ⟨0, fun X1 => xs_fr [20, 39] dv_FL X X1 ∧ dv_LC w h X1 ∧ X1.2.2.2 39 0 = tb_l (!(num c == -1) && decide (tb_cnt2 w h num mk (-1) < tb_cnt2 w h num mk (nI c))), xx_Cw_mono (c_L_isNeeded_ok (Nat.le_refl _) hA hL hc) ?_, fun X1 hX1 => xs_Ct_mono (c_X6_isNeeded_ok (by decide) (rf_afr hR hX1.1) (rf_lcfr hC hX1.1) hc) ?_⟩
    · rintro r X' ⟨v1, rfl, h1, h2⟩
      exact ⟨v1, rfl, h1, h2⟩
    · rintro r X2 ⟨v1, rfl, h1, h2, h3, h4⟩
      refine ⟨v1, rfl, h4, ⟨w, h, num, mk, hW, dv_afr (dv_afr hA hX1.1) h2, dv_lcfr hX1.2.1 h2, rf_afr (rf_afr hR hX1.1) h2, h3⟩, fun _ => ?_⟩
      rw [xs_fb h2 39, hX1.2.2, h1, lw_f_b]
set_option maxHeartbeats 1000000 in
theorem lw_lay (hl : l.stackTraces = false) (hI : lw_go w h num mk X) (x y : Int32) : lw_2v l G ad X mL_lay hL_lay [.ref (ad 0), .int x, .int y] mX6_lay 3 [.ref (ad 21), .int x, .int y] := by
  obtain ⟨hW, hA, hL, hR, hC⟩ := hI
  by_cases hy : (tb_w4 x && tb_w4 y) = true
  · obtain ⟨hx, hv⟩ := (Bool.and_eq_true _ _).mp hy
    obtain ⟨w', q1, q2, rfl⟩ := tb_w4_nI hx
    obtain ⟨h', q3, q4, rfl⟩ := tb_w4_nI hv
    have hW' : tb_W w' h' := ⟨q1, q2, q3, q4⟩
    refine ⟨0, fun X1 => xs_fr dv_SY dv_FY X X1 ∧ dv_A w' h' (fun _ => -1) (fun _ => 0) X1 ∧ dv_LC w' h' X1, xx_Cw_mono (c_L_lay_ok (Nat.le_refl _) hW') ?_, fun X1 hX1 => xs_Ct_mono (c_X6_lay_ok (by decide) hW') ?_⟩
    · rintro r X' ⟨v1, rfl, h1, h2⟩
      exact ⟨v1, rfl, h1, h2⟩
    · rintro r X2 ⟨rfl, h2, h3, h4⟩
      exact ⟨rfl, h4, ⟨w', h', _, _, hW', dv_afr hX1.2.1 h2, dv_lcfr hX1.2.2 h2, h3, rf_lcfr (rf_lcfr hC hX1.1) h2⟩⟩
  · have hy : (tb_w4 x && tb_w4 y) = false := by simpa using hy
    refine ⟨1, fun X1 => X1 = X, xx_Cw_mono (c_L_lay_no hl (Nat.le_refl _) x y hy) ?_, fun X1 hX1 => ?_⟩
    · rintro r X' ⟨v1, rfl, h1, h2⟩
      exact ⟨v1, rfl, h1, h2⟩
    · rw [hX1]
      refine xs_Ct_mono (c_X6_lay_no (by decide) x y hy) ?_
      rintro r X2 ⟨rfl, h2, h4⟩
      exact ⟨rfl, h4, ⟨w, h, num, mk, hW, dv_afr hA h2, dv_lcfr hL h2, rf_afr hR h2, rf_lcfr hC h2⟩⟩
set_option maxHeartbeats 1000000 in
theorem lw_cells (hI : lw_go w h num mk X) : lw_1 l G ad X mX5_cells 1 mX6_cells 1 := by
  obtain ⟨hW, hA, hL, hR, hC⟩ := hI
  refine ⟨(nI (tb_nc w h)), fun X1 => lw_go w h num mk X1, xs_Ct_mono (c_X5_cells (by decide) hA.1) ?_, fun X1 hX1 => ?_⟩
  · rintro r X' ⟨rfl, rfl⟩
    exact ⟨_, rfl, rfl, hW, hA, hL, hR, hC⟩
  · obtain ⟨-, hA, hL, hR, hC⟩ := hX1
    refine xs_Ct_mono (c_X6_cells (by decide) hR.1) ?_
    rintro r X2 ⟨rfl, rfl⟩
    have hf : xs_fr [] [(21, 26)] X1 (xs_si X1 21 26 0) := xs_fr_si xs_fr_rf (by decide)
    exact ⟨_, rfl, rfl, ⟨w, h, num, mk, hW, dv_afr hA hf, dv_lcfr hL hf, rf_afr hR hf, rf_lcfr hC hf⟩⟩
set_option maxHeartbeats 1000000 in
theorem lw_edges (hI : lw_go w h num mk X) : lw_1 l G ad X mX5_edges 1 mX6_edges 1 := by
  obtain ⟨hW, hA, hL, hR, hC⟩ := hI
  refine ⟨(nI (tb_ne w h)), fun X1 => lw_go w h num mk X1, xs_Ct_mono (c_X5_edges (by decide) hA.1) ?_, fun X1 hX1 => ?_⟩
  · rintro r X' ⟨rfl, rfl⟩
    exact ⟨_, rfl, rfl, hW, hA, hL, hR, hC⟩
  · obtain ⟨-, hA, hL, hR, hC⟩ := hX1
    refine xs_Ct_mono (c_X6_edges (by decide) hR.1) ?_
    rintro r X2 ⟨rfl, rfl⟩
    have hf : xs_fr [] [(21, 26)] X1 (xs_si X1 21 26 0) := xs_fr_si xs_fr_rf (by decide)
    exact ⟨_, rfl, rfl, ⟨w, h, num, mk, hW, dv_afr hA hf, dv_lcfr hL hf, rf_afr hR hf, rf_lcfr hC hf⟩⟩
set_option maxHeartbeats 1000000 in
theorem lw_lines (hI : lw_go w h num mk X) : lw_1 l G ad X mX5_lines 2 mX6_lines 6 := by
  obtain ⟨hW, hA, hL, hR, hC⟩ := hI
  refine ⟨(nI (tb_cnt w h mk 1)), fun X1 => lw_go w h num mk X1, xs_Ct_mono (c_X5_lines (by decide) hA) ?_, fun X1 hX1 => ?_⟩
  · rintro r X' ⟨rfl, rfl⟩
    exact ⟨_, rfl, rfl, hW, hA, hL, hR, hC⟩
  · obtain ⟨-, hA, hL, hR, hC⟩ := hX1
    refine xs_Ct_mono (c_X6_lines (by decide) hR) ?_
    rintro r X2 ⟨v1, rfl, h1, h2, -⟩
    exact ⟨v1, rfl, h1, ⟨w, h, num, mk, hW, dv_afr hA h2, dv_lcfr hL h2, rf_afr hR h2, rf_lcfr hC h2⟩⟩
set_option maxHeartbeats 1000000 in
theorem lw_ways (hI : lw_go w h num mk X) : lw_1 l G ad X mX5_ways 2 mX6_ways 6 := by
  obtain ⟨hW, hA, hL, hR, hC⟩ := hI
  refine ⟨(nI (tb_ways w h mk)), fun X1 => lw_go w h num mk X1, xs_Ct_mono (c_X5_ways (by decide) hA) ?_, fun X1 hX1 => ?_⟩
  · rintro r X' ⟨rfl, rfl⟩
    exact ⟨_, rfl, rfl, hW, hA, hL, hR, hC⟩
  · obtain ⟨-, hA, hL, hR, hC⟩ := hX1
    refine xs_Ct_mono (c_X6_ways (by decide) hR) ?_
    rintro r X2 ⟨v1, rfl, h1, h2, -⟩
    exact ⟨v1, rfl, h1, ⟨w, h, num, mk, hW, dv_afr hA h2, dv_lcfr hL h2, rf_afr hR h2, rf_lcfr hC h2⟩⟩
set_option maxHeartbeats 1000000 in
theorem lw_broken (hI : lw_go w h num mk X) : lw_1 l G ad X mX5_broken 5 mX6_broken 6 := by
  obtain ⟨hW, hA, hL, hR, hC⟩ := hI
  refine ⟨(nI (tb_broken w h num mk)), fun X1 => lw_go w h num mk X1, xs_Ct_mono (c_X5_broken (by decide) hA) ?_, fun X1 hX1 => ?_⟩
  · rintro r X' ⟨v1, rfl, h1, h2⟩
    exact ⟨v1, rfl, h1, hW, dv_afr hA h2, dv_lcfr hL h2, rf_afr hR h2, rf_lcfr hC h2⟩
  · obtain ⟨-, hA, hL, hR, hC⟩ := hX1
    refine xs_Ct_mono (c_X6_broken (by decide) hR) ?_
    rintro r X2 ⟨v1, rfl, h1, h2, -⟩
    exact ⟨v1, rfl, h1, ⟨w, h, num, mk, hW, dv_afr hA h2, dv_lcfr hL h2, rf_afr hR h2, rf_lcfr hC h2⟩⟩
set_option maxHeartbeats 1000000 in
theorem lw_isAnswer (hI : lw_go w h num mk X) : lw_1 l G ad X mX5_isAnswer 3 mX6_isAnswer 6 := by
  obtain ⟨hW, hA, hL, hR, hC⟩ := hI
  refine ⟨(tb_b (tb_isLoop w h mk && tb_right w h num mk)), fun X1 => lw_go w h num mk X1, xs_Ct_mono (c_X5_isAnswer (by decide) hA) ?_, fun X1 hX1 => ?_⟩
  · rintro r X' ⟨rfl, rfl⟩
    exact ⟨_, rfl, rfl, hW, hA, hL, hR, hC⟩
  · obtain ⟨-, hA, hL, hR, hC⟩ := hX1
    refine xs_Ct_mono (c_X6_isAnswer (by decide) hR) ?_
    rintro r X2 ⟨v1, rfl, h1, h2, -⟩
    exact ⟨v1, rfl, h1, ⟨w, h, num, mk, hW, dv_afr hA h2, dv_lcfr hL h2, rf_afr hR h2, rf_lcfr hC h2⟩⟩
set_option maxHeartbeats 1000000 in
theorem lw_rounds (hI : lw_go w h num mk X) : lw_1 l G ad X mX5_rounds 7 mX6_rounds 7 := by
  obtain ⟨hW, hA, hL, hR, hC⟩ := hI
  refine ⟨(nI (tb_follow w h num mk).2.2.2.1), fun X1 => lw_go w h num mk X1, xs_Ct_mono (c_X5_rounds (by decide) hA) ?_, fun X1 hX1 => ?_⟩
  · rintro r X' ⟨v1, rfl, h1, h2⟩
    exact ⟨v1, rfl, h1, hW, dv_afr hA h2, dv_lcfr hL h2, rf_afr hR h2, rf_lcfr hC h2⟩
  · obtain ⟨-, hA, hL, hR, hC⟩ := hX1
    refine xs_Ct_mono (c_X6_rounds (by decide) hR) ?_
    rintro r X2 ⟨v1, rfl, h1, h2, -⟩
    exact ⟨v1, rfl, h1, ⟨w, h, num, mk, hW, dv_afr hA h2, dv_lcfr hL h2, rf_afr hR h2, rf_lcfr hC h2⟩⟩
set_option maxHeartbeats 1000000 in
theorem lw_end (hI : lw_go w h num mk X) : lw_1 l G ad X mX5_end 7 mX6_end 7 := by
  obtain ⟨hW, hA, hL, hR, hC⟩ := hI
  refine ⟨(nI (tb_follow w h num mk).2.2.2.2), fun X1 => lw_go w h num mk X1, xs_Ct_mono (c_X5_end (by decide) hA) ?_, fun X1 hX1 => ?_⟩
  · rintro r X' ⟨v1, rfl, h1, h2⟩
    exact ⟨v1, rfl, h1, hW, dv_afr hA h2, dv_lcfr hL h2, rf_afr hR h2, rf_lcfr hC h2⟩
  · obtain ⟨-, hA, hL, hR, hC⟩ := hX1
    refine xs_Ct_mono (c_X6_end (by decide) hR) ?_
    rintro r X2 ⟨v1, rfl, h1, h2, -⟩
    exact ⟨v1, rfl, h1, ⟨w, h, num, mk, hW, dv_afr hA h2, dv_lcfr hL h2, rf_afr hR h2, rf_lcfr hC h2⟩⟩
set_option maxHeartbeats 1000000 in
theorem lw_hint (hI : lw_go w h num mk X) : lw_1 l G ad X mX5_hint 5 mX6_hint 6 := by
  obtain ⟨hW, hA, hL, hR, hC⟩ := hI
  refine ⟨(tb_hint w h num mk), fun X1 => lw_go w h num mk X1, xs_Ct_mono (c_X5_hint (by decide) hA) ?_, fun X1 hX1 => ?_⟩
  · rintro r X' ⟨v1, rfl, h1, h2⟩
    exact ⟨v1, rfl, h1, hW, dv_afr hA h2, dv_lcfr hL h2, rf_afr hR h2, rf_lcfr hC h2⟩
  · obtain ⟨-, hA, hL, hR, hC⟩ := hX1
    refine xs_Ct_mono (c_X6_hint (by decide) hR) ?_
    rintro r X2 ⟨v1, rfl, h1, h2, -⟩
    exact ⟨v1, rfl, h1, ⟨w, h, num, mk, hW, dv_afr hA h2, dv_lcfr hL h2, rf_afr hR h2, rf_lcfr hC h2⟩⟩
set_option maxHeartbeats 1000000 in
theorem lw_answers (hI : lw_go w h num mk X) : lw_1 l G ad X mX5_answers 22 mX6_answers 5 := by
  obtain ⟨hW, hA, hL, hR, hC⟩ := hI
  refine ⟨nI (tb_cnt2 w h num mk (-1)), fun X1 => lw_go w h num mk X1, xs_Ct_mono (c_X5_answers (by decide) hA hL) ?_, fun X1 hX1 => ?_⟩
  · rintro r X' ⟨v1, rfl, h1, h2, h3⟩
    exact ⟨v1, rfl, h1, hW, dv_afr hA h2, h3, rf_afr hR h2, rf_lcfr hC h2⟩
  · obtain ⟨-, hA, hL, hR, hC⟩ := hX1
    refine xs_Ct_mono (c_X6_answers (by decide) hR hC) ?_
    rintro r X2 ⟨v1, rfl, h1, h2, h3, -⟩
    exact ⟨v1, rfl, h1, ⟨w, h, num, mk, hW, dv_afr hA h2, dv_lcfr hL h2, rf_afr hR h2, h3⟩⟩
set_option maxHeartbeats 1000000 in
theorem lw_markAll (hI : lw_go w h num mk X) : lw_1 l G ad X mX5_markAll 7 mX6_markAll 7 := by
  obtain ⟨hW, hA, hL, hR, hC⟩ := hI
  refine ⟨if (tb_follow w h num mk).2.2.2.2 = 0 then nI (tb_became w h mk (tb_follow w h num mk).1) else 0, fun X1 => xs_fr dv_SC ((0, 4) :: (0, 5) :: dv_FC) X X1 ∧ dv_A w h num (if (tb_follow w h num mk).2.2.2.2 = 0 then (tb_follow w h num mk).1 else mk) X1, xs_Ct_mono (c_X5_markAll (by decide) hA) ?_, fun X1 hX1 => xs_Ct_mono (c_X6_markAll (by decide) (rf_afr hR hX1.1)) ?_⟩
  · rintro r X' ⟨v1, rfl, h1, h2⟩
    exact ⟨v1, rfl, h1, h2⟩
  · rintro r X2 ⟨v1, rfl, h1, h2, -, h3⟩
    exact ⟨v1, rfl, h1, ⟨w, h, num, _, hW, dv_afr hX1.2 h2, dv_lcfr (dv_lcfr hL hX1.1) h2, ⟨rf_fr (rf_fr hR.1 hX1.1) h2, h3, rf_nfr (rf_nfr hR.2.2 hX1.1) h2⟩, rf_lcfr (rf_lcfr hC hX1.1) h2⟩⟩
set_option maxHeartbeats 1000000 in
theorem lw_wipe (hI : lw_go w h num mk X) : ∃ Z : xs_T → Prop, xs_Ct l G mX5_wipe 2 [.ref (ad 0)] 40 ad X (xs_pv Z) ∧ ∀ X1, Z X1 → xs_Ct l G mX6_wipe 1 [.ref (ad 21)] 40 ad X1 (xs_pv lw_st) := by
  obtain ⟨hW, hA, hL, hR, hC⟩ := hI
  refine ⟨_, c_X5_wipe (by decide), fun X1 hX1 => xs_Ct_mono (c_X6_wipe (by decide) (rf_fr hR.1 hX1.1)) ?_⟩
  rintro r X2 ⟨rfl, h2, h3⟩
  have hA1 : dv_A w h num (fun _ => 0) X1 := ⟨dv_fr hA.1 hX1.1, dv_nfr hA.2.1 hX1.1, ⟨hX1.2.1.trans (by rw [dv_S_none w h (by decide)]), hX1.2.2.trans (by rw [dv_S_none w h (by decide)])⟩, fun _ _ => Nat.zero_le 2⟩
  exact ⟨rfl, ⟨w, h, num, fun _ => 0, hW, dv_afr hA1 h2, dv_lcfr (dv_lcfr hL hX1.1) h2, ⟨rf_fr (rf_fr hR.1 hX1.1) h2, fun e he => ⟨h3 e he, Nat.zero_le 2⟩, rf_nfr (rf_nfr hR.2.2 hX1.1) h2⟩, rf_lcfr (rf_lcfr hC hX1.1) h2⟩⟩
end LO
