/-! what the law's rules want is what the specs' rules want -/
def lr_o (f : Nat → Nat) : Nat := 0 ||| f 7 ||| f 6 ||| f 5 ||| f 4 ||| f 3 ||| f 2 ||| f 1
def lr_m (f : Nat → Nat) : Nat := if 0 < f 1 then 1 else if 0 < f 2 then 2 else if 0 < f 3 then 3 else if 0 < f 4 then 4 else if 0 < f 5 then 5 else if 0 < f 6 then 6 else if 0 < f 7 then 7 else 0
def lr_R (x : Nat × Nat) (f : Nat → Nat) : Prop := x.1 = lr_o f ∧ x.2 = lr_m f
def lr_add (f : Nat → Nat) (b v : Nat) : Nat → Nat := fun k => if k = b then f k ||| v else f k
theorem lr_orpos {a b : Nat} (h : 0 < b) : 0 < a ||| b := Nat.lt_of_lt_of_le h Nat.right_le_or
theorem lr_o_add {f : Nat → Nat} {b v : Nat} (h1 : 1 ≤ b) (h7 : b ≤ 7) : lr_o (lr_add f b v) = lr_o f ||| v := by
  have c : b = 1 ∨ b = 2 ∨ b = 3 ∨ b = 4 ∨ b = 5 ∨ b = 6 ∨ b = 7 := by omega
  rcases c with rfl | rfl | rfl | rfl | rfl | rfl | rfl
  all_goals (unfold lr_o lr_add; simp only [reduceIte, Nat.reduceEqDiff]; ac_rfl)
theorem lr_m_add {f : Nat → Nat} {b v : Nat} (h1 : 1 ≤ b) (h7 : b ≤ 7) (hv : 0 < v) : lr_m (lr_add f b v) = if lr_m f = 0 ∨ b < lr_m f then b else lr_m f := by
  have c : b = 1 ∨ b = 2 ∨ b = 3 ∨ b = 4 ∨ b = 5 ∨ b = 6 ∨ b = 7 := by omega
  have hp := lr_orpos (a := f b) hv
  rcases c with rfl | rfl | rfl | rfl | rfl | rfl | rfl
  all_goals
    unfold lr_m lr_add
    simp only [reduceIte, Nat.reduceEqDiff]
    generalize f 1 = a1 at *
    generalize f 2 = a2 at *
    generalize f 3 = a3 at *
    generalize f 4 = a4 at *
    generalize f 5 = a5 at *
    generalize f 6 = a6 at *
    generalize f 7 = a7 at *
    rw [if_pos hp]
    by_cases q1 : 0 < a1 <;> by_cases q2 : 0 < a2 <;> by_cases q3 : 0 < a3 <;> by_cases q4 : 0 < a4 <;> by_cases q5 : 0 < a5 <;> by_cases q6 : 0 < a6 <;> by_cases q7 : 0 < a7 <;> simp [q1, q2, q3, q4, q5, q6, q7]
theorem lr_R_add {x : Nat × Nat} {f : Nat → Nat} {b v : Nat} (h1 : 1 ≤ b) (h7 : b ≤ 7) (hv : 0 < v) (hR : lr_R x f) : lr_R (tb_w1 x v b) (lr_add f b v) := by
  refine ⟨?_, ?_⟩
  · rw [lr_o_add h1 h7, ← hR.1]; rfl
  · rw [lr_m_add h1 h7 hv, ← hR.2]; rfl
theorem lr_add_0 {f : Nat → Nat} {b : Nat} : lr_add f b 0 = f := by
  funext k
  unfold lr_add
  split
  · rw [Nat.or_zero]
  · rfl
theorem lr_R_if {x : Nat × Nat} {f : Nat → Nat} {b v : Nat} {C : Prop} [Decidable C] (h1 : 1 ≤ b) (h7 : b ≤ 7) (hv : 0 < v) (hR : lr_R x f) : lr_R (if C then tb_w1 x v b else x) (lr_add f b (if C then v else 0)) := by
  by_cases c : C
  · rw [if_pos c, if_pos c]; exact lr_R_add h1 h7 hv hR
  · rw [if_neg c, if_neg c, lr_add_0]; exact hR
theorem lr_nI_nn {a : Nat} (ha : a < 2 ^ 31) : ¬ nI a < 0 := nI_pos ha
/-- the two ends of an edge in a row of cells or points, those told so far -/
def lr_two (g : Nat → Nat) (a b c : Nat) : Nat := (if a < c then g a else 0) ||| (if b < c then g b else 0)
theorem lr_two_in {g : Nat → Nat} {a b c : Nat} (h : a = c ∨ b = c) : lr_two g a b (c + 1) = lr_two g a b c ||| g c := by
  unfold lr_two
  by_cases h1 : a = c
  · subst h1
    by_cases h2 : b = a
    · subst h2
      simp
    · by_cases h3 : b < a
      · simp [h3, Nat.lt_succ_of_lt h3]; ac_rfl
      · have : ¬ b < a + 1 := by omega
        simp [h3, this]
  · have h2 := h.resolve_left h1
    subst h2
    by_cases h3 : a < b
    · simp [h3, Nat.lt_succ_of_lt h3]
    · have : ¬ a < b + 1 := by omega
      simp [h3, this]
theorem lr_two_out {g : Nat → Nat} {a b c : Nat} (h : ¬ (a = c ∨ b = c)) : lr_two g a b (c + 1) = lr_two g a b c := by
  unfold lr_two
  have h1 : a < c + 1 ↔ a < c := by omega
  have h2 : b < c + 1 ↔ b < c := by omega
  simp only [h1, h2]
theorem lr_sides {w h : Nat} (k : lr_k w h) {c e : Nat} (hc : c < tb_nc w h) (he : e < tb_ne w h) : (∃ s, s < 4 ∧ e = tb_sid w h c s) ↔ (tb_are w h e = c ∨ tb_bes w h e = c) := by
  have h4 := dv_four (lr_W k) c hc e he
  unfold dv_inA at h4
  constructor
  · rintro ⟨s, hs, rfl⟩
    have : s = 0 ∨ s = 1 ∨ s = 2 ∨ s = 3 := by omega
    have h5 : (tb_are w h (tb_sid w h c s) == c || tb_bes w h (tb_sid w h c s) == c) = true := by
      rw [h4]
      rcases this with rfl | rfl | rfl | rfl <;> simp
    rw [Bool.or_eq_true, beq_iff_eq, beq_iff_eq] at h5
    exact h5
  · intro q
    have h5 : (tb_are w h e == c || tb_bes w h e == c) = true := by
      rw [Bool.or_eq_true, beq_iff_eq, beq_iff_eq]; exact q
    rw [h4, Bool.or_eq_true, Bool.or_eq_true, Bool.or_eq_true, beq_iff_eq, beq_iff_eq, beq_iff_eq, beq_iff_eq] at h5
    rcases h5 with (z | z) | (z | z)
    · exact ⟨0, by decide, z⟩
    · exact ⟨1, by decide, z⟩
    · exact ⟨2, by decide, z⟩
    · exact ⟨3, by decide, z⟩
theorem lr_A_pr {w h : Nat} (k : lr_k w h) {st : Nat → Nat} {W : tb_Wt} {c how b e : Nat} (hc : c < tb_nc w h) (he : e < tb_ne w h) (h0 : st e = 0) : tb_pr (tb_wantA w h st W c how b 4) e = if tb_are w h e = c ∨ tb_bes w h e = c then tb_w1 (tb_pr W e) how b else tb_pr W e := by
  rcases tb_wantA_pr w h st W c how b e 4 with ⟨z1, z2⟩ | ⟨z1, -, z3⟩
  · rw [z1, if_neg]
    intro q
    obtain ⟨s, hs, hse⟩ := (lr_sides k hc he).mpr q
    exact z2 s hs ⟨h0, hse⟩
  · rw [z1, if_pos ((lr_sides k hc he).mp z3)]
def lr_fC (w h : Nat) (num : Nat → Int32) (st : Nat → Nat) (e c : Nat) : Nat → Nat := fun k => if k = 1 ∨ k = 2 then lr_two (lr_w1 w h num st k) (tb_are w h e) (tb_bes w h e) c else 0
theorem lr_relC {w h : Nat} (k : lr_k w h) {num : Nat → Int32} {st : Nat → Nat} {e : Nat} (he : e < tb_ne w h) (h0 : st e = 0) : ∀ c, c ≤ tb_nc w h → lr_R (tb_pr (tb_askC w h num st c) e) (lr_fC w h num st e c)
  | 0, _ => by
    have : lr_fC w h num st e 0 = fun _ => 0 := by
      funext j
      unfold lr_fC lr_two
      simp
    rw [this]
    exact ⟨rfl, rfl⟩
  | c + 1, hc => by
    have hcc : c < tb_nc w h := by omega
    have ih := lr_relC k (num := num) he h0 c (by omega)
    have hz := lr_sz k
    have ha1 : tb_ar w h st c 1 ≤ 4 := fb_ct_le _ _
    have ha0 : tb_ar w h st c 0 ≤ 4 := fb_ct_le _ _
    have v1 : lr_w1 w h num st 1 c = if num c = nI (tb_ar w h st c 1) then 2 else 0 := by
      unfold lr_w1
      by_cases q : num c = nI (tb_ar w h st c 1)
      · rw [if_pos ⟨hcc, by rw [q]; exact lr_nI_nn (by omega)⟩, if_pos rfl, if_pos q.symm, if_pos q]
      · rw [if_neg q]
        split
        · rw [if_pos rfl, if_neg (fun z => q z.symm)]
        · rfl
    have v2 : lr_w1 w h num st 2 c = if num c = nI (tb_ar w h st c 1 + tb_ar w h st c 0) then 1 else 0 := by
      unfold lr_w1
      by_cases q : num c = nI (tb_ar w h st c 1 + tb_ar w h st c 0)
      · rw [if_pos ⟨hcc, by rw [q]; exact lr_nI_nn (by omega)⟩, if_neg (by decide), if_pos q.symm, if_pos q]
      · rw [if_neg q]
        split
        · rw [if_neg (by decide), if_neg (fun z => q z.symm)]
        · rfl
    have e1 : tb_pr (tb_askC w h num st (c + 1)) e = if tb_are w h e = c ∨ tb_bes w h e = c then (if num c = nI (tb_ar w h st c 1 + tb_ar w h st c 0) then tb_w1 (if num c = nI (tb_ar w h st c 1) then tb_w1 (tb_pr (tb_askC w h num st c) e) 2 1 else tb_pr (tb_askC w h num st c) e) 1 2 else (if num c = nI (tb_ar w h st c 1) then tb_w1 (tb_pr (tb_askC w h num st c) e) 2 1 else tb_pr (tb_askC w h num st c) e)) else tb_pr (tb_askC w h num st c) e := by
      have a1 : ∀ W, tb_pr (if num c = nI (tb_ar w h st c 1) then tb_wantA w h st W c 2 1 4 else W) e = if tb_are w h e = c ∨ tb_bes w h e = c then (if num c = nI (tb_ar w h st c 1) then tb_w1 (tb_pr W e) 2 1 else tb_pr W e) else tb_pr W e := by
        intro W
        by_cases q1 : num c = nI (tb_ar w h st c 1)
        · rw [if_pos q1, if_pos q1, lr_A_pr k hcc he h0]
        · rw [if_neg q1, if_neg q1]; split <;> rfl
      have a2 : ∀ W, tb_pr (if num c = nI (tb_ar w h st c 1 + tb_ar w h st c 0) then tb_wantA w h st W c 1 2 4 else W) e = if tb_are w h e = c ∨ tb_bes w h e = c then (if num c = nI (tb_ar w h st c 1 + tb_ar w h st c 0) then tb_w1 (tb_pr W e) 1 2 else tb_pr W e) else tb_pr W e := by
        intro W
        by_cases q1 : num c = nI (tb_ar w h st c 1 + tb_ar w h st c 0)
        · rw [if_pos q1, if_pos q1, lr_A_pr k hcc he h0]
        · rw [if_neg q1, if_neg q1]; split <;> rfl
      rw [tb_askC]
      show tb_pr (if num c = nI (tb_ar w h st c 1 + tb_ar w h st c 0) then tb_wantA w h st (if num c = nI (tb_ar w h st c 1) then tb_wantA w h st (tb_askC w h num st c) c 2 1 4 else tb_askC w h num st c) c 1 2 4 else (if num c = nI (tb_ar w h st c 1) then tb_wantA w h st (tb_askC w h num st c) c 2 1 4 else tb_askC w h num st c)) e = _
      rw [a2, a1]
      by_cases q3 : tb_are w h e = c ∨ tb_bes w h e = c
      · rw [if_pos q3, if_pos q3, if_pos q3]
      · rw [if_neg q3, if_neg q3, if_neg q3]
    rw [e1]
    by_cases q : tb_are w h e = c ∨ tb_bes w h e = c
    · rw [if_pos q]
      have r1 := lr_R_if (C := num c = nI (tb_ar w h st c 1)) (b := 1) (v := 2) (by decide) (by decide) (by decide) ih
      have r2 := lr_R_if (C := num c = nI (tb_ar w h st c 1 + tb_ar w h st c 0)) (b := 2) (v := 1) (by decide) (by decide) (by decide) r1
      have e2 : lr_add (lr_add (lr_fC w h num st e c) 1 (if num c = nI (tb_ar w h st c 1) then 2 else 0)) 2 (if num c = nI (tb_ar w h st c 1 + tb_ar w h st c 0) then 1 else 0) = lr_fC w h num st e (c + 1) := by
        rw [← v1, ← v2]
        funext j
        unfold lr_add lr_fC
        by_cases j1 : j = 1
        · subst j1
          simp [lr_two_in q]
        · by_cases j2 : j = 2
          · subst j2
            simp [lr_two_in q]
          · simp [j1, j2]
      rw [← e2]
      exact r2
    · rw [if_neg q]
      have e2 : lr_fC w h num st e (c + 1) = lr_fC w h num st e c := by
        funext j
        unfold lr_fC
        rw [lr_two_out q]
      rw [e2]
      exact ih
def lr_fP (w h : Nat) (num : Nat → Int32) (st : Nat → Nat) (e p : Nat) : Nat → Nat := fun k => if k = 3 ∨ k = 4 ∨ k = 5 then lr_two (lr_w2 w h st k) (tb_one w h e) (tb_oth w h e) p else lr_fC w h num st e (tb_nc w h) k
theorem lr_P_pr {w h : Nat} {st : Nat → Nat} {W : tb_Wt} {p how b e : Nat} (he : e < tb_ne w h) (h0 : st e = 0) : tb_pr (tb_wantP w h st W p how b (tb_ne w h)) e = if tb_one w h e = p ∨ tb_oth w h e = p then tb_w1 (tb_pr W e) how b else tb_pr W e := by
  rw [tb_wantP_pr]
  by_cases q : tb_one w h e = p ∨ tb_oth w h e = p
  · rw [if_pos q, if_pos ⟨he, dv_inc_y.mpr q, h0⟩]
  · rw [if_neg q, if_neg (fun z => q (dv_inc_y.mp z.2.1))]
theorem lr_relP {w h : Nat} (k : lr_k w h) {num : Nat → Int32} {st : Nat → Nat} {e : Nat} (he : e < tb_ne w h) (h0 : st e = 0) : ∀ p, lr_R (tb_pr (tb_askP w h num st p) e) (lr_fP w h num st e p)
  | 0 => by
    have ih := lr_relC k (num := num) he h0 (tb_nc w h) (Nat.le_refl _)
    have : lr_fP w h num st e 0 = lr_fC w h num st e (tb_nc w h) := by
      funext j
      unfold lr_fP
      by_cases q : j = 3 ∨ j = 4 ∨ j = 5
      · have z : ¬ (j = 1 ∨ j = 2) := by omega
        rw [if_pos q]
        unfold lr_two lr_fC
        rw [if_neg z]
        simp
      · rw [if_neg q]
    rw [this]
    exact ih
  | p + 1 => by
    have ih := lr_relP k (num := num) he h0 p
    have e1 : ∀ W, tb_pr (tb_askP1 w h st W p) e = if tb_one w h e = p ∨ tb_oth w h e = p then (if tb_at w h st p 1 = 2 then tb_w1 (tb_pr W e) 2 3 else tb_pr W e) else tb_pr W e := by
      intro W
      unfold tb_askP1 tb_deg
      by_cases q1 : tb_at w h st p 1 = 2
      · rw [if_pos q1, if_pos q1, lr_P_pr he h0]
      · rw [if_neg q1, if_neg q1]; split <;> rfl
    have e2 : ∀ W, tb_pr (tb_askP2 w h st W p) e = if tb_one w h e = p ∨ tb_oth w h e = p then (if tb_at w h st p 1 = 1 ∧ tb_at w h st p 0 = 1 then tb_w1 (tb_pr W e) 1 4 else tb_pr W e) else tb_pr W e := by
      intro W
      unfold tb_askP2 tb_deg
      by_cases q1 : tb_at w h st p 1 = 1 ∧ tb_at w h st p 0 = 1
      · rw [if_pos q1, if_pos q1, lr_P_pr he h0]
      · rw [if_neg q1, if_neg q1]; split <;> rfl
    have e3 : ∀ W, tb_pr (tb_askP3 w h st W p) e = if tb_one w h e = p ∨ tb_oth w h e = p then (if tb_at w h st p 1 = 0 ∧ tb_at w h st p 0 = 1 then tb_w1 (tb_pr W e) 2 5 else tb_pr W e) else tb_pr W e := by
      intro W
      unfold tb_askP3 tb_deg
      by_cases q1 : tb_at w h st p 1 = 0 ∧ tb_at w h st p 0 = 1
      · rw [if_pos q1, if_pos q1, lr_P_pr he h0]
      · rw [if_neg q1, if_neg q1]; split <;> rfl
    rw [tb_askP, e3, e2, e1]
    by_cases q : tb_one w h e = p ∨ tb_oth w h e = p
    · rw [if_pos q, if_pos q, if_pos q]
      have r1 := lr_R_if (C := tb_at w h st p 1 = 2) (b := 3) (v := 2) (by decide) (by decide) (by decide) ih
      have r2 := lr_R_if (C := tb_at w h st p 1 = 1 ∧ tb_at w h st p 0 = 1) (b := 4) (v := 1) (by decide) (by decide) (by decide) r1
      have r3 := lr_R_if (C := tb_at w h st p 1 = 0 ∧ tb_at w h st p 0 = 1) (b := 5) (v := 2) (by decide) (by decide) (by decide) r2
      have v3 : lr_w2 w h st 3 p = if tb_at w h st p 1 = 2 then 2 else 0 := by unfold lr_w2; rw [if_pos rfl]
      have v4 : lr_w2 w h st 4 p = if tb_at w h st p 1 = 1 ∧ tb_at w h st p 0 = 1 then 1 else 0 := by unfold lr_w2; rw [if_neg (by decide), if_pos rfl]
      have v5 : lr_w2 w h st 5 p = if tb_at w h st p 1 = 0 ∧ tb_at w h st p 0 = 1 then 2 else 0 := by unfold lr_w2; rw [if_neg (by decide), if_neg (by decide)]
      rw [← v3, ← v4, ← v5] at r3
      have ef : lr_add (lr_add (lr_add (lr_fP w h num st e p) 3 (lr_w2 w h st 3 p)) 4 (lr_w2 w h st 4 p)) 5 (lr_w2 w h st 5 p) = lr_fP w h num st e (p + 1) := by
        funext j
        unfold lr_add lr_fP
        by_cases j3 : j = 3
        · subst j3
          simp [lr_two_in q]
        · by_cases j4 : j = 4
          · subst j4
            simp [lr_two_in q]
          · by_cases j5 : j = 5
            · subst j5
              simp [lr_two_in q]
            · simp [j3, j4, j5]
      rw [← ef]
      exact r3
    · rw [if_neg q, if_neg q, if_neg q]
      have ef : lr_fP w h num st e (p + 1) = lr_fP w h num st e p := by
        funext j
        unfold lr_fP
        rw [lr_two_out q]
      rw [ef]
      exact ih
theorem lr_w6_eq {w h : Nat} (k : lr_k w h) {num : Nat → Int32} (hnum : ∀ c, c < tb_nc w h → (num c < 0 ↔ num c = -1)) {st : Nat → Nat} {e : Nat} (he : e < tb_ne w h) (h0 : st e = 0) : lr_w6 w h num st e = if tb_cc6 w h num st e then 2 else 0 := by
  unfold lr_w6
  rw [lr_rc_b k (lr_ends k he).1, lr_T1 k, lr_lp_eq k, lr_rt_eq k hnum]
  show _ = if st e = 0 ∧ _ ∧ tb_closes w h num st e = false then 2 else 0
  unfold tb_closes
  by_cases q : tb_L w h (tb_isL st) (tb_one w h e) = tb_L w h (tb_isL st) (tb_oth w h e)
  · rw [if_neg (by rw [q]; simp)]
    cases z : (tb_isLoop w h (tb_set st e 1) && tb_right w h num (tb_set st e 1)) with
    | true => rw [if_pos rfl, if_neg (fun y => by cases y.2.2)]
    | false => rw [if_neg (by simp), if_pos ⟨h0, q, rfl⟩]
  · rw [if_pos (beq_eq_false_iff_ne.mpr (fun z => q z.symm)), if_neg (fun y => q y.2.1)]
theorem lr_w7_eq {w h : Nat} (k : lr_k w h) {st : Nat → Nat} (hf : tb_fine w h st = true) {e : Nat} (he : e < tb_ne w h) : lr_w7 w h st e = if tb_cc7 w h st e then tb_how7 w h st e else 0 := by
  have ha := (lr_ends k he).2.2.2.2.1
  have b0 := lr_ch_bit k hf ha (x := tb_bes w h e) (s := false)
  have b1 := lr_ch_bit k hf ha (x := tb_bes w h e) (s := true)
  have n0 : lr_nd (tb_bes w h e) false = 2 * tb_bes w h e := rfl
  have n1 : lr_nd (tb_bes w h e) true = 2 * tb_bes w h e + 1 := rfl
  rw [n0] at b0
  rw [n1] at b1
  unfold lr_w7
  show _ = if (tb_chE w h st).1 (tb_are w h e) = (tb_chE w h st).1 (tb_bes w h e) then (if (tb_chE w h st).2.1 (tb_are w h e) = (tb_chE w h st).2.1 (tb_bes w h e) then 2 else 1) else 0
  by_cases g : (tb_chE w h st).1 (tb_are w h e) = (tb_chE w h st).1 (tb_bes w h e)
  · rw [if_pos g]
    by_cases c : (tb_chE w h st).2.1 (tb_are w h e) = (tb_chE w h st).2.1 (tb_bes w h e)
    · rw [if_pos c, if_pos (b0.mpr ⟨g.symm, by rw [c]; simp⟩)]
    · rw [if_neg c, if_neg (fun z => c (by
        have := (b0.mp z).2
        cases x : (tb_chE w h st).2.1 (tb_are w h e) <;> cases y : (tb_chE w h st).2.1 (tb_bes w h e) <;> rw [x, y] at this <;> first | rfl | cases this)), if_pos (b1.mpr ⟨g.symm, ?_⟩)]
      cases x : (tb_chE w h st).2.1 (tb_are w h e) <;> cases y : (tb_chE w h st).2.1 (tb_bes w h e) <;> first | rfl | (exact absurd (x.trans y.symm) c)
  · rw [if_neg g, if_neg (fun z => g (b0.mp z).1.symm), if_neg (fun z => g (b1.mp z).1.symm)]
theorem lr_wants_eq {w h : Nat} (k : lr_k w h) {num : Nat → Int32} (hnum : ∀ c, c < tb_nc w h → (num c < 0 ↔ num c = -1)) {st : Nat → Nat} (hf : tb_fine w h st = true) {e : Nat} (he : e < tb_ne w h) (h0 : st e = 0) : (tb_asks w h num st).1 e = lr_o (lr_wa w h num st e) ∧ (tb_asks w h num st).2 e = lr_m (lr_wa w h num st e) := by
  have hq := lr_ends k he
  have r := lr_relP k (num := num) he h0 (tb_np w h)
  have r6 := lr_R_if (C := tb_cc6 w h num st e) (b := 6) (v := 2) (by decide) (by decide) (by decide) r
  have r7 := lr_R_if (C := tb_cc7 w h st e ∧ st e = 0) (b := 7) (v := tb_how7 w h st e) (by decide) (by decide) (by show 0 < (if _ then 2 else 1); split <;> decide) r6
  have e1 : tb_pr (tb_asks w h num st) e = tb_x7 w h num st e := by
    unfold tb_asks
    rw [tb_askE_pr, if_pos he]
  have e2 : tb_x7 w h num st e = if tb_cc7 w h st e ∧ st e = 0 then tb_w1 (if tb_cc6 w h num st e then tb_w1 (tb_pr (tb_askP w h num st (tb_np w h)) e) 2 6 else tb_pr (tb_askP w h num st (tb_np w h)) e) (tb_how7 w h st e) 7 else (if tb_cc6 w h num st e then tb_w1 (tb_pr (tb_askP w h num st (tb_np w h)) e) 2 6 else tb_pr (tb_askP w h num st (tb_np w h)) e) := rfl
  have ef : ∀ j, 1 ≤ j → j ≤ 7 → lr_add (lr_add (lr_fP w h num st e (tb_np w h)) 6 (if tb_cc6 w h num st e then 2 else 0)) 7 (if tb_cc7 w h st e ∧ st e = 0 then tb_how7 w h st e else 0) j = lr_wa w h num st e j := by
    intro j hj1 hj7
    have w1z : ∀ r, ¬ tb_are w h e < tb_nc w h → lr_w1 w h num st r (tb_are w h e) = 0 := fun r z => by unfold lr_w1; rw [if_neg (fun y => z y.1)]
    have w1y : ∀ r, ¬ tb_bes w h e < tb_nc w h → lr_w1 w h num st r (tb_bes w h e) = 0 := fun r z => by unfold lr_w1; rw [if_neg (fun y => z y.1)]
    have t1 : ∀ r, lr_two (lr_w1 w h num st r) (tb_are w h e) (tb_bes w h e) (tb_nc w h) = lr_w1 w h num st r (tb_are w h e) ||| lr_w1 w h num st r (tb_bes w h e) := by
      intro r
      unfold lr_two
      by_cases a : tb_are w h e < tb_nc w h <;> by_cases b : tb_bes w h e < tb_nc w h <;> simp [a, b, w1z, w1y]
    have t2 : ∀ r, lr_two (lr_w2 w h st r) (tb_one w h e) (tb_oth w h e) (tb_np w h) = lr_w2 w h st r (tb_one w h e) ||| lr_w2 w h st r (tb_oth w h e) := by
      intro r
      unfold lr_two
      rw [if_pos hq.2.2.1, if_pos hq.2.2.2.1]
    have c : j = 1 ∨ j = 2 ∨ j = 3 ∨ j = 4 ∨ j = 5 ∨ j = 6 ∨ j = 7 := by omega
    rcases c with rfl | rfl | rfl | rfl | rfl | rfl | rfl
    · unfold lr_add lr_fP lr_fC lr_wa; simp [t1]
    · unfold lr_add lr_fP lr_fC lr_wa; simp [t1]
    · unfold lr_add lr_fP lr_fC lr_wa; simp [t2]
    · unfold lr_add lr_fP lr_fC lr_wa; simp [t2]
    · unfold lr_add lr_fP lr_fC lr_wa; simp [t2]
    · rw [show lr_wa w h num st e 6 = lr_w6 w h num st e from rfl, lr_w6_eq k hnum he h0]
      unfold lr_add lr_fP lr_fC
      simp
    · rw [show lr_wa w h num st e 7 = lr_w7 w h st e from rfl, lr_w7_eq k hf he]
      unfold lr_add lr_fP lr_fC
      simp [h0]
  rw [← e2, ← e1] at r7
  constructor
  · rw [show (tb_asks w h num st).1 e = (tb_pr (tb_asks w h num st) e).1 from rfl, r7.1]
    unfold lr_o
    rw [ef 1 (by decide) (by decide), ef 2 (by decide) (by decide), ef 3 (by decide) (by decide), ef 4 (by decide) (by decide), ef 5 (by decide) (by decide), ef 6 (by decide) (by decide), ef 7 (by decide) (by decide)]
  · rw [show (tb_asks w h num st).2 e = (tb_pr (tb_asks w h num st) e).2 from rfl, r7.2]
    unfold lr_m
    rw [ef 1 (by decide) (by decide), ef 2 (by decide) (by decide), ef 3 (by decide) (by decide), ef 4 (by decide) (by decide), ef 5 (by decide) (by decide), ef 6 (by decide) (by decide), ef 7 (by decide) (by decide)]
