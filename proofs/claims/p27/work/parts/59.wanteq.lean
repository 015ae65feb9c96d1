/-! WHAT THE RULES WANT: the class's sets and the reference's rows, edge by edge -/
def tb_pr (W : tb_Wt) (e : Nat) : Nat × Nat := (W.1 e, W.2 e)
def tb_w1 (x : Nat × Nat) (how b : Nat) : Nat × Nat := (x.1 ||| how, if x.2 = 0 ∨ b < x.2 then b else x.2)
theorem tb_w1_twice (x : Nat × Nat) (how b : Nat) : tb_w1 (tb_w1 x how b) how b = tb_w1 x how b := by
  unfold tb_w1
  refine Prod.ext ?_ ?_
  · show x.1 ||| how ||| how = x.1 ||| how
    rw [Nat.or_assoc, Nat.or_self]
  · show (if (if x.2 = 0 ∨ b < x.2 then b else x.2) = 0 ∨ b < (if x.2 = 0 ∨ b < x.2 then b else x.2) then b else (if x.2 = 0 ∨ b < x.2 then b else x.2)) = (if x.2 = 0 ∨ b < x.2 then b else x.2)
    repeat' split
    all_goals omega
theorem if_lt_ne {α : Type} {a b : α} {e k : Nat} {C : Prop} [Decidable C] (q : e ≠ k) : (if e < k + 1 ∧ C then a else b) = (if e < k ∧ C then a else b) := by
  by_cases z : e < k ∧ C
  · rw [if_pos z, if_pos (c := e < k + 1 ∧ C) ⟨by omega, z.2⟩]
  · rw [if_neg z, if_neg (c := e < k + 1 ∧ C) (fun y => z ⟨by omega, y.2⟩)]
theorem if_lt_at {α : Type} {a b : α} {k : Nat} {C : Prop} [Decidable C] : (if k < k + 1 ∧ C then a else b) = (if C then a else b) := by
  by_cases z : C <;> simp [z]
theorem if_lt_irr {α : Type} {a b : α} {k : Nat} {C : Prop} [Decidable C] : (if k < k ∧ C then a else b) = b := by simp
theorem if_lt_no {α : Type} {a b : α} {e k : Nat} {C : Prop} [Decidable C] (q : ¬ C) : (if e < k ∧ C then a else b) = b := by simp [q]
theorem if_lt_yes {α : Type} {a b : α} {e k : Nat} {C : Prop} [Decidable C] (he : e < k) : (if e < k ∧ C then a else b) = (if C then a else b) := by simp [he]
theorem if_lt_zero {α : Type} {a b : α} {e : Nat} {C : Prop} [Decidable C] : (if e < 0 ∧ C then a else b) = b := by simp
theorem tb_want_pr (st : Nat → Nat) (W : tb_Wt) (j how b e : Nat) : tb_pr (tb_want st W j how b) e = if st e = 0 ∧ e = j then tb_w1 (tb_pr W e) how b else tb_pr W e := by
  unfold tb_want tb_pr
  by_cases q : e = j
  · subst q
    by_cases s : st e = 0
    · simp [s, tb_w1]
    · simp [s]
  · by_cases s : st j = 0 <;> simp [q, s]
theorem tb_wantA_pr (w h : Nat) (st : Nat → Nat) (W : tb_Wt) (c how b e : Nat) : ∀ k, (tb_pr (tb_wantA w h st W c how b k) e = tb_pr W e ∧ ∀ s, s < k → ¬ (st e = 0 ∧ e = tb_sid w h c s)) ∨ (tb_pr (tb_wantA w h st W c how b k) e = tb_w1 (tb_pr W e) how b ∧ st e = 0 ∧ ∃ s, s < k ∧ e = tb_sid w h c s)
  | 0 => Or.inl ⟨rfl, fun s hs => absurd hs (Nat.not_lt_zero s)⟩
  | k + 1 => by
    rw [tb_wantA, tb_want_pr]
    have ih := tb_wantA_pr w h st W c how b e k
    by_cases q : st e = 0 ∧ e = tb_sid w h c k
    · rw [if_pos q]
      right
      refine ⟨?_, q.1, k, Nat.lt_succ_self k, q.2⟩
      rcases ih with z | z
      · rw [z.1]
      · rw [z.1, tb_w1_twice]
    · rw [if_neg q]
      rcases ih with ⟨z1, z2⟩ | ⟨z1, z2, s, z3, z4⟩
      · left
        refine ⟨z1, fun s hs => ?_⟩
        rcases Nat.lt_or_ge s k with y | y
        · exact z2 s y
        · rw [show s = k by omega]; exact q
      · exact Or.inr ⟨z1, z2, s, by omega, z4⟩
theorem tb_wantP_pr (w h : Nat) (st : Nat → Nat) (W : tb_Wt) (p how b e : Nat) : ∀ k, tb_pr (tb_wantP w h st W p how b k) e = if e < k ∧ dv_inc w h p e = true ∧ st e = 0 then tb_w1 (tb_pr W e) how b else tb_pr W e
  | 0 => rfl
  | k + 1 => by
    have ih := tb_wantP_pr w h st W p how b e k
    rw [tb_wantP]
    by_cases ek : e = k
    · subst ek
      rw [if_lt_at]
      rw [if_lt_irr] at ih
      by_cases q : tb_one w h e = p ∨ tb_oth w h e = p
      · rw [if_pos q, tb_want_pr, ih]
        by_cases s : st e = 0 <;> simp [s, dv_inc_y.mpr q]
      · have : ¬ dv_inc w h p e = true := fun z => q (dv_inc_y.mp z)
        rw [if_neg q, ih]
        simp [this]
    · rw [if_lt_ne ek]
      by_cases q : tb_one w h k = p ∨ tb_oth w h k = p
      · rw [if_pos q, tb_want_pr, ih]
        simp [ek]
      · rw [if_neg q, ih]
/-- the class's sets at an edge, against the reference's two numbers -/
def dv_relx (D : dv_Wt) (x : Nat × Nat) (e : Nat) : Prop := (D.2.1.testBit e = x.1.testBit 0 ∧ D.2.2.testBit e = x.1.testBit 1 ∧ x.1 < 4) ∧
  (∀ r, (D.1 r).testBit e = true → 1 ≤ r ∧ r < 8 ∧ x.2 ≠ 0 ∧ x.2 ≤ r) ∧ (x.2 ≠ 0 → (D.1 x.2).testBit e = true) ∧ (x.1 ≠ 0 → x.2 ≠ 0)
theorem dv_relx_n {U : Nat} {D : dv_Wt} {x : Nat × Nat} {e r how m : Nat} (hm : (m &&& U).testBit e = false) (hr : dv_relx D x e) : dv_relx (dv_want U D r how m) x e := by
  have h1 : ∀ r', ((dv_want U D r how m).1 r').testBit e = (D.1 r').testBit e := by
    intro r'
    unfold dv_want
    dsimp only
    by_cases q : r' = r
    · subst q; rw [va_up_self, Nat.testBit_or, hm, Bool.or_false]
    · rw [va_up_ne _ _ q]
  have h2 : (dv_want U D r how m).2.1.testBit e = D.2.1.testBit e := by
    unfold dv_want
    dsimp only
    split
    · rw [Nat.testBit_or, hm, Bool.or_false]
    · rfl
  have h3 : (dv_want U D r how m).2.2.testBit e = D.2.2.testBit e := by
    unfold dv_want
    dsimp only
    split
    · rfl
    · rw [Nat.testBit_or, hm, Bool.or_false]
  obtain ⟨⟨a1, a2, a3⟩, a4, a5, a6⟩ := hr
  refine ⟨⟨h2.trans a1, h3.trans a2, a3⟩, fun r' hr' => a4 r' ((h1 r').symm.trans hr'), fun hx => (h1 _).trans (a5 hx), a6⟩
theorem dv_relx_y {U : Nat} {D : dv_Wt} {x : Nat × Nat} {e r how m : Nat} (hm : (m &&& U).testBit e = true) (h1r : 1 ≤ r) (hr8 : r < 8) (hh : how = 1 ∨ how = 2) (hr : dv_relx D x e) : dv_relx (dv_want U D r how m) (tb_w1 x how r) e := by
  have h1 : ∀ r', ((dv_want U D r how m).1 r').testBit e = (decide (r' = r) || (D.1 r').testBit e) := by
    intro r'
    unfold dv_want
    dsimp only
    by_cases q : r' = r
    · subst q; rw [va_up_self, Nat.testBit_or, hm, Bool.or_true, decide_eq_true rfl]; rfl
    · rw [va_up_ne _ _ q, decide_eq_false q]; rfl
  have h2 : (dv_want U D r how m).2.1.testBit e = (D.2.1.testBit e || decide (how = 1)) := by
    unfold dv_want
    dsimp only
    split
    · rename_i q; rw [Nat.testBit_or, hm, decide_eq_true q]
    · rename_i q; rw [decide_eq_false q, Bool.or_false]
  have h3 : (dv_want U D r how m).2.2.testBit e = (D.2.2.testBit e || !decide (how = 1)) := by
    unfold dv_want
    dsimp only
    split
    · rename_i q; rw [decide_eq_true q]; simp
    · rename_i q; rw [Nat.testBit_or, hm, decide_eq_false q]; rfl
  obtain ⟨⟨a1, a2, a3⟩, a4, a5, a6⟩ := hr
  refine ⟨⟨?_, ?_, ?_⟩, ?_, ?_, ?_⟩
  · rw [h2, a1]
    show _ = (x.1 ||| how).testBit 0
    rw [Nat.testBit_or]
    rcases hh with z | z <;> subst z <;> rfl
  · rw [h3, a2]
    show _ = (x.1 ||| how).testBit 1
    rw [Nat.testBit_or]
    rcases hh with z | z <;> subst z <;> rfl
  · show x.1 ||| how < 2 ^ 2
    exact Nat.or_lt_two_pow a3 (by rcases hh with z | z <;> subst z <;> decide)
  · intro r' hr'
    show _ ∧ _ ∧ (if x.2 = 0 ∨ r < x.2 then r else x.2) ≠ 0 ∧ (if x.2 = 0 ∨ r < x.2 then r else x.2) ≤ r'
    rw [h1 r', Bool.or_eq_true, decide_eq_true_eq] at hr'
    rcases hr' with z | z
    · subst z
      split <;> omega
    · have := a4 r' z
      split <;> omega
  · intro _
    show ((dv_want U D r how m).1 (if x.2 = 0 ∨ r < x.2 then r else x.2)).testBit e = true
    rw [h1]
    split
    · rw [decide_eq_true rfl]; rfl
    · rename_i q
      rw [a5 (by omega), Bool.or_true]
  · intro _
    show (if x.2 = 0 ∨ r < x.2 then r else x.2) ≠ 0
    split <;> omega
theorem dv_relx_if {U : Nat} {D : dv_Wt} {x : Nat × Nat} {e r how m : Nat} {C : Prop} [Decidable C] (hC : (m &&& U).testBit e = true ↔ C) (h1r : 1 ≤ r) (hr8 : r < 8) (hh : how = 1 ∨ how = 2) (hr : dv_relx D x e) : dv_relx (dv_want U D r how m) (if C then tb_w1 x how r else x) e := by
  by_cases q : C
  · rw [if_pos q]; exact dv_relx_y (hC.mpr q) h1r hr8 hh hr
  · rw [if_neg q]; exact dv_relx_n (Bool.eq_false_iff.mpr (fun z => q (hC.mp z))) hr
/-! rules 1 and 2 -/
theorem dv_relx_A {w h : Nat} (hW : tb_W w h) {st : Nat → Nat} {D : dv_Wt} {W : tb_Wt} {c r how e : Nat} (hc : c < tb_nc w h) (he : e < tb_ne w h) (h1r : 1 ≤ r) (hr8 : r < 8) (hh : how = 1 ∨ how = 2) (hr : dv_relx D (tb_pr W e) e) : dv_relx (dv_want (dv_S w h st 0) D r how (dv_ea w h c)) (tb_pr (tb_wantA w h st W c how r 4) e) e := by
  have hm : (dv_ea w h c &&& dv_S w h st 0).testBit e = true ↔ (st e = 0 ∧ ∃ s, s < 4 ∧ e = tb_sid w h c s) := by
    rw [Nat.testBit_and, dv_S_bit he, Bool.and_eq_true, beq_iff_eq]
    unfold dv_ea
    rw [bm_bit, decide_eq_true he, Bool.true_and, dv_four hW c hc e he]
    simp only [Bool.or_eq_true, beq_iff_eq]
    constructor
    · rintro ⟨(z | z) | (z | z), s⟩
      · exact ⟨s, 0, by decide, z⟩
      · exact ⟨s, 1, by decide, z⟩
      · exact ⟨s, 2, by decide, z⟩
      · exact ⟨s, 3, by decide, z⟩
    · rintro ⟨s, i, i4, z⟩
      refine ⟨?_, s⟩
      have : i = 0 ∨ i = 1 ∨ i = 2 ∨ i = 3 := by omega
      rcases this with y | y | y | y <;> subst y
      · exact Or.inl (Or.inl z)
      · exact Or.inl (Or.inr z)
      · exact Or.inr (Or.inl z)
      · exact Or.inr (Or.inr z)
  rcases tb_wantA_pr w h st W c how r e 4 with ⟨z1, z2⟩ | ⟨z1, z2, z3⟩
  · rw [z1]
    refine dv_relx_n (Bool.eq_false_iff.mpr (fun z => ?_)) hr
    obtain ⟨y1, s, y2, y3⟩ := hm.mp z
    exact z2 s y2 ⟨y1, y3⟩
  · rw [z1]
    exact dv_relx_y (hm.mpr ⟨z2, z3⟩) h1r hr8 hh hr
theorem dv_relx_P {w h : Nat} {st : Nat → Nat} {D : dv_Wt} {W : tb_Wt} {p r how e : Nat} (he : e < tb_ne w h) (h1r : 1 ≤ r) (hr8 : r < 8) (hh : how = 1 ∨ how = 2) (hr : dv_relx D (tb_pr W e) e) : dv_relx (dv_want (dv_S w h st 0) D r how (dv_ep w h p)) (tb_pr (tb_wantP w h st W p how r (tb_ne w h)) e) e := by
  rw [tb_wantP_pr]
  refine dv_relx_if ?_ h1r hr8 hh hr
  rw [Nat.testBit_and, dv_S_bit he, dv_ep_bit, decide_eq_true he, Bool.true_and, Bool.and_eq_true, beq_iff_eq]
  exact ⟨fun ⟨a, b⟩ => ⟨he, a, b⟩, fun ⟨_, a, b⟩ => ⟨a, b⟩⟩
theorem nI_m1 {k : Nat} (hk : k < 100) : ¬ nI k = (-1 : Int32) := by
  intro q
  have := congrArg Int32.toInt q
  rw [nI_toInt (by omega)] at this
  have e3 : (-1 : Int32).toInt = -1 := by decide
  omega
theorem dv_relx_C {w h : Nat} (hW : tb_W w h) (num : Nat → Int32) (st : Nat → Nat) {e : Nat} (he : e < tb_ne w h) : ∀ c, c ≤ tb_nc w h → dv_relx (dv_askC w h num st c) (tb_pr (tb_askC w h num st c) e) e
  | 0, _ => by
    refine ⟨⟨?_, ?_, show (0 : Nat) < 4 by decide⟩, fun r hr => ?_, fun q => absurd rfl q, fun q => absurd rfl q⟩
    · show Nat.testBit 0 e = Nat.testBit 0 0
      rw [Nat.zero_testBit, Nat.zero_testBit]
    · show Nat.testBit 0 e = Nat.testBit 0 1
      rw [Nat.zero_testBit, Nat.zero_testBit]
    · have : Nat.testBit 0 e = true := hr
      rw [Nat.zero_testBit] at this
      cases this
  | c + 1, hc => by
    have ih := dv_relx_C hW num st he c (by omega)
    have a1 := tb_ar_le w h st c 1
    have a0 := tb_ar_le w h st c 0
    rw [dv_askC_s]
    have h1 : dv_relx (dv_askC1 w h num st c) (tb_pr (if num c = nI (tb_ar w h st c 1) then tb_wantA w h st (tb_askC w h num st c) c 2 1 4 else tb_askC w h num st c) e) e := by
      unfold dv_askC1
      by_cases q : num c = nI (tb_ar w h st c 1)
      · rw [if_pos q, if_pos ⟨by rw [q]; exact nI_m1 (by omega), q⟩]
        exact dv_relx_A hW (by omega) he (by decide) (by decide) (Or.inr rfl) ih
      · rw [if_neg q, if_neg (fun z => q z.2)]
        exact ih
    rw [tb_askC]
    by_cases q : num c = nI (tb_ar w h st c 1 + tb_ar w h st c 0)
    · rw [if_pos ⟨by rw [q]; exact nI_m1 (by omega), q⟩]
      simp only [if_pos q]
      exact dv_relx_A hW (by omega) he (by decide) (by decide) (Or.inl rfl) h1
    · rw [if_neg (fun z => q z.2)]
      simp only [if_neg q]
      exact h1
theorem dv_relx_Q {w h : Nat} (hW : tb_W w h) (num : Nat → Int32) (st : Nat → Nat) {e : Nat} (he : e < tb_ne w h) : ∀ p, dv_relx (dv_askP w h num st p) (tb_pr (tb_askP w h num st p) e) e
  | 0 => dv_relx_C hW num st he _ (Nat.le_refl _)
  | p + 1 => by
    have ih := dv_relx_Q hW num st he p
    have h1 : dv_relx (dv_askP1 w h st (dv_askP w h num st p) p) (tb_pr (tb_askP1 w h st (tb_askP w h num st p) p) e) e := by
      unfold dv_askP1 tb_askP1 tb_deg
      split
      · exact dv_relx_P he (by decide) (by decide) (Or.inr rfl) ih
      · exact ih
    have h2 : dv_relx (dv_askP2 w h st (dv_askP1 w h st (dv_askP w h num st p) p) p) (tb_pr (tb_askP2 w h st (tb_askP1 w h st (tb_askP w h num st p) p) p) e) e := by
      unfold dv_askP2 tb_askP2 tb_deg
      split
      · exact dv_relx_P he (by decide) (by decide) (Or.inl rfl) h1
      · exact h1
    rw [dv_askP, tb_askP]
    unfold dv_askP3 tb_askP3 tb_deg
    split
    · exact dv_relx_P he (by decide) (by decide) (Or.inr rfl) h2
    · exact h2
/-! rule 6 -/
abbrev dv_c6 (w h : Nat) (num : Nat → Int32) (st : Nat → Nat) (V e : Nat) : Prop := st e = 0 ∧ dv_joins w h V e = true ∧ dv_shut w h num (dv_S w h st 1) e = false
theorem dv_one_bit {w h : Nat} {st : Nat → Nat} {k e : Nat} (he : e < tb_ne w h) : (2 ^ k &&& dv_S w h st 0).testBit e = true ↔ k = e ∧ st e = 0 := by
  rw [Nat.testBit_and, Nat.testBit_two_pow, dv_S_bit he, Bool.and_eq_true, decide_eq_true_eq, beq_iff_eq]
theorem dv_relx_W1 {w h : Nat} {num : Nat → Int32} {st : Nat → Nat} {V : Nat} {D : dv_Wt} {x : Nat × Nat} {e : Nat} (he : e < tb_ne w h) (hr : dv_relx D x e) : ∀ k, dv_relx (dv_askW1 w h num st V D k) (if e < k ∧ dv_c6 w h num st V e then tb_w1 x 2 6 else x) e
  | 0 => by rw [if_lt_zero]; exact hr
  | k + 1 => by
    have ih := dv_relx_W1 (num := num) (st := st) (V := V) he hr k
    rw [dv_askW1]
    by_cases ek : e = k
    · subst ek
      rw [if_lt_irr] at ih
      rw [if_lt_at]
      by_cases q : dv_c6 w h num st V e
      · rw [if_pos q, if_pos q]
        exact dv_relx_y ((dv_one_bit he).mpr ⟨rfl, q.1⟩) (by decide) (by decide) (Or.inr rfl) ih
      · rw [if_neg q, if_neg q]
        exact ih
    · rw [if_lt_ne ek]
      by_cases q : dv_c6 w h num st V k
      · rw [if_pos q]
        exact dv_relx_n (Bool.eq_false_iff.mpr (fun z => ek ((dv_one_bit he).mp z).1.symm)) ih
      · rw [if_neg q]
        exact ih
theorem dv_relx_W {w h : Nat} (hW : tb_W w h) {num : Nat → Int32} {st : Nat → Nat} {e : Nat} (he : e < tb_ne w h) : ∀ (k : Nat) (T : Nat → Bool) (D : dv_Wt) (x : Nat × Nat), dv_wn w h (dv_S w h st 1) T ≤ k → dv_relx D x e →
    (dv_relx (dv_askW w h num st k (dv_sub w h (dv_S w h st 1) T) D) x e ∧ ∀ c, dv_wayB w h (dv_S w h st 1) c = true → T c = true → ¬ dv_c6 w h num st (dv_sub w h (dv_S w h st 1) (fun y => y == c)) e) ∨
    (dv_relx (dv_askW w h num st k (dv_sub w h (dv_S w h st 1) T) D) (tb_w1 x 2 6) e ∧ ∃ c, dv_wayB w h (dv_S w h st 1) c = true ∧ T c = true ∧ dv_c6 w h num st (dv_sub w h (dv_S w h st 1) (fun y => y == c)) e)
  | 0, T, D, x, hk, hr => by
    left
    refine ⟨hr, fun c c1 c2 => ?_⟩
    rw [(dv_wn_0 hW).mp (Nat.le_zero.mp hk) c c1] at c2
    cases c2
  | k + 1, T, D, x, hk, hr => by
    rw [dv_askW]
    by_cases h0 : dv_sub w h (dv_S w h st 1) T = 0
    · rw [if_pos h0]
      left
      refine ⟨hr, fun c c1 c2 => ?_⟩
      rw [dv_sub_0.mp h0 c c1] at c2
      cases c2
    · obtain ⟨c, c1, c2, c3⟩ := dv_fw_way hW h0
      rw [if_neg h0, c3, dv_minus_sub hW]
      have hs := dv_wn_step hW c1 c2
      have h1 := dv_relx_W1 (num := num) (st := st) (V := dv_sub w h (dv_S w h st 1) (fun y => y == c)) he hr (tb_ne w h)
      have ih := dv_relx_W hW (num := num) (st := st) he k (fun y => T y && !(y == c)) _ _ (by omega) h1
      by_cases q : dv_c6 w h num st (dv_sub w h (dv_S w h st 1) (fun y => y == c)) e
      · right
        rw [if_lt_yes he, if_pos q, tb_w1_twice] at ih
        refine ⟨?_, c, c1, c2, q⟩
        rcases ih with z | z
        · exact z.1
        · exact z.1
      · rw [if_lt_no q] at ih
        rcases ih with ⟨z1, z2⟩ | ⟨z1, c', y1, y2, y3⟩
        · left
          refine ⟨z1, fun c' y1 y2 => ?_⟩
          by_cases cc : c' = c
          · rw [cc]; exact q
          · exact z2 c' y1 (by rw [y2, beq_eq_false_iff_ne.mpr cc]; rfl)
        · right
          rw [Bool.and_eq_true] at y2
          exact ⟨z1, c', y1, y2.1, y3⟩
/-- an edge joins two points of one way just if their labels are the same -/
theorem dv_joins_way {w h S e : Nat} (hW : tb_W w h) (he : e < tb_ne w h) : (∃ c, dv_wayB w h S c = true ∧ dv_joins w h (dv_sub w h S (fun y => y == c)) e = true) ↔ dv_L w h S (tb_one w h e) = dv_L w h S (tb_oth w h e) := by
  have hb := tb_ends hW e he
  constructor
  · rintro ⟨c, _, c2⟩
    unfold dv_joins at c2
    rw [dv_deg_sub, dv_deg_sub] at c2
    by_cases q1 : dv_L w h S (tb_one w h e) = c
    · by_cases q2 : dv_L w h S (tb_oth w h e) = c
      · exact q1.trans q2.symm
      · rw [if_neg q2] at c2; simp at c2
    · rw [if_neg q1] at c2; simp at c2
  · intro hl
    have hd : dv_deg w h S (tb_one w h e) ≠ 0 := by
      intro h0
      have hno : ∀ e2, e2 < tb_ne w h → S.testBit e2 = true → ¬ dv_inc w h (tb_one w h e) e2 = true := fun e2 he2 hs2 hi => dv_deg_pos.mpr ⟨e2, he2, hs2, hi⟩ h0
      have hP := dv_L_ind (w := w) (h := h) (S := S) (P := fun x => x = tb_one w h e) (fun e2 he2 hs2 => ⟨fun z => absurd (dv_inc_y.mpr (Or.inl z)) (hno e2 he2 hs2), fun z => absurd (dv_inc_y.mpr (Or.inr z)) (hno e2 he2 hs2)⟩) hl
      exact hb.2.2.1 (hP.mp rfl).symm
    have hd2 : dv_deg w h S (tb_oth w h e) ≠ 0 := dv_deg_class hl.symm hd
    refine ⟨dv_L w h S (tb_one w h e), dv_wayB_y.mpr ⟨dv_L_idem, dv_deg_class dv_L_idem hd⟩, ?_⟩
    unfold dv_joins
    rw [dv_deg_sub, dv_deg_sub, if_pos rfl, if_pos hl.symm, beq_eq_false_iff_ne.mpr hd, beq_eq_false_iff_ne.mpr hd2]
    rfl
theorem dv_same_set {w h : Nat} {st : Nat → Nat} {e : Nat} (he : e < tb_ne w h) : dv_same w h (dv_S w h st 1 ||| 2 ^ e) (tb_set st e 1) := by
  refine ⟨Nat.or_lt_two_pow (bm_lt _ _) (Nat.pow_lt_pow_right (by decide) he), fun j hj => ?_⟩
  rw [fb_bit_set, dv_S_bit hj]
  unfold tb_set
  by_cases q : j = e
  · subst q; simp
  · rw [if_neg q, decide_eq_false q, Bool.or_false]
theorem dv_shut_eq {w h : Nat} (hW : tb_W w h) (num : Nat → Int32) {st : Nat → Nat} {e : Nat} (he : e < tb_ne w h) : dv_shut w h num (dv_S w h st 1) e = tb_closes w h num st e := by
  unfold dv_shut tb_closes
  have hs := dv_same_set (st := st) he
  rw [dv_same_loop hW hs, dv_same_right hW hs]
theorem dv_c6_eq {w h : Nat} (hW : tb_W w h) (num : Nat → Int32) {st : Nat → Nat} {e : Nat} (he : e < tb_ne w h) : (∃ c, dv_wayB w h (dv_S w h st 1) c = true ∧ (fun _ : Nat => true) c = true ∧ dv_c6 w h num st (dv_sub w h (dv_S w h st 1) (fun y => y == c)) e) ↔ (st e = 0 ∧ tb_L w h (tb_isL st) (tb_one w h e) = tb_L w h (tb_isL st) (tb_oth w h e) ∧ tb_closes w h num st e = false) := by
  have hj := dv_joins_way (S := dv_S w h st 1) hW he
  have hs := dv_same_S w h st
  rw [dv_same_L hs, dv_same_L hs] at hj
  rw [← dv_shut_eq hW num he, ← hj]
  constructor
  · rintro ⟨c, c1, _, c3, c4, c5⟩
    exact ⟨c3, ⟨c, c1, c4⟩, c5⟩
  · rintro ⟨c3, ⟨c, c1, c4⟩, c5⟩
    exact ⟨c, c1, rfl, c3, c4, c5⟩
/-! rule 7, and all of them -/
def tb_x6 (w h : Nat) (num : Nat → Int32) (st : Nat → Nat) (e : Nat) : Nat × Nat := if st e = 0 ∧ tb_L w h (tb_isL st) (tb_one w h e) = tb_L w h (tb_isL st) (tb_oth w h e) ∧ tb_closes w h num st e = false then tb_w1 (tb_pr (tb_askP w h num st (tb_np w h)) e) 2 6 else tb_pr (tb_askP w h num st (tb_np w h)) e
def tb_x7 (w h : Nat) (num : Nat → Int32) (st : Nat → Nat) (e : Nat) : Nat × Nat := if (tb_chE w h st).1 (tb_are w h e) = (tb_chE w h st).1 (tb_bes w h e) ∧ st e = 0 then tb_w1 (tb_x6 w h num st e) (if (tb_chE w h st).2.1 (tb_are w h e) = (tb_chE w h st).2.1 (tb_bes w h e) then 2 else 1) 7 else tb_x6 w h num st e
abbrev tb_cc6 (w h : Nat) (num : Nat → Int32) (st : Nat → Nat) (e : Nat) : Prop := st e = 0 ∧ tb_L w h (tb_isL st) (tb_one w h e) = tb_L w h (tb_isL st) (tb_oth w h e) ∧ tb_closes w h num st e = false
abbrev tb_cc7 (w h : Nat) (st : Nat → Nat) (e : Nat) : Prop := (tb_chE w h st).1 (tb_are w h e) = (tb_chE w h st).1 (tb_bes w h e)
abbrev tb_how7 (w h : Nat) (st : Nat → Nat) (e : Nat) : Nat := if (tb_chE w h st).2.1 (tb_are w h e) = (tb_chE w h st).2.1 (tb_bes w h e) then 2 else 1
theorem tb_E6_pr (w h : Nat) (num : Nat → Int32) (st : Nat → Nat) (W : tb_Wt) (j e : Nat) : tb_pr (tb_askE6 w h num st W j) e = if e = j ∧ tb_cc6 w h num st e then tb_w1 (tb_pr W e) 2 6 else tb_pr W e := by
  show tb_pr (if tb_cc6 w h num st j then tb_want st W j 2 6 else W) e = _
  by_cases z : tb_cc6 w h num st j
  · rw [if_pos z, tb_want_pr]
    by_cases q : e = j
    · subst q; simp [z, z.1]
    · simp [q]
  · rw [if_neg z]
    by_cases q : e = j
    · subst q; simp only [z, and_false, if_false]
    · simp [q]
theorem tb_E7_pr (w h : Nat) (st : Nat → Nat) (W : tb_Wt) (j e : Nat) : tb_pr (tb_askE7 w h st W j) e = if e = j ∧ (tb_cc7 w h st e ∧ st e = 0) then tb_w1 (tb_pr W e) (tb_how7 w h st e) 7 else tb_pr W e := by
  show tb_pr (if tb_cc7 w h st j then tb_want st W j (tb_how7 w h st j) 7 else W) e = _
  by_cases z : tb_cc7 w h st j
  · rw [if_pos z, tb_want_pr]
    by_cases q : e = j
    · subst q
      by_cases s : st e = 0
      · rw [if_pos (c := st e = 0 ∧ e = e) ⟨s, rfl⟩, if_pos (c := e = e ∧ (tb_cc7 w h st e ∧ st e = 0)) ⟨rfl, z, s⟩]
      · rw [if_neg (c := st e = 0 ∧ e = e) (fun y => s y.1), if_neg (c := e = e ∧ (tb_cc7 w h st e ∧ st e = 0)) (fun y => s y.2.2)]
    · rw [if_neg (c := st e = 0 ∧ e = j) (fun y => q y.2), if_neg (c := e = j ∧ (tb_cc7 w h st e ∧ st e = 0)) (fun y => q y.1)]
  · rw [if_neg z, if_neg (c := e = j ∧ (tb_cc7 w h st e ∧ st e = 0)) (fun y => z (y.1 ▸ y.2.1))]
theorem tb_askE_pr (w h : Nat) (num : Nat → Int32) (st : Nat → Nat) (e : Nat) : ∀ k, tb_pr (tb_askE w h num st k) e = if e < k then tb_x7 w h num st e else tb_pr (tb_askP w h num st (tb_np w h)) e
  | 0 => rfl
  | k + 1 => by
    have ih := tb_askE_pr w h num st e k
    rw [tb_askE, tb_E7_pr, tb_E6_pr, ih]
    by_cases q : e = k
    · subst q
      rw [if_neg (Nat.lt_irrefl e), if_pos (Nat.lt_succ_self e)]
      show (if e = e ∧ (tb_cc7 w h st e ∧ st e = 0) then tb_w1 (if e = e ∧ tb_cc6 w h num st e then _ else _) _ 7 else (if e = e ∧ tb_cc6 w h num st e then _ else _)) = (if tb_cc7 w h st e ∧ st e = 0 then tb_w1 (if tb_cc6 w h num st e then _ else _) _ 7 else (if tb_cc6 w h num st e then _ else _))
      by_cases z6 : tb_cc6 w h num st e
      · rw [if_pos (c := e = e ∧ tb_cc6 w h num st e) ⟨rfl, z6⟩, if_pos z6]
        by_cases z7 : tb_cc7 w h st e ∧ st e = 0
        · rw [if_pos (c := e = e ∧ (tb_cc7 w h st e ∧ st e = 0)) ⟨rfl, z7⟩, if_pos z7]
        · rw [if_neg (c := e = e ∧ (tb_cc7 w h st e ∧ st e = 0)) (fun y => z7 y.2), if_neg z7]
      · rw [if_neg (c := e = e ∧ tb_cc6 w h num st e) (fun y => z6 y.2), if_neg z6]
        by_cases z7 : tb_cc7 w h st e ∧ st e = 0
        · rw [if_pos (c := e = e ∧ (tb_cc7 w h st e ∧ st e = 0)) ⟨rfl, z7⟩, if_pos z7]
        · rw [if_neg (c := e = e ∧ (tb_cc7 w h st e ∧ st e = 0)) (fun y => z7 y.2), if_neg z7]
    · rw [if_neg (c := e = k ∧ (tb_cc7 w h st e ∧ st e = 0)) (fun y => q y.1), if_neg (c := e = k ∧ tb_cc6 w h num st e) (fun y => q y.1)]
      by_cases z : e < k
      · rw [if_pos z, if_pos (c := e < k + 1) (by omega)]
      · rw [if_neg z, if_neg (c := e < k + 1) (by omega)]
theorem dv_relx_E {w h : Nat} {st : Nat → Nat} {D : dv_Wt} {x : Nat × Nat} {e : Nat} (he : e < tb_ne w h) (hr : dv_relx D x e) : ∀ k, dv_relx (dv_askE w h st D k) (if e < k ∧ (tb_cc7 w h st e ∧ st e = 0) then tb_w1 x (tb_how7 w h st e) 7 else x) e
  | 0 => by rw [if_lt_zero]; exact hr
  | k + 1 => by
    have ih := dv_relx_E (st := st) he hr k
    show dv_relx (if tb_cc7 w h st k then dv_want (dv_S w h st 0) (dv_askE w h st D k) 7 (tb_how7 w h st k) (2 ^ k) else dv_askE w h st D k) _ e
    by_cases ek : e = k
    · subst ek
      rw [if_lt_irr] at ih
      rw [if_lt_at]
      by_cases q : tb_cc7 w h st e
      · rw [if_pos q]
        refine dv_relx_if ?_ (by decide) (by decide) (by unfold tb_how7; split; exact Or.inr rfl; exact Or.inl rfl) ih
        rw [dv_one_bit he]
        exact ⟨fun z => ⟨q, z.2⟩, fun z => ⟨rfl, z.2⟩⟩
      · rw [if_neg q, if_neg (c := tb_cc7 w h st e ∧ st e = 0) (fun z => q z.1)]
        exact ih
    · rw [if_lt_ne ek]
      by_cases q : tb_cc7 w h st k
      · rw [if_pos q]
        exact dv_relx_n (Bool.eq_false_iff.mpr (fun z => ek ((dv_one_bit he).mp z).1.symm)) ih
      · rw [if_neg q]
        exact ih
theorem dv_asks_rel {w h : Nat} (hW : tb_W w h) (num : Nat → Int32) (st : Nat → Nat) {e : Nat} (he : e < tb_ne w h) : dv_relx (dv_asks w h num st) (tb_pr (tb_asks w h num st) e) e := by
  unfold dv_asks tb_asks
  rw [tb_askE_pr, if_pos he]
  have h1 := dv_relx_Q hW num st he (tb_np w h)
  have h2 := dv_relx_W hW (num := num) (st := st) he 40 (fun _ => true) _ _ (Nat.le_trans (dv_wn_le hW _) (by decide)) h1
  rw [dv_sub_all (dv_same_S w h st).1] at h2
  have h3 : dv_relx (dv_askW w h num st 40 (dv_S w h st 1) (dv_askP w h num st (tb_np w h))) (tb_x6 w h num st e) e := by
    have q6 := dv_c6_eq hW num (st := st) he
    show dv_relx _ (if tb_cc6 w h num st e then _ else _) e
    rcases h2 with ⟨z1, z2⟩ | ⟨z1, z2⟩
    · have : ¬ tb_cc6 w h num st e := fun y => by
        obtain ⟨c, y1, y2, y3⟩ := q6.mpr y
        exact z2 c y1 y2 y3
      rw [if_neg this]
      exact z1
    · rw [if_pos (q6.mp z2)]
      exact z1
  have h4 := dv_relx_E (st := st) he h3 (tb_ne w h)
  rw [if_lt_yes he] at h4
  exact h4
