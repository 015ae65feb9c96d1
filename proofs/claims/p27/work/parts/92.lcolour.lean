/-! the chains that the law follows are the specs' colours -/
theorem lr_ck_up {w h : Nat} {st : Nat → Nat} {e S i : Nat} : ∀ a b, (lr_ck w h st e a S).testBit i = true → (lr_ck w h st e (a + b) S).testBit i = true
  | _, 0, hi => hi
  | a, b + 1, hi => by
    have ih := lr_ck_up a b hi
    rw [← Nat.add_assoc, lr_ck]
    by_cases c : (lr_ck w h st e (a + b) S).testBit (2 * (if a + b < 2 then tb_are w h e else tb_bes w h e) + (a + b) % 2) = true
    · rw [if_pos c, Nat.testBit_or, ih]; rfl
    · rw [if_neg c]; exact ih
theorem lr_ce_up {w h : Nat} {st : Nat → Nat} {S i : Nat} : ∀ a b, (lr_ce w h st a S).testBit i = true → (lr_ce w h st (a + b) S).testBit i = true
  | _, 0, hi => hi
  | a, b + 1, hi => by
    have ih := lr_ce_up a b hi
    rw [← Nat.add_assoc, lr_ce]
    split
    · exact ih
    · have := lr_ck_up (e := a + b) (st := st) (w := w) (h := h) (S := lr_ce w h st (a + b) S) (i := i) 0 4
      exact this ih
theorem lr_ci_eq (w h : Nat) (st : Nat → Nat) (S : Nat) : ∀ m, lr_ci w h st m S = lr_its (lr_ce w h st (tb_ne w h)) m S
  | 0 => rfl
  | m + 1 => by rw [lr_ci, lr_ci_eq w h st S m]; rfl
theorem lr_ci_up {w h : Nat} {st : Nat → Nat} {S i : Nat} (hi : S.testBit i = true) : ∀ m, (lr_ci w h st m S).testBit i = true
  | 0 => hi
  | m + 1 => by
    have ih := lr_ci_up (w := w) (h := h) (st := st) hi m
    rw [lr_ci]
    have := lr_ce_up (w := w) (h := h) (st := st) (S := lr_ci w h st m S) (i := i) 0 (tb_ne w h) ih
    rw [Nat.zero_add] at this
    exact this
theorem lr_ch_fix {w h : Nat} (k : lr_k w h) {st : Nat → Nat} {a : Nat} (ha : a ≤ tb_nc w h) : lr_ce w h st (tb_ne w h) (lr_ch w h st a) = lr_ch w h st a := by
  have hz := lr_sz k
  unfold lr_ch
  rw [lr_ci_eq]
  exact lr_its_fix (N := 20) (fun S i hi => by
    have := lr_ce_up (w := w) (h := h) (st := st) (S := S) (i := i) 0 (tb_ne w h) hi
    rw [Nat.zero_add] at this
    exact this) (fun S hS => lr_ce_lt k hS _ (Nat.le_refl _)) (lr_pw (by omega)) (by have := Nat.two_pow_pos (2 * a); omega)
theorem lr_between {A B C : Nat} (h1 : ∀ i, A.testBit i = true → B.testBit i = true) (h2 : ∀ i, B.testBit i = true → C.testBit i = true) (e : C = A) : B = A := by
  apply Nat.eq_of_testBit_eq
  intro i
  cases x : A.testBit i with
  | true => exact h1 i x
  | false =>
    cases y : B.testBit i with
    | false => rfl
    | true => rw [← x, ← e, h2 i y]
def lr_nd (x : Nat) (s : Bool) : Nat := 2 * x + (if s = true then 1 else 0)
theorem lr_nd_inj {x y : Nat} {s t : Bool} (h : lr_nd x s = lr_nd y t) : x = y ∧ s = t := by
  unfold lr_nd at h
  cases s <;> cases t <;> simp at h ⊢ <;> omega
/-- the four steps along an edge -/
theorem lr_ck_step {w h : Nat} {st : Nat → Nat} {e S : Nat} (hf : lr_ck w h st e 4 S = S) {j : Nat} (hj : j < 4) (hb : S.testBit (2 * (if j < 2 then tb_are w h e else tb_bes w h e) + j % 2) = true) : S.testBit (2 * (if j < 2 then tb_bes w h e else tb_are w h e) + (j % 2 + lr_ln st e) % 2) = true := by
  have f : ∀ i, i ≤ 4 → lr_ck w h st e i S = S := fun i hi => lr_between (C := lr_ck w h st e 4 S) (fun x hx => by
    have := lr_ck_up (w := w) (h := h) (st := st) (e := e) (S := S) (i := x) 0 i hx
    rw [Nat.zero_add] at this
    exact this) (fun x hx => by
    have := lr_ck_up (w := w) (h := h) (st := st) (e := e) (S := S) (i := x) i (4 - i) hx
    rw [show i + (4 - i) = 4 by omega] at this
    exact this) hf
  have h1 := f (j + 1) (by omega)
  rw [lr_ck, f j (by omega), if_pos hb] at h1
  rw [← h1, Nat.testBit_or, Nat.testBit_two_pow_self]
  simp
theorem lr_ch_closed {w h : Nat} (k : lr_k w h) {st : Nat → Nat} {a e : Nat} (ha : a ≤ tb_nc w h) (he : e < tb_ne w h) (h0 : st e ≠ 0) (s : Bool) : (lr_ch w h st a).testBit (lr_nd (tb_are w h e) s) = true ↔ (lr_ch w h st a).testBit (lr_nd (tb_bes w h e) (s != (st e == 1))) = true := by
  have hf := lr_ch_fix k (st := st) ha
  generalize lr_ch w h st a = S at hf
  have f : ∀ i, i ≤ tb_ne w h → lr_ce w h st i S = S := fun i hi => lr_between (C := lr_ce w h st (tb_ne w h) S) (fun x hx => by
    have := lr_ce_up (w := w) (h := h) (st := st) (S := S) (i := x) 0 i hx
    rw [Nat.zero_add] at this
    exact this) (fun x hx => by
    have := lr_ce_up (w := w) (h := h) (st := st) (S := S) (i := x) i (tb_ne w h - i) hx
    rw [show i + (tb_ne w h - i) = tb_ne w h by omega] at this
    exact this) hf
  have h1 := f (e + 1) (by omega)
  rw [lr_ce, f e (by omega), if_neg h0] at h1
  have s0 := lr_ck_step h1 (j := 0) (by decide)
  have s1 := lr_ck_step h1 (j := 1) (by decide)
  have s2 := lr_ck_step h1 (j := 2) (by decide)
  have s3 := lr_ck_step h1 (j := 3) (by decide)
  simp only [show (0 : Nat) < 2 by decide, show (1 : Nat) < 2 by decide, show ¬ (2 : Nat) < 2 by decide, show ¬ (3 : Nat) < 2 by decide, if_true, if_false, show 0 % 2 = 0 from rfl, show 1 % 2 = 1 from rfl, show 2 % 2 = 0 from rfl, show 3 % 2 = 1 from rfl] at s0 s1 s2 s3
  unfold lr_ln at s0 s1 s2 s3
  unfold lr_nd
  by_cases hl : st e = 1
  · rw [if_pos hl] at s0 s1 s2 s3
    simp only [hl, beq_self_eq_true]
    cases s
    · exact ⟨s0, s3⟩
    · exact ⟨s1, s2⟩
  · rw [if_neg hl] at s0 s1 s2 s3
    have : (st e == 1) = false := beq_eq_false_iff_ne.mpr hl
    simp only [this]
    cases s
    · exact ⟨s0, s2⟩
    · exact ⟨s1, s3⟩
theorem lr_ck_inv {w h : Nat} {st : Nat → Nat} {e : Nat} {Q : Nat → Prop} (H : ∀ j, j < 4 → Q (2 * (if j < 2 then tb_are w h e else tb_bes w h e) + j % 2) → Q (2 * (if j < 2 then tb_bes w h e else tb_are w h e) + (j % 2 + lr_ln st e) % 2)) {S : Nat} (hS : ∀ i, S.testBit i = true → Q i) : ∀ j, j ≤ 4 → ∀ i, (lr_ck w h st e j S).testBit i = true → Q i
  | 0, _, i, hi => hS i hi
  | j + 1, hj, i, hi => by
    have ih := lr_ck_inv H hS j (by omega)
    rw [lr_ck] at hi
    by_cases c : (lr_ck w h st e j S).testBit (2 * (if j < 2 then tb_are w h e else tb_bes w h e) + j % 2) = true
    · rw [if_pos c, Nat.testBit_or, Nat.testBit_two_pow, Bool.or_eq_true, decide_eq_true_eq] at hi
      rcases hi with z | z
      · exact ih i z
      · rw [← z]; exact H j (by omega) (ih _ c)
    · rw [if_neg c] at hi
      exact ih i hi
theorem lr_ce_inv {w h : Nat} {st : Nat → Nat} {Q : Nat → Prop} (H : ∀ e, e < tb_ne w h → st e ≠ 0 → ∀ j, j < 4 → Q (2 * (if j < 2 then tb_are w h e else tb_bes w h e) + j % 2) → Q (2 * (if j < 2 then tb_bes w h e else tb_are w h e) + (j % 2 + lr_ln st e) % 2)) {S : Nat} (hS : ∀ i, S.testBit i = true → Q i) : ∀ e, e ≤ tb_ne w h → ∀ i, (lr_ce w h st e S).testBit i = true → Q i
  | 0, _, i, hi => hS i hi
  | e + 1, he, i, hi => by
    have ih := lr_ce_inv H hS e (by omega)
    rw [lr_ce] at hi
    split at hi
    · exact ih i hi
    · rename_i c
      exact lr_ck_inv (H e (by omega) c) ih 4 (Nat.le_refl _) i hi
theorem lr_ch_inv {w h : Nat} {st : Nat → Nat} {a : Nat} {R : Nat → Bool → Prop} (h0 : R a false) (H : ∀ e, e < tb_ne w h → st e ≠ 0 → ∀ s, (R (tb_are w h e) s → R (tb_bes w h e) (s != (st e == 1))) ∧ (R (tb_bes w h e) s → R (tb_are w h e) (s != (st e == 1)))) {x : Nat} {s : Bool} (hx : (lr_ch w h st a).testBit (lr_nd x s) = true) : R x s := by
  have key : ∀ m i, (lr_ci w h st m (2 ^ (2 * a))).testBit i = true → ∀ y t, i = lr_nd y t → R y t := by
    intro m
    induction m with
    | zero =>
      intro i hi y t hyt
      rw [lr_ci, Nat.testBit_two_pow, decide_eq_true_eq] at hi
      have : lr_nd a false = lr_nd y t := by rw [← hyt, ← hi]; rfl
      obtain ⟨rfl, rfl⟩ := lr_nd_inj this
      exact h0
    | succ m ih =>
      intro i hi
      rw [lr_ci] at hi
      refine lr_ce_inv (Q := fun i => ∀ y t, i = lr_nd y t → R y t) (fun e he h1 j hj hQ y t hyt => ?_) ih _ (Nat.le_refl _) i hi
      have hH := H e he h1
      have hl : (st e == 1) = true ∧ lr_ln st e = 1 ∨ (st e == 1) = false ∧ lr_ln st e = 0 := by
        unfold lr_ln
        by_cases z : st e = 1
        · left; simp [z]
        · right; simp [z]
      have go : ∀ (A B : Nat) (s : Bool), (R A s → R B (s != (st e == 1))) → (∀ y t, lr_nd A s = lr_nd y t → R y t) → lr_nd B (s != (st e == 1)) = lr_nd y t → R y t := by
        intro A B s h3 h4 h5
        obtain ⟨rfl, rfl⟩ := lr_nd_inj h5
        exact h3 (h4 A s rfl)
      have c4 : j = 0 ∨ j = 1 ∨ j = 2 ∨ j = 3 := by omega
      rcases c4 with rfl | rfl | rfl | rfl
      · refine go (tb_are w h e) (tb_bes w h e) false (hH false).1 (fun y t z => hQ y t z) ?_
        rw [← hyt]
        rcases hl with ⟨l1, l2⟩ | ⟨l1, l2⟩ <;> rw [l1, l2] <;> rfl
      · refine go (tb_are w h e) (tb_bes w h e) true (hH true).1 (fun y t z => hQ y t z) ?_
        rw [← hyt]
        rcases hl with ⟨l1, l2⟩ | ⟨l1, l2⟩ <;> rw [l1, l2] <;> rfl
      · refine go (tb_bes w h e) (tb_are w h e) false (hH false).2 (fun y t z => hQ y t z) ?_
        rw [← hyt]
        rcases hl with ⟨l1, l2⟩ | ⟨l1, l2⟩ <;> rw [l1, l2] <;> rfl
      · refine go (tb_bes w h e) (tb_are w h e) true (hH true).2 (fun y t z => hQ y t z) ?_
        rw [← hyt]
        rcases hl with ⟨l1, l2⟩ | ⟨l1, l2⟩ <;> rw [l1, l2] <;> rfl
  exact key 20 _ hx x s rfl
/-- what the edges keep, the groups keep -/
theorem lr_ch_ind {w h : Nat} {st : Nat → Nat} {P : Nat → Bool → Prop} : ∀ j, (∀ e, e < j → st e ≠ 0 → ∀ s, (P (tb_are w h e) s ↔ P (tb_bes w h e) (s != (st e == 1)))) → ∀ x y, (tb_ch w h st j).1 x = (tb_ch w h st j).1 y → ∀ s, (P x s ↔ P y (s != ((tb_ch w h st j).2.1 x != (tb_ch w h st j).2.1 y)))
  | 0, _, x, y, hxy, s => by
    have : x = y := hxy
    subst this
    show P x s ↔ P x (s != (false != false))
    cases s <;> exact Iff.rfl
  | j + 1, H, x, y, hxy, s => by
    have ih := lr_ch_ind (P := P) (w := w) (h := h) (st := st) j (fun e he => H e (by omega))
    by_cases h0 : st j = 0
    · rw [tb_ch_0 h0] at hxy ⊢
      exact ih x y hxy s
    · by_cases h1 : (tb_ch w h st j).1 (tb_are w h j) = (tb_ch w h st j).1 (tb_bes w h j)
      · rw [tb_ch_s h0 h1] at hxy ⊢
        exact ih x y hxy s
      · rw [tb_ch_d h0 h1] at hxy ⊢
        have hE := H j (by omega) h0
        generalize hg : (tb_ch w h st j).1 = g at *
        generalize hc : (tb_ch w h st j).2.1 = c at *
        simp only at hxy ⊢
        generalize hA : tb_are w h j = A at *
        generalize hB : tb_bes w h j = B at *
        generalize hl : (st j == 1) = ln at *
        have ab : ∀ t, P A t ↔ P B (t != ln) := hE
        by_cases cx : g x = g B
        · by_cases cy : g y = g B
          · rw [if_pos cx, if_pos cy]
            have := ih x y (cx.trans cy.symm) s
            rw [this]
            have e : (s != (c x != c y)) = (s != ((c x != ((c A != c B) != ln)) != (c y != ((c A != c B) != ln)))) := by
              cases s <;> cases c x <;> cases c y <;> cases c A <;> cases c B <;> cases ln <;> rfl
            rw [e]
          · rw [if_pos cx, if_neg cy] at hxy
            rw [if_pos cx, if_neg cy, ih x B cx s]
            have h2 := ab ((s != (c x != c B)) != ln)
            have e2 : (((s != (c x != c B)) != ln) != ln) = (s != (c x != c B)) := by cases s <;> cases c x <;> cases c B <;> cases ln <;> rfl
            rw [e2] at h2
            rw [← h2, ih A y hxy]
            have e : (((s != (c x != c B)) != ln) != (c A != c y)) = (s != ((c x != ((c A != c B) != ln)) != c y)) := by
              cases s <;> cases c x <;> cases c y <;> cases c A <;> cases c B <;> cases ln <;> rfl
            rw [e]
        · by_cases cy : g y = g B
          · rw [if_neg cx, if_pos cy] at hxy
            rw [if_neg cx, if_pos cy, ih x A hxy s, ab, ih B y cy.symm]
            have e : (((s != (c x != c A)) != ln) != (c B != c y)) = (s != (c x != (c y != ((c A != c B) != ln)))) := by
              cases s <;> cases c x <;> cases c y <;> cases c A <;> cases c B <;> cases ln <;> rfl
            rw [e]
          · rw [if_neg cx, if_neg cy] at hxy
            rw [if_neg cx, if_neg cy]
            exact ih x y hxy s
/-- where all is fine, an edge tells its areas' colours -/
theorem lr_ch_join {w h : Nat} {st : Nat → Nat} : ∀ j, (tb_ch w h st j).2.2 = true → ∀ e, e < j → st e ≠ 0 → (tb_ch w h st j).1 (tb_are w h e) = (tb_ch w h st j).1 (tb_bes w h e) ∧ ((tb_ch w h st j).2.1 (tb_are w h e) != (tb_ch w h st j).2.1 (tb_bes w h e)) = (st e == 1)
  | 0, _, e, he, _ => absurd he (Nat.not_lt_zero e)
  | j + 1, hf, e, he, h2 => by
    have ih := lr_ch_join (w := w) (h := h) (st := st) j
    by_cases h0 : st j = 0
    · rw [tb_ch_0 h0] at hf ⊢
      exact ih hf e (by rcases Nat.lt_or_ge e j with z | z; exact z; exact absurd (by rw [show e = j by omega]; exact h0) h2) h2
    · by_cases h1 : (tb_ch w h st j).1 (tb_are w h j) = (tb_ch w h st j).1 (tb_bes w h j)
      · rw [tb_ch_s h0 h1] at hf ⊢
        simp only [Bool.and_eq_true, beq_iff_eq] at hf
        rcases Nat.lt_or_ge e j with z | z
        · exact ih hf.1 e z h2
        · have : e = j := by omega
          subst this
          exact ⟨h1, hf.2⟩
      · rw [tb_ch_d h0 h1] at hf ⊢
        simp only at hf ⊢
        rcases Nat.lt_or_ge e j with z | z
        · obtain ⟨a1, a2⟩ := ih hf e z h2
          rw [a1]
          refine ⟨rfl, ?_⟩
          rw [← a2]
          split
          · cases (tb_ch w h st j).2.1 (tb_are w h e) <;> cases (tb_ch w h st j).2.1 (tb_bes w h e) <;> cases ((tb_ch w h st j).2.1 (tb_are w h j) != (tb_ch w h st j).2.1 (tb_bes w h j)) != (st j == 1) <;> rfl
          · rfl
        · have : e = j := by omega
          subst this
          rw [if_neg h1, if_pos rfl, if_neg h1, if_pos rfl]
          refine ⟨rfl, ?_⟩
          cases (tb_ch w h st e).2.1 (tb_are w h e) <;> cases (tb_ch w h st e).2.1 (tb_bes w h e) <;> cases st e == 1 <;> rfl
theorem lr_ch_self {w h : Nat} {st : Nat → Nat} {a : Nat} : (lr_ch w h st a).testBit (lr_nd a false) = true := lr_ci_up (by unfold lr_nd; simp) 20
theorem lr_ch_bad {w h : Nat} (k : lr_k w h) {st : Nat → Nat} : ∀ j, j ≤ tb_ne w h → (tb_ch w h st j).2.2 = false → ∃ a, a ≤ tb_nc w h ∧ (lr_ch w h st a).testBit (lr_nd a true) = true
  | 0, _, hf => by cases hf
  | j + 1, hj, hf => by
    have ih := lr_ch_bad k (st := st) j (by omega)
    by_cases h0 : st j = 0
    · rw [tb_ch_0 h0] at hf
      exact ih hf
    · by_cases h1 : (tb_ch w h st j).1 (tb_are w h j) = (tb_ch w h st j).1 (tb_bes w h j)
      · rw [tb_ch_s h0 h1] at hf
        simp only at hf
        cases hfj : (tb_ch w h st j).2.2 with
        | false => exact ih hfj
        | true =>
          rw [hfj, Bool.true_and, beq_eq_false_iff_ne] at hf
          have ha := (lr_ends k (show j < tb_ne w h by omega)).2.2.2.2.1
          refine ⟨_, ha, ?_⟩
          have hcl : ∀ e, e < tb_ne w h → st e ≠ 0 → ∀ s, _ := fun e he h2 s => lr_ch_closed k (st := st) ha he h2 s
          have i1 := lr_ch_ind (P := fun x s => (lr_ch w h st (tb_are w h j)).testBit (lr_nd x s) = true) (w := w) (h := h) (st := st) j (fun e he h2 s => hcl e (by omega) h2 s) _ _ h1 false
          have i2 := i1.mp lr_ch_self
          have i3 := hcl j (by omega) h0 true
          refine i3.mpr ?_
          have e : (false != ((tb_ch w h st j).2.1 (tb_are w h j) != (tb_ch w h st j).2.1 (tb_bes w h j))) = (true != (st j == 1)) := by
            revert hf
            cases (tb_ch w h st j).2.1 (tb_are w h j) <;> cases (tb_ch w h st j).2.1 (tb_bes w h j) <;> cases st j == 1 <;> simp
          rw [← e]
          exact i2
      · rw [tb_ch_d h0 h1] at hf
        exact ih hf
theorem lr_ch_bit {w h : Nat} (k : lr_k w h) {st : Nat → Nat} (hf : tb_fine w h st = true) {a : Nat} (ha : a ≤ tb_nc w h) {x : Nat} {s : Bool} : (lr_ch w h st a).testBit (lr_nd x s) = true ↔ (tb_chE w h st).1 x = (tb_chE w h st).1 a ∧ s = ((tb_chE w h st).2.1 x != (tb_chE w h st).2.1 a) := by
  constructor
  · intro hx
    refine lr_ch_inv (R := fun x s => (tb_chE w h st).1 x = (tb_chE w h st).1 a ∧ s = ((tb_chE w h st).2.1 x != (tb_chE w h st).2.1 a)) ⟨rfl, by simp⟩ (fun e he h2 s => ?_) hx
    obtain ⟨a1, a2⟩ := lr_ch_join (w := w) (h := h) (st := st) (tb_ne w h) hf e he h2
    change (tb_chE w h st).1 _ = (tb_chE w h st).1 _ at a1
    change ((tb_chE w h st).2.1 _ != (tb_chE w h st).2.1 _) = _ at a2
    rw [← a2, a1]
    refine ⟨fun ⟨q1, q2⟩ => ⟨q1, ?_⟩, fun ⟨q1, q2⟩ => ⟨q1, ?_⟩⟩
    · rw [q2]
      cases (tb_chE w h st).2.1 (tb_are w h e) <;> cases (tb_chE w h st).2.1 (tb_bes w h e) <;> cases (tb_chE w h st).2.1 a <;> rfl
    · rw [q2]
      cases (tb_chE w h st).2.1 (tb_are w h e) <;> cases (tb_chE w h st).2.1 (tb_bes w h e) <;> cases (tb_chE w h st).2.1 a <;> rfl
  · rintro ⟨h1, h2⟩
    have i1 := lr_ch_ind (P := fun x s => (lr_ch w h st a).testBit (lr_nd x s) = true) (w := w) (h := h) (st := st) (tb_ne w h) (fun e he h3 s => lr_ch_closed k ha he h3 s) a x h1.symm false
    have i2 := i1.mp lr_ch_self
    have e : (false != ((tb_ch w h st (tb_ne w h)).2.1 a != (tb_ch w h st (tb_ne w h)).2.1 x)) = s := by
      rw [h2]
      show (false != ((tb_chE w h st).2.1 a != (tb_chE w h st).2.1 x)) = _
      cases (tb_chE w h st).2.1 a <;> cases (tb_chE w h st).2.1 x <;> rfl
    rw [← e]
    exact i2
theorem lr_ab_eq {w h : Nat} (k : lr_k w h) (st : Nat → Nat) : (List.range (tb_nc w h + 1)).any (lr_ab w h st) = !tb_fine w h st := by
  cases hf : tb_fine w h st with
  | true =>
    refine tb_anyF (fun a ha => ?_)
    cases z : lr_ab w h st a with
    | false => rfl
    | true =>
      have := (lr_ch_bit k hf (show a ≤ tb_nc w h by omega) (x := a) (s := true)).mp z
      simp at this
  | false =>
    obtain ⟨a, ha, hb⟩ := lr_ch_bad k (st := st) (tb_ne w h) (Nat.le_refl _) hf
    exact tb_anyT (show a < tb_nc w h + 1 by omega) hb
theorem lr_br_eq {w h : Nat} (k : lr_k w h) {num : Nat → Int32} (hnum : ∀ c, c < tb_nc w h → (num c < 0 ↔ num c = -1)) (st : Nat → Nat) : lr_br w h num st = tb_broken w h num st := by
  unfold lr_br tb_broken
  have h1 : (List.range (tb_nc w h)).any (lr_cb w h num st) = (List.range (tb_nc w h)).any (tb_cellBad w h num st) := lr_any_cong (fun c hc => by
    unfold lr_cb tb_cellBad
    have a1 : decide (num c < 0) = (num c == -1) := by rw [Bool.eq_iff_iff, decide_eq_true_eq, beq_iff_eq]; exact hnum c hc
    have a2 : (!decide (num c ≤ nI (tb_ar w h st c 1 + tb_ar w h st c 0))) = decide (nI (tb_ar w h st c 1 + tb_ar w h st c 0) < num c) := by
      rw [Bool.eq_iff_iff, Bool.not_eq_true', decide_eq_false_iff_not, decide_eq_true_eq]
      exact ⟨fa_of_nle, fun q => (fa_of_lt q).2.1⟩
    rw [a1, a2])
  rw [h1]
  by_cases c1 : (List.range (tb_nc w h)).any (tb_cellBad w h num st) = true
  · rw [if_pos c1, if_pos c1]
  · rw [if_neg c1, if_neg c1]
    by_cases c2 : (List.range (tb_np w h)).any (tb_ptBad w h st) = true
    · rw [if_pos c2, if_pos c2]
    · rw [if_neg c2, if_neg c2, lr_eb_eq k hnum (by simpa using c2), lr_ab_eq k]
      cases tb_fine w h st <;> rfl
