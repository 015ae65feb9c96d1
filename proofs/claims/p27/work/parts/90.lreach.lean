/-! the sets that the law reaches are the specs' ways -/
theorem lr_and2 {S a b : Nat} : S &&& (2 ^ a ||| 2 ^ b) ≠ 0 ↔ S.testBit a = true ∨ S.testBit b = true := by
  constructor
  · intro h
    obtain ⟨i, hi⟩ := Nat.exists_testBit_of_ne_zero h
    rw [Nat.testBit_and, Nat.testBit_or, Nat.testBit_two_pow, Nat.testBit_two_pow, Bool.and_eq_true, Bool.or_eq_true, decide_eq_true_eq, decide_eq_true_eq] at hi
    rcases hi with ⟨h1, rfl | rfl⟩
    · exact Or.inl h1
    · exact Or.inr h1
  · rintro (h | h) q
    · have : (S &&& (2 ^ a ||| 2 ^ b)).testBit a = true := by rw [Nat.testBit_and, Nat.testBit_or, Nat.testBit_two_pow_self, h]; rfl
      rw [q] at this
      simp at this
    · have : (S &&& (2 ^ a ||| 2 ^ b)).testBit b = true := by rw [Nat.testBit_and, Nat.testBit_or, Nat.testBit_two_pow_self, h]; simp
      rw [q] at this
      simp at this
theorem lr_orb {S a b i : Nat} : (S ||| (2 ^ a ||| 2 ^ b)).testBit i = (S.testBit i || (decide (a = i) || decide (b = i))) := by
  rw [Nat.testBit_or, Nat.testBit_or, Nat.testBit_two_pow, Nat.testBit_two_pow]
/-- a count of bits that grows -/
theorem lr_grow {F : Nat → Nat} {N : Nat} (hup : ∀ S i, S.testBit i = true → (F S).testBit i = true) (hlt : ∀ S, S < 2 ^ N → F S < 2 ^ N) {S : Nat} (hS : S < 2 ^ N) (hne : F S ≠ S) : fb_ct (fun i => S.testBit i) N + 1 ≤ fb_ct (fun i => (F S).testBit i) N := by
  have : ∃ i, i < N ∧ S.testBit i = false ∧ (F S).testBit i = true := by
    apply Classical.byContradiction
    intro q
    apply hne
    apply Nat.eq_of_testBit_eq
    intro i
    rcases Nat.lt_or_ge i N with hi | hi
    · cases h1 : S.testBit i with
      | true => exact hup S i h1
      | false =>
        cases h2 : (F S).testBit i with
        | false => rfl
        | true => exact absurd ⟨i, hi, h1, h2⟩ q
    · rw [Nat.testBit_lt_two_pow (Nat.lt_of_lt_of_le (hlt S hS) (Nat.pow_le_pow_right (by decide) hi)), Nat.testBit_lt_two_pow (Nat.lt_of_lt_of_le hS (Nat.pow_le_pow_right (by decide) hi))]
  obtain ⟨i, hi, h1, h2⟩ := this
  exact fb_ct_more (fun j _ hj => hup S j hj) hi h1 h2
def lr_its (F : Nat → Nat) : Nat → Nat → Nat
  | 0, S => S
  | m + 1, S => F (lr_its F m S)
theorem lr_its_fix {F : Nat → Nat} {N : Nat} (hup : ∀ S i, S.testBit i = true → (F S).testBit i = true) (hlt : ∀ S, S < 2 ^ N → F S < 2 ^ N) {S : Nat} (hS : S < 2 ^ N) (h0 : S ≠ 0) : F (lr_its F N S) = lr_its F N S := by
  have hl : ∀ m, lr_its F m S < 2 ^ N := by
    intro m
    induction m with
    | zero => exact hS
    | succ m ih => exact hlt _ ih
  have key : ∀ m, F (lr_its F m S) = lr_its F m S ∨ m + 1 ≤ fb_ct (fun i => (lr_its F m S).testBit i) N := by
    intro m
    induction m with
    | zero =>
      obtain ⟨i, hi⟩ := Nat.exists_testBit_of_ne_zero h0
      have hiN : i < N := by
        rcases Nat.lt_or_ge i N with z | z
        · exact z
        · rw [Nat.testBit_lt_two_pow (Nat.lt_of_lt_of_le hS (Nat.pow_le_pow_right (by decide) z))] at hi
          cases hi
      exact Or.inr (fb_ct_pos.mpr ⟨i, hiN, hi⟩)
    | succ m ih =>
      rcases Classical.em (F (lr_its F m S) = lr_its F m S) with q | q
      · left
        show F (F (lr_its F m S)) = F (lr_its F m S)
        rw [q]
        exact q
      · right
        have h1 := lr_grow hup hlt (hl m) q
        have h2 := ih.resolve_left q
        exact Nat.le_trans (Nat.succ_le_succ h2) h1
  rcases key N with q | q
  · exact q
  · have := fb_ct_le (fun i => (lr_its F N S).testBit i) N
    omega
theorem lr_it_eq (w h : Nat) (T : Nat → Bool) (S : Nat) : ∀ m, lr_it w h T m S = lr_its (lr_st w h T (tb_ne w h)) m S
  | 0 => rfl
  | m + 1 => by rw [lr_it, lr_it_eq w h T S m]; rfl
theorem lr_st_up1 {w h : Nat} {T : Nat → Bool} {S i : Nat} : ∀ a b, (lr_st w h T a S).testBit i = true → (lr_st w h T (a + b) S).testBit i = true
  | _, 0, hi => hi
  | a, b + 1, hi => by
    have ih := lr_st_up1 a b hi
    rw [← Nat.add_assoc, lr_st]
    split
    · rw [Nat.testBit_or, ih]; rfl
    · exact ih
theorem lr_st_fix {w h : Nat} {T : Nat → Bool} {S : Nat} (hf : lr_st w h T (tb_ne w h) S = S) {e : Nat} (he : e ≤ tb_ne w h) : lr_st w h T e S = S := by
  apply Nat.eq_of_testBit_eq
  intro i
  cases h1 : S.testBit i with
  | true => exact lr_st_up h1 e
  | false =>
    cases h2 : (lr_st w h T e S).testBit i with
    | false => rfl
    | true =>
      have h3 := lr_st_up1 e (tb_ne w h - e) h2
      rw [show e + (tb_ne w h - e) = tb_ne w h by omega, hf, h1] at h3
      cases h3
theorem lr_rc_fix {w h : Nat} (k : lr_k w h) {T : Nat → Bool} {p : Nat} (hp : p < 16) : lr_st w h T (tb_ne w h) (lr_rc w h T p) = lr_rc w h T p := by
  unfold lr_rc
  rw [lr_it_eq]
  exact lr_its_fix (N := 16) (fun S i hi => lr_st_up hi _) (fun S hS => lr_st_lt k hS _ (Nat.le_refl _)) (lr_pw hp) (by have := Nat.two_pow_pos p; omega)
/-- closed under the lines -/
theorem lr_rc_closed {w h : Nat} (k : lr_k w h) {T : Nat → Bool} {p e : Nat} (hp : p < 16) (he : e < tb_ne w h) (hT : T e = true) : (lr_rc w h T p).testBit (tb_one w h e) = true ↔ (lr_rc w h T p).testBit (tb_oth w h e) = true := by
  have hf := lr_rc_fix k (T := T) hp
  have h1 := lr_st_fix hf (e := e) (by omega)
  have h2 := lr_st_fix hf (e := e + 1) (by omega)
  rw [lr_st, h1] at h2
  have h3 : (lr_rc w h T p).testBit (tb_one w h e) = true ∨ (lr_rc w h T p).testBit (tb_oth w h e) = true → (lr_rc w h T p).testBit (tb_one w h e) = true ∧ (lr_rc w h T p).testBit (tb_oth w h e) = true := by
    intro q
    rw [if_pos ⟨hT, lr_and2.mpr q⟩] at h2
    rw [← h2]
    rw [lr_orb, lr_orb]
    simp
  exact ⟨fun q => (h3 (Or.inl q)).2, fun q => (h3 (Or.inr q)).1⟩
/-- all that is in it keeps what the lines keep -/
theorem lr_st_inv {w h : Nat} {T : Nat → Bool} {Q : Nat → Prop} (H : ∀ e, e < tb_ne w h → T e = true → (Q (tb_one w h e) ↔ Q (tb_oth w h e))) {S : Nat} (hS : ∀ i, S.testBit i = true → Q i) : ∀ e, e ≤ tb_ne w h → ∀ i, (lr_st w h T e S).testBit i = true → Q i
  | 0, _, i, hi => hS i hi
  | e + 1, he, i, hi => by
    have ih := lr_st_inv H hS e (by omega)
    rw [lr_st] at hi
    split at hi
    · rename_i c
      have hQ : Q (tb_one w h e) ∧ Q (tb_oth w h e) := by
        have h1 := H e (by omega) c.1
        rcases lr_and2.mp c.2 with z | z
        · exact ⟨ih _ z, h1.mp (ih _ z)⟩
        · exact ⟨h1.mpr (ih _ z), ih _ z⟩
      rw [lr_orb, Bool.or_eq_true, Bool.or_eq_true, decide_eq_true_eq, decide_eq_true_eq] at hi
      rcases hi with z | z | z
      · exact ih i z
      · rw [← z]; exact hQ.1
      · rw [← z]; exact hQ.2
    · exact ih i hi
theorem lr_it_inv {w h : Nat} {T : Nat → Bool} {Q : Nat → Prop} (H : ∀ e, e < tb_ne w h → T e = true → (Q (tb_one w h e) ↔ Q (tb_oth w h e))) {S : Nat} (hS : ∀ i, S.testBit i = true → Q i) : ∀ m i, (lr_it w h T m S).testBit i = true → Q i
  | 0, i, hi => hS i hi
  | m + 1, i, hi => lr_st_inv H (lr_it_inv H hS m) _ (Nat.le_refl _) i hi
theorem lr_rc_L {w h : Nat} (k : lr_k w h) {T : Nat → Bool} {p q : Nat} (hp : p < 16) : (lr_rc w h T p).testBit q = true ↔ tb_L w h T q = tb_L w h T p := by
  constructor
  · exact lr_it_inv (Q := fun x => tb_L w h T x = tb_L w h T p) (fun e he hT => by
      have := lb_join (w := w) (h := h) (S := T) (tb_ne w h) e he hT
      unfold tb_L
      rw [this]) (fun i hi => by
      rw [Nat.testBit_two_pow, decide_eq_true_eq] at hi
      rw [hi]) 16 q
  · intro hL
    exact (lb_ind (P := fun x => (lr_rc w h T p).testBit x = true) (tb_ne w h) (fun e he hT => lr_rc_closed k hp he hT) p q hL.symm).mp lr_rc_self
theorem lr_rc_b {w h : Nat} (k : lr_k w h) {T : Nat → Bool} {p q : Nat} (hp : p < 16) : (lr_rc w h T p).testBit q = (tb_L w h T q == tb_L w h T p) := by
  rw [Bool.eq_iff_iff, lr_rc_L k hp, beq_iff_eq]
theorem lr_T1 {w h : Nat} (k : lr_k w h) (st : Nat → Nat) : tb_L w h (lr_T st (-1)) = tb_L w h (tb_isL st) := by
  funext p
  refine lb_cong (tb_ne w h) (fun e he => ?_) p
  have hz := lr_sz k
  have : (nI e == (-1 : Int32)) = false := by
    rw [beq_eq_false_iff_ne]
    exact nI_m1 (by omega)
  unfold lr_T tb_isL
  rw [this]
  simp
/-- a count that is one -/
theorem lr_ct1 {p : Nat → Bool} {n : Nat} : fb_ct p n = 1 ↔ (∃ i, i < n ∧ p i = true) ∧ ∀ i j, i < n → j < n → p i = true → p j = true → i = j := by
  constructor
  · intro h
    obtain ⟨i, hi, hpi⟩ := fb_ct_pos.mp (show 0 < fb_ct p n by omega)
    refine ⟨⟨i, hi, hpi⟩, ?_⟩
    have main : ∀ i j, i < j → j < n → p i = true → p j = true → False := by
      intro i j hij hj h1 h2
      have a1 : fb_ct p (i + 1) = fb_ct p i + 1 := by rw [fb_ct_succ, if_pos h1]
      have a2 : fb_ct p (j + 1) = fb_ct p j + 1 := by rw [fb_ct_succ, if_pos h2]
      have a3 := fb_ct_mono p (show i + 1 ≤ j by omega)
      have a4 := fb_ct_mono p (show j + 1 ≤ n by omega)
      omega
    intro i j hi hj h1 h2
    rcases Nat.lt_trichotomy i j with z | z | z
    · exact (main i j z hj h1 h2).elim
    · exact z
    · exact (main j i z hi h2 h1).elim
  · rintro ⟨⟨i, hi, hpi⟩, hu⟩
    have e : fb_ct p n = fb_ct (fun e => p e && e == i) n := fb_ct_cong (fun j hj => by
      cases hpj : p j with
      | false => rfl
      | true => rw [hu j i hj hi hpj hpi]; simp)
    rw [e, fb_ct_one p hi, if_pos hpi]
theorem lr_deg_pos {w h : Nat} {st : Nat → Nat} {p : Nat} : 0 < tb_at w h st p 1 ↔ ∃ e, e < tb_ne w h ∧ st e = 1 ∧ (tb_one w h e = p ∨ tb_oth w h e = p) := by
  unfold tb_at
  rw [fb_ct_pos]
  constructor
  · rintro ⟨e, he, hb⟩
    unfold tb_atB at hb
    rw [Bool.and_eq_true, Bool.or_eq_true, beq_iff_eq, beq_iff_eq, beq_iff_eq] at hb
    exact ⟨e, he, hb.2, hb.1⟩
  · rintro ⟨e, he, h1, h2⟩
    refine ⟨e, he, ?_⟩
    unfold tb_atB
    rw [Bool.and_eq_true, Bool.or_eq_true, beq_iff_eq, beq_iff_eq, beq_iff_eq]
    exact ⟨h2, h1⟩
theorem lr_join {w h : Nat} {st : Nat → Nat} {e p : Nat} (he : e < tb_ne w h) (h1 : st e = 1) (hp : tb_one w h e = p ∨ tb_oth w h e = p) : tb_L w h (tb_isL st) p = tb_L w h (tb_isL st) (tb_one w h e) := by
  have := lb_join (w := w) (h := h) (S := tb_isL st) (tb_ne w h) e he (by unfold tb_isL; rw [h1]; rfl)
  rcases hp with z | z
  · rw [z]
  · rw [← z]; exact this.symm
theorem lr_way {w h : Nat} {st : Nat → Nat} {p : Nat} : tb_wayB w h st p = true ↔ tb_L w h (tb_isL st) p = p ∧ 0 < tb_at w h st p 1 := by
  unfold tb_wayB tb_deg
  rw [Bool.and_eq_true, beq_iff_eq, decide_eq_true_eq]
/-- a line's way -/
theorem lr_way_of {w h : Nat} (k : lr_k w h) {st : Nat → Nat} {e : Nat} (he : e < tb_ne w h) (h1 : st e = 1) : tb_wayB w h st (tb_L w h (tb_isL st) (tb_one w h e)) = true ∧ tb_L w h (tb_isL st) (tb_one w h e) < tb_np w h := by
  have hs := dv_same_S w h st
  have h2 := dv_way_of (S := dv_S w h st 1) he (by rw [dv_S_bit he, h1]; rfl)
  rw [dv_same_L hs] at h2
  rw [dv_same_way hs] at h2
  exact ⟨h2, Nat.lt_of_le_of_lt (tb_lab_le _ _ _ _ _) (lr_ends k he).2.2.1⟩
theorem lr_lp_eq {w h : Nat} (k : lr_k w h) (st : Nat → Nat) : lr_lp w h st = tb_isLoop w h st := by
  rw [Bool.eq_iff_iff]
  unfold lr_lp tb_isLoop
  rw [Bool.and_eq_true, Bool.and_eq_true, decide_eq_true_eq, tb_allI, tb_allI, beq_iff_eq]
  have hB : ∀ f, f < tb_ne w h → ∀ e, lr_lpB w h st (lr_rc w h (lr_T st (-1)) (tb_one w h f)) e = true ↔ (st e = 1 → tb_L w h (tb_isL st) (tb_one w h e) = tb_L w h (tb_isL st) (tb_one w h f) ∧ tb_at w h st (tb_one w h e) 1 = 2 ∧ tb_at w h st (tb_oth w h e) 1 = 2) := by
    intro f hf e
    unfold lr_lpB
    rw [lr_rc_b k (lr_ends k hf).1, lr_T1 k]
    rw [Bool.or_eq_true, Bool.not_eq_true', Bool.and_eq_true, Bool.and_eq_true, beq_iff_eq, beq_iff_eq, beq_iff_eq, beq_eq_false_iff_ne]
    constructor
    · intro q h1
      exact q.resolve_left (fun z => z h1)
    · intro q
      by_cases h1 : st e = 1
      · exact Or.inr (q h1)
      · exact Or.inl h1
  constructor
  · rintro ⟨hf, hall⟩
    have hst : st (fa_first (fun e => st e == 1) (tb_ne w h)) = 1 := by
      have := fa_first_yes _ _ hf
      simpa using this
    generalize hfe : fa_first (fun e => st e == 1) (tb_ne w h) = f at hf hall hst
    have hall2 : ∀ e, e < tb_ne w h → st e = 1 → _ := fun e he => (hB f hf e).mp (hall e he)
    refine ⟨fun p hp => ?_, ?_⟩
    · rw [Bool.or_eq_true, beq_iff_eq, beq_iff_eq]
      unfold tb_deg
      rcases Nat.eq_zero_or_pos (tb_at w h st p 1) with z | z
      · exact Or.inl z
      · obtain ⟨e, he, h1, h2 | h2⟩ := lr_deg_pos.mp z
        · rw [← h2]; exact Or.inr (hall2 e he h1).2.1
        · rw [← h2]; exact Or.inr (hall2 e he h1).2.2
    · unfold tb_ways
      refine lr_ct1.mpr ⟨⟨_, (lr_way_of k hf hst).2, (lr_way_of k hf hst).1⟩, ?_⟩
      have one : ∀ i, i < tb_np w h → tb_wayB w h st i = true → i = tb_L w h (tb_isL st) (tb_one w h f) := by
        intro i hi hb
        obtain ⟨h1, h2⟩ := lr_way.mp hb
        obtain ⟨e, he, h3, h4⟩ := lr_deg_pos.mp h2
        rw [← h1, lr_join he h3 h4]
        exact (hall2 e he h3).1
      intro i j hi hj h1 h2
      rw [one i hi h1, one j hj h2]
  · rintro ⟨hdeg, hw⟩
    unfold tb_ways at hw
    obtain ⟨⟨c, hc, hcb⟩, hu⟩ := lr_ct1.mp hw
    obtain ⟨-, hcd⟩ := lr_way.mp hcb
    obtain ⟨e0, he0, h10, -⟩ := lr_deg_pos.mp hcd
    have hf : fa_first (fun e => st e == 1) (tb_ne w h) < tb_ne w h := by
      rcases Nat.lt_or_ge (fa_first (fun e => st e == 1) (tb_ne w h)) (tb_ne w h) with z | z
      · exact z
      · have := fa_first_no (fun e => st e == 1) (tb_ne w h) e0 (by omega)
        simp [h10] at this
    have hst : st (fa_first (fun e => st e == 1) (tb_ne w h)) = 1 := by
      have := fa_first_yes _ _ hf
      simpa using this
    generalize hfe : fa_first (fun e => st e == 1) (tb_ne w h) = f at hf hst
    refine ⟨hf, fun e he => (hB f hf e).mpr (fun h1 => ?_)⟩
    have two : ∀ p, p < tb_np w h → (tb_one w h e = p ∨ tb_oth w h e = p) → tb_at w h st p 1 = 2 := by
      intro p hp hq
      have h5 := hdeg p hp
      rw [Bool.or_eq_true, beq_iff_eq, beq_iff_eq] at h5
      unfold tb_deg at h5
      have h6 : 0 < tb_at w h st p 1 := lr_deg_pos.mpr ⟨e, he, h1, hq⟩
      omega
    exact ⟨hu _ _ (lr_way_of k he h1).2 (lr_way_of k hf hst).2 (lr_way_of k he h1).1 (lr_way_of k hf hst).1, two _ (lr_ends k he).2.2.1 (Or.inl rfl), two _ (lr_ends k he).2.2.2.1 (Or.inr rfl)⟩
