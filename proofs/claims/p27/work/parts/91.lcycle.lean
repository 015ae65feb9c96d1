/-! a line whose ends meet elsewhere too lies on a loop: counts of points, lines and ways -/
def lr_sum (f : Nat → Nat) : Nat → Nat
  | 0 => 0
  | n + 1 => lr_sum f n + f n
theorem lr_sum_cong {f g : Nat → Nat} : ∀ {n : Nat}, (∀ i, i < n → f i = g i) → lr_sum f n = lr_sum g n
  | 0, _ => rfl
  | n + 1, h => by rw [lr_sum, lr_sum, lr_sum_cong (fun i hi => h i (by omega)), h n (by omega)]
theorem lr_sum_add (f g : Nat → Nat) : ∀ n, lr_sum (fun i => f i + g i) n = lr_sum f n + lr_sum g n
  | 0 => rfl
  | n + 1 => by rw [lr_sum, lr_sum, lr_sum, lr_sum_add f g n]; omega
theorem lr_sum_0 : ∀ n, lr_sum (fun _ => 0) n = 0
  | 0 => rfl
  | n + 1 => by rw [lr_sum, lr_sum_0 n]
theorem lr_sum_swap (F : Nat → Nat → Nat) (m : Nat) : ∀ n, lr_sum (fun q => lr_sum (F q) m) n = lr_sum (fun e => lr_sum (fun q => F q e) n) m
  | 0 => by
    show 0 = lr_sum (fun _ => 0) m
    rw [lr_sum_0]
  | n + 1 => by
    rw [lr_sum, lr_sum_swap F m n, ← lr_sum_add]
    rfl
theorem lr_ct_sum (p : Nat → Bool) : ∀ n, fb_ct p n = lr_sum (fun i => if p i = true then 1 else 0) n
  | 0 => rfl
  | n + 1 => by rw [fb_ct_succ, lr_sum, lr_ct_sum p n]
theorem lr_sum_le {f g : Nat → Nat} : ∀ {n : Nat}, (∀ i, i < n → f i ≤ g i) → lr_sum f n ≤ lr_sum g n
  | 0, _ => Nat.le_refl _
  | n + 1, h => by
    have := lr_sum_le (f := f) (g := g) (n := n) (fun i hi => h i (by omega))
    have := h n (by omega)
    rw [lr_sum, lr_sum]
    omega
theorem lr_sum_lt {f g : Nat → Nat} {a : Nat} : ∀ {n : Nat}, (∀ i, i < n → f i ≤ g i) → a < n → f a < g a → lr_sum f n < lr_sum g n
  | 0, _, ha, _ => absurd ha (Nat.not_lt_zero _)
  | n + 1, h, ha, hl => by
    have h1 := h n (by omega)
    rw [lr_sum, lr_sum]
    rcases Nat.lt_or_ge a n with z | z
    · have := lr_sum_lt (f := f) (g := g) (n := n) (fun i hi => h i (by omega)) z hl
      omega
    · have e : a = n := by omega
      subst e
      have := lr_sum_le (f := f) (g := g) (n := a) (fun i hi => h i (by omega))
      omega
theorem lr_sum_at {v a : Nat} : ∀ {n : Nat}, a < n → lr_sum (fun i => if i = a then v else 0) n = v
  | 0, ha => absurd ha (Nat.not_lt_zero _)
  | n + 1, ha => by
    rw [lr_sum]
    rcases Nat.lt_or_ge a n with z | z
    · rw [lr_sum_at z, if_neg (by omega)]
      rfl
    · have e : a = n := by omega
      subst e
      rw [if_pos rfl, lr_sum_cong (g := fun _ => 0) (fun i hi => if_neg (by omega)), lr_sum_0, Nat.zero_add]
theorem lr_sum_2 (D : Nat → Bool) : ∀ n, lr_sum (fun q => if D q = true then 2 else 0) n = 2 * fb_ct D n
  | 0 => rfl
  | n + 1 => by
    rw [lr_sum, lr_sum_2 D n, fb_ct_succ]
    cases D n <;> simp <;> omega
/-- each line has two ends -/
theorem lr_shake {w h : Nat} (k : lr_k w h) {S D : Nat → Bool} (hD : ∀ e, e < tb_ne w h → S e = true → D (tb_one w h e) = D (tb_oth w h e)) (hne : ∀ e, e < tb_ne w h → tb_one w h e ≠ tb_oth w h e) :
    lr_sum (fun q => if D q = true then fb_ct (fun e => S e && dv_inc w h q e) (tb_ne w h) else 0) (tb_np w h) = 2 * fb_ct (fun e => S e && D (tb_one w h e)) (tb_ne w h) := by
  have e1 : lr_sum (fun q => if D q = true then fb_ct (fun e => S e && dv_inc w h q e) (tb_ne w h) else 0) (tb_np w h) = lr_sum (fun q => lr_sum (fun e => if D q = true ∧ S e = true ∧ dv_inc w h q e = true then 1 else 0) (tb_ne w h)) (tb_np w h) := by
    refine lr_sum_cong (fun q _ => ?_)
    cases hq : D q with
    | false => simp [lr_sum_0]
    | true =>
      simp only [if_true, true_and]
      rw [lr_ct_sum]
      refine lr_sum_cong (fun e _ => ?_)
      simp only [Bool.and_eq_true]
  rw [e1, lr_sum_swap, ← lr_sum_2]
  refine lr_sum_cong (fun e he => ?_)
  have hq := lr_ends k he
  cases hS : S e with
  | false => simp [lr_sum_0]
  | true =>
    rw [Bool.true_and]
    have e2 : lr_sum (fun q => if D q = true ∧ true = true ∧ dv_inc w h q e = true then 1 else 0) (tb_np w h) = lr_sum (fun q => (if q = tb_one w h e then (if D (tb_one w h e) = true then 1 else 0) else 0) + (if q = tb_oth w h e then (if D (tb_oth w h e) = true then 1 else 0) else 0)) (tb_np w h) := by
      refine lr_sum_cong (fun q _ => ?_)
      have hd := dv_inc_y (w := w) (h := h) (q := q) (e := e)
      have hn := hne e he
      by_cases h1 : q = tb_one w h e
      · subst h1
        rw [if_pos rfl, if_neg hn]
        simp only [hd.mpr (Or.inl rfl), and_true, true_and]
        rfl
      · by_cases h2 : q = tb_oth w h e
        · subst h2
          rw [if_neg h1, if_pos rfl]
          simp only [hd.mpr (Or.inr rfl), and_true, true_and]
          rw [Nat.zero_add]
        · rw [if_neg h1, if_neg h2, if_neg (fun z => ?_)]
          rcases hd.mp z.2.2 with y | y
          · exact h1 y.symm
          · exact h2 y.symm
    rw [e2, lr_sum_add, lr_sum_at hq.2.2.1, lr_sum_at hq.2.2.2.1, ← hD e he hS]
    cases D (tb_one w h e) <;> rfl
theorem lr_apart {w h : Nat} {e : Nat} : tb_one w h e ≠ tb_oth w h e := by
  unfold tb_oth
  split <;> omega
/-- lines join at most one way a line -/
theorem lr_ct_but {p q : Nat → Bool} {n a : Nat} (h : ∀ i, i < n → i ≠ a → p i = true → q i = true) : fb_ct p n ≤ fb_ct q n + 1 := by
  have h1 : fb_ct p n ≤ fb_ct (fun k => if k = a then true else q k) n := fb_ct_sub (fun i hi hp => by
    by_cases z : i = a
    · simp [z]
    · simp [z, h i hi z hp])
  rcases Nat.lt_or_ge a n with z | z
  · have h2 := fb_ct_upd q true z
    simp only [if_true] at h2
    omega
  · rw [fb_ct_out q true z] at h1
    omega
theorem lr_roots {w h : Nat} {S : Nat → Bool} : ∀ j, tb_np w h ≤ fb_ct (fun p => tb_lab w h S j p == p) (tb_np w h) + fb_ct S j
  | 0 => by
    have : fb_ct (fun p => tb_lab w h S 0 p == p) (tb_np w h) = tb_np w h := fb_ct_all.mpr (fun p _ => by simp [tb_lab])
    omega
  | j + 1 => by
    have ih := lr_roots (w := w) (h := h) (S := S) j
    have hm := fb_ct_mono S (show j ≤ j + 1 by omega)
    by_cases hn : S j = true ∧ tb_lab w h S j (tb_one w h j) ≠ tb_lab w h S j (tb_oth w h j)
    · have h1 : fb_ct S (j + 1) = fb_ct S j + 1 := by rw [fb_ct_succ, if_pos hn.1]
      have h2 := lr_ct_but (p := fun p => tb_lab w h S j p == p) (q := fun p => tb_lab w h S (j + 1) p == p) (n := tb_np w h) (a := tb_hi (tb_lab w h S j (tb_one w h j)) (tb_lab w h S j (tb_oth w h j))) (fun i _ hi hp => by
        have hp2 : tb_lab w h S j i = i := by simpa using hp
        rw [tb_lab_y hn.1 hn.2, hp2, if_neg hi]
        simp)
      omega
    · have h2 : fb_ct (fun p => tb_lab w h S (j + 1) p == p) (tb_np w h) = fb_ct (fun p => tb_lab w h S j p == p) (tb_np w h) := fb_ct_cong (fun p _ => by rw [tb_lab_n hn])
      omega
theorem lr_ct_le1 {p : Nat → Bool} {n : Nat} (h : ∀ i j, i < n → j < n → p i = true → p j = true → i = j) : fb_ct p n ≤ 1 := by
  rcases Nat.eq_zero_or_pos (fb_ct p n) with z | z
  · omega
  · obtain ⟨i, hi, hp⟩ := fb_ct_pos.mp z
    rw [lr_ct1.mpr ⟨⟨i, hi, hp⟩, h⟩]
    exact Nat.le_refl _
theorem lr_ct_two (p q : Nat → Bool) (n : Nat) : fb_ct p n = fb_ct (fun k => p k && q k) n + fb_ct (fun k => p k && !q k) n := by
  rw [← fb_ct_or (fun k _ z => by
    obtain ⟨z1, z2⟩ := z
    cases hq : q k <;> simp [hq] at z1 z2)]
  exact fb_ct_cong (fun k _ => by cases p k <;> cases q k <;> rfl)
theorem lr_Te {w h : Nat} (k : lr_k w h) {st : Nat → Nat} {e j : Nat} (he : e < tb_ne w h) (hj : j < tb_ne w h) : lr_T st (nI e) j = (tb_isL st j && !(j == e)) := by
  have hz := lr_sz k
  have h1 : (nI j == nI e) = (j == e) := by
    rw [Bool.eq_iff_iff, beq_iff_eq, beq_iff_eq]
    exact nI_eq (by omega) (by omega)
  unfold lr_T tb_isL
  rw [h1]
theorem lr_joinT {w h : Nat} {S : Nat → Bool} {e : Nat} (he : e < tb_ne w h) (hS : S e = true) : tb_L w h S (tb_one w h e) = tb_L w h S (tb_oth w h e) := lb_join (tb_ne w h) e he hS
theorem lr_at_ct {w h : Nat} {st : Nat → Nat} {q : Nat} : tb_at w h st q 1 = fb_ct (fun e => tb_isL st e && dv_inc w h q e) (tb_ne w h) := fb_ct_cong (fun e _ => by
  unfold tb_atB tb_isL dv_inc
  rw [Bool.and_comm])
theorem lr_cyc1 {w h : Nat} (k : lr_k w h) {st : Nat → Nat} (hdeg : ∀ p, p < tb_np w h → tb_at w h st p 1 ≤ 2) {e : Nat} (he : e < tb_ne w h) (h1 : st e = 1) (hL : tb_L w h (lr_T st (nI e)) (tb_oth w h e) = tb_L w h (lr_T st (nI e)) (tb_one w h e)) :
    ∀ q, q < tb_np w h → tb_L w h (tb_isL st) q = tb_L w h (tb_isL st) (tb_one w h e) → tb_at w h st q 1 = 2 := by
  have hse : tb_isL st e = true := by unfold tb_isL; rw [h1]; rfl
  have hD : ∀ j, j < tb_ne w h → tb_isL st j = true → (tb_L w h (tb_isL st) (tb_one w h j) == tb_L w h (tb_isL st) (tb_one w h e)) = (tb_L w h (tb_isL st) (tb_oth w h j) == tb_L w h (tb_isL st) (tb_one w h e)) := fun j hj hs => by rw [lr_joinT hj hs]
  generalize hDD : (fun q => tb_L w h (tb_isL st) q == tb_L w h (tb_isL st) (tb_one w h e)) = D
  have hDq : ∀ q, D q = true ↔ tb_L w h (tb_isL st) q = tb_L w h (tb_isL st) (tb_one w h e) := fun q => by rw [← hDD]; exact beq_iff_eq
  have hD2 : ∀ j, j < tb_ne w h → tb_isL st j = true → D (tb_one w h j) = D (tb_oth w h j) := fun j hj hs => by rw [← hDD]; exact hD j hj hs
  have hDe : D (tb_one w h e) = true := (hDq _).mpr rfl
  generalize hSS : (fun j => (tb_isL st j && !(j == e)) && D (tb_one w h j)) = S
  have hSj : ∀ j, S j = ((tb_isL st j && !(j == e)) && D (tb_one w h j)) := fun j => by rw [← hSS]
  have hSy : ∀ j, S j = true ↔ (tb_isL st j = true ∧ j ≠ e) ∧ D (tb_one w h j) = true := fun j => by
    rw [hSj, Bool.and_eq_true, Bool.and_eq_true, Bool.not_eq_true', beq_eq_false_iff_ne]
  -- all points of the way hang together without e
  have F2a : tb_L w h S (tb_oth w h e) = tb_L w h S (tb_one w h e) := by
    have := (lb_ind (S := lr_T st (nI e)) (P := fun x => D x = true ∧ tb_L w h S x = tb_L w h S (tb_one w h e)) (tb_ne w h) (fun j hj hT => by
      rw [lr_Te k he hj, Bool.and_eq_true, Bool.not_eq_true', beq_eq_false_iff_ne] at hT
      have h2 := hD2 j hj hT.1
      constructor
      · rintro ⟨a, b⟩
        exact ⟨by rw [← h2]; exact a, by rw [← lr_joinT hj ((hSy j).mpr ⟨hT, a⟩)]; exact b⟩
      · rintro ⟨a, b⟩
        have a2 : D (tb_one w h j) = true := by rw [h2]; exact a
        exact ⟨a2, by rw [lr_joinT hj ((hSy j).mpr ⟨hT, a2⟩)]; exact b⟩) (tb_one w h e) (tb_oth w h e) hL.symm).mp ⟨hDe, rfl⟩
    exact this.2
  have F2 : ∀ q, D q = true → tb_L w h S q = tb_L w h S (tb_one w h e) := by
    intro q hq
    refine (lb_ind (S := tb_isL st) (P := fun x => D x = true → tb_L w h S x = tb_L w h S (tb_one w h e)) (tb_ne w h) (fun j hj hT => ?_) (tb_one w h e) q ((hDq q).mp hq).symm).mp (fun _ => rfl) hq
    have h2 := hD2 j hj hT
    by_cases hje : j = e
    · subst hje
      exact ⟨fun _ _ => F2a, fun _ _ => rfl⟩
    · constructor
      · intro a b
        have b2 : D (tb_one w h j) = true := by rw [h2]; exact b
        rw [← lr_joinT hj ((hSy j).mpr ⟨⟨hT, hje⟩, b2⟩)]
        exact a b2
      · intro a b
        rw [lr_joinT hj ((hSy j).mpr ⟨⟨hT, hje⟩, b⟩)]
        exact a (by rw [← h2]; exact b)
  have F4 := lr_roots (w := w) (h := h) (S := S) (tb_ne w h)
  have F3a : fb_ct (fun p => (tb_lab w h S (tb_ne w h) p == p) && D p) (tb_np w h) ≤ 1 := lr_ct_le1 (fun i j _ _ hi hj => by
    rw [Bool.and_eq_true, beq_iff_eq] at hi hj
    have a1 := F2 i hi.2
    have a2 := F2 j hj.2
    unfold tb_L at a1 a2
    rw [← hi.1, ← hj.1, a1, a2])
  have F3b : fb_ct (fun p => (tb_lab w h S (tb_ne w h) p == p) && !D p) (tb_np w h) ≤ fb_ct (fun p => !D p) (tb_np w h) := fb_ct_sub (fun i _ hi => by
    rw [Bool.and_eq_true] at hi
    exact hi.2)
  have F3 := lr_ct_two (fun p => tb_lab w h S (tb_ne w h) p == p) D (tb_np w h)
  have F5 : fb_ct S (tb_ne w h) + 1 = fb_ct (fun j => tb_isL st j && D (tb_one w h j)) (tb_ne w h) := by
    have a := fb_ct_upd (fun j => tb_isL st j && D (tb_one w h j)) false he
    simp only [hse, hDe, Bool.and_self, if_true] at a
    have b : fb_ct S (tb_ne w h) = fb_ct (fun j => if j = e then false else tb_isL st j && D (tb_one w h j)) (tb_ne w h) := fb_ct_cong (fun j _ => by
      rw [hSj]
      by_cases z : j = e
      · simp [z]
      · have z2 : (j == e) = false := beq_eq_false_iff_ne.mpr z
        rw [z2, if_neg z]
        simp)
    rw [b]
    simpa using a
  have F6 := fb_ct_not D (tb_np w h)
  have F7 := lr_shake k (S := tb_isL st) (D := D) hD2 (fun _ _ => lr_apart)
  have hle : ∀ q, q < tb_np w h → (if D q = true then fb_ct (fun e => tb_isL st e && dv_inc w h q e) (tb_ne w h) else 0) ≤ (if D q = true then 2 else 0) := by
    intro q hq
    have := hdeg q hq
    rw [lr_at_ct] at this
    split
    · exact this
    · exact Nat.le_refl _
  intro q hq hLq
  have hDq2 := (hDq q).mpr hLq
  apply Classical.byContradiction
  intro hne
  have hlt : tb_at w h st q 1 < 2 := by have := hdeg q hq; omega
  rw [lr_at_ct] at hlt
  have F8 := lr_sum_lt hle hq (by rw [if_pos hDq2, if_pos hDq2]; exact hlt)
  rw [F7, lr_sum_2] at F8
  omega
theorem lr_cyc2 {w h : Nat} (k : lr_k w h) {st : Nat → Nat} {e : Nat} (he : e < tb_ne w h) (h1 : st e = 1) (hall : ∀ q, q < tb_np w h → tb_L w h (tb_isL st) q = tb_L w h (tb_isL st) (tb_one w h e) → tb_at w h st q 1 = 2) :
    tb_L w h (lr_T st (nI e)) (tb_oth w h e) = tb_L w h (lr_T st (nI e)) (tb_one w h e) := by
  apply Classical.byContradiction
  intro hL
  have hse : tb_isL st e = true := by unfold tb_isL; rw [h1]; rfl
  generalize hDD : (fun q => tb_L w h (lr_T st (nI e)) q == tb_L w h (lr_T st (nI e)) (tb_one w h e)) = D
  have hDq : ∀ q, D q = true ↔ tb_L w h (lr_T st (nI e)) q = tb_L w h (lr_T st (nI e)) (tb_one w h e) := fun q => by rw [← hDD]; exact beq_iff_eq
  have hDe : D (tb_one w h e) = true := (hDq _).mpr rfl
  have hDo : ¬ D (tb_oth w h e) = true := fun z => hL ((hDq _).mp z)
  have hD2 : ∀ j, j < tb_ne w h → lr_T st (nI e) j = true → D (tb_one w h j) = D (tb_oth w h j) := fun j hj hT => by
    rw [← hDD]
    show (_ == _) = (_ == _)
    rw [lr_joinT hj hT]
  have hsub : ∀ q, D q = true → tb_L w h (tb_isL st) q = tb_L w h (tb_isL st) (tb_one w h e) := by
    intro q hq
    refine (lb_ind (S := lr_T st (nI e)) (P := fun x => tb_L w h (tb_isL st) x = tb_L w h (tb_isL st) (tb_one w h e)) (tb_ne w h) (fun j hj hT => ?_) (tb_one w h e) q ((hDq q).mp hq).symm).mp rfl
    rw [lr_Te k he hj, Bool.and_eq_true] at hT
    rw [lr_joinT hj hT.1]
  have hq := lr_ends k he
  have F7 := lr_shake k (S := lr_T st (nI e)) (D := D) hD2 (fun _ _ => lr_apart)
  have F8 : lr_sum (fun q => (if D q = true then fb_ct (fun j => lr_T st (nI e) j && dv_inc w h q j) (tb_ne w h) else 0) + (if q = tb_one w h e then 1 else 0)) (tb_np w h) = lr_sum (fun q => if D q = true then 2 else 0) (tb_np w h) := by
    refine lr_sum_cong (fun q hqp => ?_)
    cases hd : D q with
    | false =>
      have z2 : q ≠ tb_one w h e := fun z => by rw [z, hDe] at hd; cases hd
      simp [z2]
    | true =>
      simp only [if_true]
      have a := hall q hqp (hsub q hd)
      rw [lr_at_ct] at a
      have b := fb_ct_upd (fun j => tb_isL st j && dv_inc w h q j) false he
      simp only [hse, Bool.true_and] at b
      have c : fb_ct (fun j => lr_T st (nI e) j && dv_inc w h q j) (tb_ne w h) = fb_ct (fun j => if j = e then false else tb_isL st j && dv_inc w h q j) (tb_ne w h) := fb_ct_cong (fun j hj => by
        rw [lr_Te k he hj]
        by_cases z : j = e
        · simp [z]
        · have z2 : (j == e) = false := beq_eq_false_iff_ne.mpr z
          rw [z2, if_neg z]
          simp)
      have d : dv_inc w h q e = true ↔ q = tb_one w h e := by
        rw [dv_inc_y]
        constructor
        · rintro (z | z)
          · exact z.symm
          · rw [← z] at hd; exact absurd hd hDo
        · intro z; exact Or.inl z.symm
      rw [c]
      by_cases z : q = tb_one w h e
      · rw [if_pos z]
        rw [if_pos (d.mpr z)] at b
        simp only [Bool.false_eq_true, if_false] at b
        omega
      · rw [if_neg z]
        rw [if_neg (fun y => z (d.mp y))] at b
        simp only [Bool.false_eq_true, if_false] at b
        omega
  rw [lr_sum_add, F7, lr_sum_at hq.2.2.1, lr_sum_2] at F8
  omega
theorem lr_rt_eq {w h : Nat} (k : lr_k w h) {num : Nat → Int32} (hnum : ∀ c, c < tb_nc w h → (num c < 0 ↔ num c = -1)) (st : Nat → Nat) : lr_rt w h num st (-1) = tb_right w h num st := by
  have hz := lr_sz k
  unfold lr_rt tb_right
  rw [Bool.eq_iff_iff, tb_allI, tb_allI]
  have : ∀ c, c < tb_nc w h → lr_rtB w h num st (-1) c = tb_rightB w h num st c := by
    intro c hc
    unfold lr_rtB tb_rightB
    have h1 : (nI c == (-1 : Int32)) = false := by rw [beq_eq_false_iff_ne]; exact nI_m1 (by omega)
    have h2 : decide (num c < 0) = (num c == -1) := by rw [Bool.eq_iff_iff, decide_eq_true_eq, beq_iff_eq]; exact hnum c hc
    rw [h1, h2, Bool.or_false]
  exact ⟨fun q c hc => by rw [← this c hc]; exact q c hc, fun q c hc => by rw [this c hc]; exact q c hc⟩
theorem lr_any_cong {p q : Nat → Bool} {n : Nat} (h : ∀ i, i < n → p i = q i) : (List.range n).any p = (List.range n).any q := by
  rw [Bool.eq_iff_iff, List.any_eq_true, List.any_eq_true]
  exact ⟨fun ⟨x, hx, hp⟩ => ⟨x, hx, by rw [← h x (List.mem_range.mp hx)]; exact hp⟩, fun ⟨x, hx, hp⟩ => ⟨x, hx, by rw [h x (List.mem_range.mp hx)]; exact hp⟩⟩
theorem lr_anyI {p : Nat → Bool} {n : Nat} : (List.range n).any p = true ↔ ∃ i, i < n ∧ p i = true := by
  rw [List.any_eq_true]
  exact ⟨fun ⟨x, hx, hp⟩ => ⟨x, List.mem_range.mp hx, hp⟩, fun ⟨x, hx, hp⟩ => ⟨x, List.mem_range.mpr hx, hp⟩⟩
theorem lr_eb_eq {w h : Nat} (k : lr_k w h) {num : Nat → Int32} (hnum : ∀ c, c < tb_nc w h → (num c < 0 ↔ num c = -1)) {st : Nat → Nat} (hp : (List.range (tb_np w h)).any (tb_ptBad w h st) = false) : (List.range (tb_ne w h)).any (lr_eb w h num st) = (tb_hasLoop w h st && (decide (1 < tb_ways w h st) || !tb_right w h num st)) := by
  have hdeg : ∀ p, p < tb_np w h → tb_at w h st p 1 ≤ 2 := by
    intro p hpp
    have h1 : tb_ptBad w h st p = false := by
      cases z : tb_ptBad w h st p with
      | false => rfl
      | true => rw [tb_anyT hpp z] at hp; cases hp
    rcases Nat.lt_or_ge 2 (tb_at w h st p 1) with z | z
    · rw [tb_ptBad_t (Or.inl z)] at h1; cases h1
    · exact z
  have hE : ∀ e, e < tb_ne w h → (lr_eb w h num st e = true ↔ st e = 1 ∧ tb_L w h (lr_T st (nI e)) (tb_oth w h e) = tb_L w h (lr_T st (nI e)) (tb_one w h e) ∧ (tb_right w h num st = false ∨ ∃ j, j < tb_ne w h ∧ st j = 1 ∧ tb_L w h (tb_isL st) (tb_one w h j) ≠ tb_L w h (tb_isL st) (tb_one w h e))) := by
    intro e he
    unfold lr_eb
    rw [lr_rt_eq k hnum, lr_rc_b k (lr_ends k he).1, Bool.and_eq_true, Bool.and_eq_true, Bool.or_eq_true, beq_iff_eq, beq_iff_eq, Bool.not_eq_true', lr_anyI]
    refine and_congr Iff.rfl (and_congr Iff.rfl (or_congr Iff.rfl ?_))
    constructor
    · rintro ⟨j, hj, hb⟩
      rw [lr_rc_b k (lr_ends k he).1, lr_T1 k, Bool.and_eq_true, Bool.not_eq_true', beq_iff_eq, beq_eq_false_iff_ne] at hb
      exact ⟨j, hj, hb.1, hb.2⟩
    · rintro ⟨j, hj, h1, h2⟩
      refine ⟨j, hj, ?_⟩
      rw [lr_rc_b k (lr_ends k he).1, lr_T1 k, Bool.and_eq_true, Bool.not_eq_true', beq_iff_eq, beq_eq_false_iff_ne]
      exact ⟨h1, h2⟩
  rw [Bool.eq_iff_iff, lr_anyI, Bool.and_eq_true, Bool.or_eq_true, decide_eq_true_eq, Bool.not_eq_true']
  unfold tb_hasLoop
  rw [lr_anyI]
  constructor
  · rintro ⟨e, he, hb⟩
    obtain ⟨h1, h2, h3⟩ := (hE e he).mp hb
    obtain ⟨hw1, hw2⟩ := lr_way_of k he h1
    have hc := lr_cyc1 k hdeg he h1 h2
    refine ⟨⟨_, hw2, ?_⟩, ?_⟩
    · unfold tb_closed
      rw [hw1, Bool.true_and]
      refine tb_allT (fun q hq => ?_)
      rw [Bool.or_eq_true, Bool.not_eq_true', beq_iff_eq, beq_eq_false_iff_ne]
      by_cases z : tb_L w h (tb_isL st) q = tb_L w h (tb_isL st) (tb_one w h e)
      · exact Or.inr (hc q hq z)
      · exact Or.inl z
    · rcases h3 with z | ⟨j, hj, hj1, hj2⟩
      · exact Or.inr z
      · left
        apply Classical.byContradiction
        intro hlt
        obtain ⟨v1, v2⟩ := lr_way_of k hj hj1
        have hpos : 0 < tb_ways w h st := fb_ct_pos.mpr ⟨_, hw2, hw1⟩
        have hone : fb_ct (tb_wayB w h st) (tb_np w h) = 1 := by unfold tb_ways at hlt hpos; omega
        exact hj2 ((lr_ct1.mp hone).2 _ _ v2 hw2 v1 hw1)
  · rintro ⟨⟨p, hpp, hcl⟩, h3⟩
    unfold tb_closed at hcl
    rw [Bool.and_eq_true, tb_allI] at hcl
    obtain ⟨hw, hall⟩ := hcl
    obtain ⟨hp1, hp2⟩ := lr_way.mp hw
    obtain ⟨e, he, h1, hinc⟩ := lr_deg_pos.mp hp2
    have hLe : tb_L w h (tb_isL st) (tb_one w h e) = p := by rw [← lr_join he h1 hinc]; exact hp1
    refine ⟨e, he, (hE e he).mpr ⟨h1, lr_cyc2 k he h1 (fun q hq hLq => ?_), ?_⟩⟩
    · have := hall q hq
      rw [Bool.or_eq_true, Bool.not_eq_true', beq_iff_eq, beq_eq_false_iff_ne] at this
      exact this.resolve_left (fun z => z (by rw [hLq, hLe]))
    · rcases h3 with z | z
      · right
        apply Classical.byContradiction
        intro hno
        have : tb_ways w h st ≤ 1 := by
          unfold tb_ways
          refine lr_ct_le1 ?_
          have one : ∀ i, i < tb_np w h → tb_wayB w h st i = true → i = p := by
            intro i hi hb
            obtain ⟨a1, a2⟩ := lr_way.mp hb
            obtain ⟨j, hj, b1, b2⟩ := lr_deg_pos.mp a2
            apply Classical.byContradiction
            intro hip
            exact hno ⟨j, hj, b1, fun y => hip (by rw [← a1, lr_join hj b1 b2, y, hLe])⟩
          intro i j hi hj a b
          rw [one i hi a, one j hj b]
        omega
      · exact Or.inl z
