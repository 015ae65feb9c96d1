/-! the ways of a set of lines, told by their labels -/
theorem dv_wayB_y {w h S c : Nat} : dv_wayB w h S c = true ↔ dv_L w h S c = c ∧ dv_deg w h S c ≠ 0 := by
  unfold dv_wayB
  rw [Bool.and_eq_true, beq_iff_eq, decide_eq_true_eq]
  exact ⟨fun ⟨a, b⟩ => ⟨a, by omega⟩, fun ⟨a, b⟩ => ⟨a, by omega⟩⟩
theorem dv_L_idem {w h S p : Nat} : dv_L w h S (dv_L w h S p) = dv_L w h S p := lb_idem _ _
theorem dv_deg_class {w h S p q : Nat} (e : dv_L w h S p = dv_L w h S q) (hq : dv_deg w h S q ≠ 0) : dv_deg w h S p ≠ 0 := by
  intro h0
  have hno : ∀ e, e < tb_ne w h → S.testBit e = true → ¬ dv_inc w h p e = true := fun e he hs hi => dv_deg_pos.mpr ⟨e, he, hs, hi⟩ h0
  have hP := dv_L_ind (w := w) (h := h) (S := S) (P := fun x => x = p) (fun e he hs => ⟨fun z => absurd (dv_inc_y.mpr (Or.inl z)) (hno e he hs), fun z => absurd (dv_inc_y.mpr (Or.inr z)) (hno e he hs)⟩) e
  have e2 : q = p := hP.mp rfl
  rw [e2] at hq
  exact hq h0
theorem dv_way_of {w h S e : Nat} (he : e < tb_ne w h) (hs : S.testBit e = true) : dv_wayB w h S (dv_L w h S (tb_one w h e)) = true :=
  dv_wayB_y.mpr ⟨dv_L_idem, dv_deg_class (q := tb_one w h e) dv_L_idem (dv_deg_pos.mpr ⟨e, he, hs, dv_inc_y.mpr (Or.inl rfl)⟩)⟩
theorem dv_way_edge {w h S c : Nat} (hc : dv_wayB w h S c = true) : ∃ e, e < tb_ne w h ∧ S.testBit e = true ∧ dv_inc w h c e = true ∧ dv_L w h S (tb_one w h e) = c := by
  obtain ⟨h1, h2⟩ := dv_wayB_y.mp hc
  obtain ⟨e, e1, e2, e3⟩ := dv_deg_pos.mp h2
  exact ⟨e, e1, e2, e3, by rw [← dv_L_at e1 e2 e3]; exact h1⟩
theorem dv_way_lt {w h S c : Nat} (hW : tb_W w h) (hc : dv_wayB w h S c = true) : c < tb_np w h := by
  obtain ⟨e, e1, e2, e3, _⟩ := dv_way_edge hc
  have hb := tb_ends hW e e1
  rcases dv_inc_y.mp e3 with z | z
  · rw [← z]; exact hb.1
  · rw [← z]; exact hb.2.1
theorem dv_sub_0 {w h S : Nat} {T : Nat → Bool} : dv_sub w h S T = 0 ↔ ∀ c, dv_wayB w h S c = true → T c = false := by
  constructor
  · intro h0 c hc
    obtain ⟨e, e1, e2, e3, e4⟩ := dv_way_edge hc
    cases ht : T c
    · rfl
    · have : (dv_sub w h S T).testBit e = true := dv_sub_y.mpr ⟨e1, e2, by rw [e4]; exact ht⟩
      rw [h0, Nat.zero_testBit] at this
      cases this
  · intro H
    apply bm_zero.mpr
    intro e he
    cases hs : S.testBit e
    · rfl
    · rw [Bool.true_and]; exact H _ (dv_way_of he hs)
theorem dv_sub_all {w h S : Nat} (hS : S < 2 ^ tb_ne w h) : dv_sub w h S (fun _ => true) = S := by
  unfold dv_sub
  rw [show (fun e => S.testBit e && true) = (fun e => S.testBit e) from funext fun e => Bool.and_true _]
  exact bm_self hS
theorem dv_minus_sub {w h S : Nat} (hW : tb_W w h) {T : Nat → Bool} {c : Nat} : dv_minus (dv_sub w h S T) (dv_sub w h S (fun x => x == c)) = dv_sub w h S (fun x => T x && !(x == c)) := by
  have hz := tb_sizes hW
  apply bm_ext
  intro e
  unfold dv_minus
  rw [bm_bit, dv_sub_bit, dv_sub_bit, dv_sub_bit]
  by_cases he : e < tb_ne w h
  · rw [decide_eq_true he, decide_eq_true (show e < 40 by omega)]
    cases S.testBit e <;> cases T (dv_L w h S (tb_one w h e)) <;> cases (dv_L w h S (tb_one w h e) == c) <;> rfl
  · rw [decide_eq_false he]
    simp
def dv_wn (w h S : Nat) (T : Nat → Bool) : Nat := fb_ct (fun c => dv_wayB w h S c && T c) (tb_np w h)
theorem dv_wn_0 {w h S : Nat} (hW : tb_W w h) {T : Nat → Bool} : dv_wn w h S T = 0 ↔ ∀ c, dv_wayB w h S c = true → T c = false := by
  unfold dv_wn
  rw [fb_ct_zero]
  constructor
  · intro H c hc
    have := H c (dv_way_lt hW hc)
    rw [hc, Bool.true_and] at this
    exact this
  · intro H c _
    cases hc : dv_wayB w h S c
    · rfl
    · rw [Bool.true_and]; exact H c hc
theorem dv_wn_step {w h S : Nat} (hW : tb_W w h) {T : Nat → Bool} {c : Nat} (hc : dv_wayB w h S c = true) (ht : T c = true) : dv_wn w h S T = dv_wn w h S (fun x => T x && !(x == c)) + 1 := by
  unfold dv_wn
  have o := fb_ct_or (p := fun x => dv_wayB w h S x && (T x && !(x == c))) (q := fun x => (dv_wayB w h S x && T x) && x == c) (n := tb_np w h) (fun i _ ⟨a, b⟩ => by
    simp only [Bool.and_eq_true, Bool.not_eq_true', beq_eq_false_iff_ne, beq_iff_eq] at a b
    exact a.2.2 b.2)
  rw [fb_ct_one (fun x => dv_wayB w h S x && T x) (dv_way_lt hW hc), if_pos (by rw [hc, ht]; rfl)] at o
  rw [← o]
  apply fb_ct_cong
  intro x _
  cases dv_wayB w h S x <;> cases T x <;> cases (x == c) <;> rfl
theorem dv_wn_le {w h S : Nat} (hW : tb_W w h) (T : Nat → Bool) : dv_wn w h S T ≤ 25 := Nat.le_trans (fb_ct_le _ _) (tb_sizes hW).2.2.2.1
/-- the class of the first edge, as a way -/
theorem dv_fw_way {w h S : Nat} (hW : tb_W w h) {T : Nat → Bool} (h0 : dv_sub w h S T ≠ 0) : ∃ c, dv_wayB w h S c = true ∧ T c = true ∧ dv_fw w h (dv_sub w h S T) = dv_sub w h S (fun x => x == c) := by
  obtain ⟨c, h1, ⟨e, e1, e2, e3⟩, h2⟩ := dv_fw_sub hW h0
  exact ⟨c, by rw [← e3]; exact dv_way_of e1 e2, h1, h2⟩
def dv_G (w h : Nat) (num : Nat → Int32) (S c : Nat) : Bool := dv_isLoop w h (dv_sub w h S (fun x => x == c)) && (!(dv_sub w h S (fun x => x == c) == S) || !dv_right w h num S (-1))
theorem dv_bl_iff {w h S : Nat} (hW : tb_W w h) (num : Nat → Int32) : ∀ k T, dv_wn w h S T ≤ k → (dv_bl w h num S k (dv_sub w h S T) = true ↔ ∃ c, dv_wayB w h S c = true ∧ T c = true ∧ dv_G w h num S c = true)
  | 0, T, hk => by
    have h0 := (dv_wn_0 hW).mp (Nat.le_zero.mp hk)
    constructor
    · intro q; cases q
    · rintro ⟨c, c1, c2, _⟩
      rw [h0 c c1] at c2; cases c2
  | k + 1, T, hk => by
    rw [dv_bl]
    by_cases h0 : dv_sub w h S T = 0
    · rw [if_pos h0]
      constructor
      · intro q; cases q
      · rintro ⟨c, c1, c2, _⟩
        rw [dv_sub_0.mp h0 c c1] at c2; cases c2
    · obtain ⟨c, c1, c2, c3⟩ := dv_fw_way hW h0
      rw [if_neg h0, c3, dv_minus_sub hW]
      change (if dv_G w h num S c = true then true else _) = true ↔ _
      by_cases hg : dv_G w h num S c = true
      · rw [if_pos hg]
        exact ⟨fun _ => ⟨c, c1, c2, hg⟩, fun _ => rfl⟩
      · rw [if_neg hg]
        have hs := dv_wn_step hW c1 c2
        rw [dv_bl_iff hW num k _ (by omega)]
        constructor
        · rintro ⟨x, x1, x2, x3⟩
          rw [Bool.and_eq_true] at x2
          exact ⟨x, x1, x2.1, x3⟩
        · rintro ⟨x, x1, x2, x3⟩
          refine ⟨x, x1, ?_, x3⟩
          rw [Bool.and_eq_true]
          refine ⟨x2, ?_⟩
          rw [Bool.not_eq_true', beq_eq_false_iff_ne]
          intro q
          rw [q] at x3
          exact hg x3
/-- how many ways: the class takes them away one by one -/
def dv_wc (w h : Nat) : Nat → Nat → Nat
  | 0, _ => 0
  | k + 1, R => if R = 0 then 0 else dv_wc w h k (dv_minus R (dv_fw w h R)) + 1
theorem dv_wc_eq {w h S : Nat} (hW : tb_W w h) : ∀ k T, dv_wn w h S T ≤ k → dv_wc w h k (dv_sub w h S T) = dv_wn w h S T
  | 0, T, hk => (Nat.le_zero.mp hk).symm
  | k + 1, T, hk => by
    rw [dv_wc]
    by_cases h0 : dv_sub w h S T = 0
    · rw [if_pos h0]
      exact ((dv_wn_0 hW).mpr (dv_sub_0.mp h0)).symm
    · obtain ⟨c, c1, c2, c3⟩ := dv_fw_way hW h0
      have hs := dv_wn_step hW c1 c2
      rw [if_neg h0, c3, dv_minus_sub hW, dv_wc_eq hW k _ (by omega)]
      omega
/-! one way: its ends, whether it is a loop -/
theorem dv_deg_sub {w h S c q : Nat} : dv_deg w h (dv_sub w h S (fun x => x == c)) q = if dv_L w h S q = c then dv_deg w h S q else 0 := by
  by_cases hq : dv_L w h S q = c
  · rw [if_pos hq]
    unfold dv_deg
    apply fb_ct_cong
    intro e he
    rw [dv_sub_bit, decide_eq_true he, Bool.true_and]
    cases hs : S.testBit e
    · rfl
    · cases hi : dv_inc w h q e
      · simp
      · rw [← dv_L_at he hs hi, hq]
        simp
  · rw [if_neg hq]
    apply fb_ct_zero.mpr
    intro e he
    rw [Bool.and_eq_false_iff]
    cases hi : dv_inc w h q e
    · exact Or.inr rfl
    · left
      rw [Bool.eq_false_iff]
      intro z
      obtain ⟨z1, z2, z3⟩ := dv_sub_y.mp z
      rw [← dv_L_at z1 z2 hi] at z3
      exact hq (eq_of_beq z3)
theorem dv_fw_one {w h S c : Nat} (hW : tb_W w h) (hc : dv_wayB w h S c = true) : dv_sub w h S (fun x => x == c) ≠ 0 ∧ dv_fw w h (dv_sub w h S (fun x => x == c)) = dv_sub w h S (fun x => x == c) := by
  have h0 : dv_sub w h S (fun x => x == c) ≠ 0 := fun q => by
    have := dv_sub_0.mp q c hc
    rw [beq_self_eq_true] at this; cases this
  obtain ⟨c', _, c2, c3⟩ := dv_fw_way hW h0
  refine ⟨h0, ?_⟩
  rw [c3, eq_of_beq c2]
theorem dv_isLoop_way {w h S c : Nat} (hW : tb_W w h) (hc : dv_wayB w h S c = true) : dv_isLoop w h (dv_sub w h S (fun x => x == c)) = (List.range (tb_np w h)).all (fun q => !(dv_L w h S q == c) || dv_deg w h S q == 2) := by
  obtain ⟨h1, h2⟩ := dv_fw_one hW hc
  have e2 : (!(dv_sub w h S (fun x => x == c) == 0) && dv_fw w h (dv_sub w h S (fun x => x == c)) == dv_sub w h S (fun x => x == c)) = true := by
    rw [h2, beq_self_eq_true, beq_eq_false_iff_ne.mpr h1]; rfl
  unfold dv_isLoop
  rw [e2, Bool.and_true]
  obtain ⟨c1, c2⟩ := dv_wayB_y.mp hc
  have hpt : ∀ q, (dv_deg w h (dv_sub w h S (fun x => x == c)) q == 0 || dv_deg w h (dv_sub w h S (fun x => x == c)) q == 2) = (!(dv_L w h S q == c) || dv_deg w h S q == 2) := by
    intro q
    rw [dv_deg_sub]
    by_cases hq : dv_L w h S q = c
    · have := dv_deg_class (p := q) (q := c) (hq.trans c1.symm) c2
      rw [if_pos hq, beq_eq_false_iff_ne.mpr this, hq, beq_self_eq_true]; rfl
    · rw [if_neg hq, beq_eq_false_iff_ne.mpr hq]; rfl
  rw [show (fun p => dv_deg w h (dv_sub w h S (fun x => x == c)) p == 0 || dv_deg w h (dv_sub w h S (fun x => x == c)) p == 2) = (fun q => !(dv_L w h S q == c) || dv_deg w h S q == 2) from funext hpt]
/-- a way is all lines just if there is no other -/
theorem dv_all_one {w h S c : Nat} (hW : tb_W w h) (hS : S < 2 ^ tb_ne w h) (hc : dv_wayB w h S c = true) : dv_sub w h S (fun x => x == c) = S ↔ dv_wn w h S (fun _ => true) = 1 := by
  have hs := dv_wn_step (T := fun _ => true) hW hc rfl
  have h1 : dv_wn w h S (fun _ => true) = 1 ↔ dv_wn w h S (fun x => true && !(x == c)) = 0 := by omega
  rw [h1, dv_wn_0 hW]
  constructor
  · intro q c' hc'
    obtain ⟨e, e1, e2, _, e4⟩ := dv_way_edge hc'
    have : (dv_sub w h S (fun x => x == c)).testBit e = true := by rw [q]; exact e2
    have := (dv_sub_y.mp this).2.2
    rw [e4] at this
    rw [this]; rfl
  · intro H
    apply bm_ext
    intro e
    rw [Bool.eq_iff_iff, dv_sub_y]
    constructor
    · exact fun q => q.2.1
    · intro hs
      have he : e < tb_ne w h := by
        rcases Nat.lt_or_ge e (tb_ne w h) with z | z
        · exact z
        · rw [bm_hi hS z] at hs; cases hs
      refine ⟨he, hs, ?_⟩
      have := H _ (dv_way_of he hs)
      simpa using this
/-! the class's and the reference's words -/
def dv_same (w h S : Nat) (st : Nat → Nat) : Prop := S < 2 ^ tb_ne w h ∧ ∀ e, e < tb_ne w h → S.testBit e = (st e == 1)
theorem dv_same_S (w h : Nat) (st : Nat → Nat) : dv_same w h (dv_S w h st 1) st := ⟨bm_lt _ _, fun _ he => dv_S_bit he⟩
theorem dv_same_L {w h S : Nat} {st : Nat → Nat} (hs : dv_same w h S st) (p : Nat) : dv_L w h S p = tb_L w h (tb_isL st) p := lb_cong _ hs.2 p
theorem dv_same_deg {w h S : Nat} {st : Nat → Nat} (hs : dv_same w h S st) (p : Nat) : dv_deg w h S p = tb_deg w h st p := by
  unfold dv_deg tb_deg tb_at
  refine fb_ct_cong (fun e he => ?_)
  rw [hs.2 e he]
  unfold tb_atB dv_inc
  exact Bool.and_comm _ _
theorem dv_same_way {w h S : Nat} {st : Nat → Nat} (hs : dv_same w h S st) (p : Nat) : dv_wayB w h S p = tb_wayB w h st p := by
  unfold dv_wayB tb_wayB
  rw [dv_same_L hs, dv_same_deg hs]
theorem dv_same_wn {w h S : Nat} {st : Nat → Nat} (hs : dv_same w h S st) : dv_wn w h S (fun _ => true) = tb_ways w h st := by
  unfold dv_wn tb_ways
  refine fb_ct_cong (fun c _ => ?_)
  rw [Bool.and_true, dv_same_way hs]
theorem dv_same_loop {w h S : Nat} {st : Nat → Nat} (hW : tb_W w h) (hs : dv_same w h S st) : dv_isLoop w h S = tb_isLoop w h st := by
  unfold dv_isLoop tb_isLoop
  rw [show (fun p => dv_deg w h S p == 0 || dv_deg w h S p == 2) = (fun p => tb_deg w h st p == 0 || tb_deg w h st p == 2) from funext fun p => by rw [dv_same_deg hs]]
  congr 1
  rw [← dv_same_wn hs, Bool.eq_iff_iff, Bool.and_eq_true, Bool.not_eq_true', beq_eq_false_iff_ne, beq_iff_eq, beq_iff_eq]
  have hall := dv_sub_all hs.1
  constructor
  · rintro ⟨h0, h1⟩
    obtain ⟨c, c1, _, c3⟩ := dv_fw_way (T := fun _ => true) hW (by rw [hall]; exact h0)
    rw [hall] at c3
    exact (dv_all_one hW hs.1 c1).mp (c3.symm.trans h1)
  · intro h1
    have h0 : S ≠ 0 := by
      intro q
      have := (dv_wn_0 (T := fun _ => true) hW).mpr (dv_sub_0.mp (hall.trans q))
      omega
    refine ⟨h0, ?_⟩
    obtain ⟨c, c1, _, c3⟩ := dv_fw_way (T := fun _ => true) hW (by rw [hall]; exact h0)
    rw [hall] at c3
    rw [c3]
    exact (dv_all_one hW hs.1 c1).mpr h1
theorem dv_same_right {w h S : Nat} {st : Nat → Nat} (hW : tb_W w h) (hs : dv_same w h S st) (num : Nat → Int32) : dv_right w h num S (-1) = tb_right w h num st := by
  have hz := tb_sizes hW
  unfold dv_right tb_right
  rw [Bool.eq_iff_iff, List.all_eq_true, List.all_eq_true]
  have hB : ∀ c, c < tb_nc w h → dv_rightB w h num S (-1) c = tb_rightB w h num st c := by
    intro c hc
    unfold dv_rightB tb_rightB
    have e1 : dv_arS w h S c = tb_ar w h st c 1 := by
      unfold dv_arS tb_ar
      rw [dv_around hW (fun e => S.testBit e) hc]
      exact fb_ct_cong (fun s hs4 => hs.2 _ (tb_sides hW c hc s hs4))
    have e2 : (nI c == (-1 : Int32)) = false := by
      rw [beq_eq_false_iff_ne]
      intro q
      have := congrArg Int32.toInt q
      rw [nI_toInt (by omega)] at this
      have e3 : (-1 : Int32).toInt = -1 := by decide
      omega
    rw [e1, e2, Bool.false_or]
  constructor
  · intro H c hc; rw [← hB c (List.mem_range.mp hc)]; exact H c hc
  · intro H c hc; rw [hB c (List.mem_range.mp hc)]; exact H c hc
/-- both call a state broken for the same reason -/
theorem dv_broken_eq {w h : Nat} (hW : tb_W w h) (num : Nat → Int32) (st : Nat → Nat) : dv_broken w h num st = tb_broken w h num st := by
  unfold dv_broken tb_broken
  have hs := dv_same_S w h st
  have e : dv_bl w h num (dv_S w h st 1) 40 (dv_S w h st 1) = (tb_hasLoop w h st && (decide (1 < tb_ways w h st) || !tb_right w h num st)) := by
    have hb := dv_bl_iff hW num (S := dv_S w h st 1) 40 (fun _ => true) (Nat.le_trans (dv_wn_le hW _) (by decide))
    rw [dv_sub_all hs.1] at hb
    rw [Bool.eq_iff_iff, hb, Bool.and_eq_true]
    have hG : ∀ c, dv_wayB w h (dv_S w h st 1) c = true → (dv_G w h num (dv_S w h st 1) c = true ↔ tb_closed w h st c = true ∧ (decide (1 < tb_ways w h st) || !tb_right w h num st) = true) := by
      intro c hc
      unfold dv_G tb_closed
      rw [dv_isLoop_way hW hc, dv_same_right hW hs, ← dv_same_way hs, hc, Bool.true_and, Bool.and_eq_true]
      rw [show (fun q => !(dv_L w h (dv_S w h st 1) q == c) || dv_deg w h (dv_S w h st 1) q == 2) = (fun q => !(tb_L w h (tb_isL st) q == c) || tb_deg w h st q == 2) from funext fun q => by rw [dv_same_L hs, dv_same_deg hs]]
      have h1 := dv_all_one hW hs.1 hc
      rw [dv_same_wn hs] at h1
      have h2 : 1 ≤ tb_ways w h st := by
        rw [← dv_same_wn hs]
        have := dv_wn_step (T := fun _ => true) hW hc rfl
        omega
      have e1 : (!(dv_sub w h (dv_S w h st 1) (fun x => x == c) == dv_S w h st 1)) = decide (1 < tb_ways w h st) := by
        rw [Bool.eq_iff_iff, Bool.not_eq_true', beq_eq_false_iff_ne, decide_eq_true_eq]
        constructor
        · intro q
          have : tb_ways w h st ≠ 1 := fun z => q (h1.mpr z)
          omega
        · intro q z
          have := h1.mp z
          omega
      rw [e1]
    constructor
    · rintro ⟨c, c1, _, c3⟩
      obtain ⟨g1, g2⟩ := (hG c c1).mp c3
      refine ⟨?_, g2⟩
      unfold tb_hasLoop
      rw [List.any_eq_true]
      exact ⟨c, List.mem_range.mpr (dv_way_lt hW c1), g1⟩
    · rintro ⟨g1, g2⟩
      unfold tb_hasLoop at g1
      rw [List.any_eq_true] at g1
      obtain ⟨c, _, c2⟩ := g1
      have c1 : dv_wayB w h (dv_S w h st 1) c = true := by
        rw [dv_same_way hs]
        have c3 := c2
        unfold tb_closed at c3
        rw [Bool.and_eq_true] at c3
        exact c3.1
      exact ⟨c, c1, rfl, (hG c c1).mpr ⟨c2, g2⟩⟩
  rw [e]
