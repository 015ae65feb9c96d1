/-! ALL LOOPS OF A BOARD: the borders of sets of cells, by a tree of choices -/
def dv_tree (w h : Nat) : Nat → Nat → Nat → List Nat
  | 0, _, S => if dv_isLoop w h S = true then [S] else []
  | k + 1, c, S => if S.testBit c = true then dv_tree w h k (c + 1) S ++ dv_tree w h k (c + 1) (S ^^^ dv_ea w h c) else dv_tree w h k (c + 1) (S ^^^ dv_ea w h c) ++ dv_tree w h k (c + 1) S
def dv_loops (w h : Nat) : List Nat := dv_tree w h (tb_nc w h) 0 0
theorem dv_ea_bit {w h a e : Nat} : (dv_ea w h a).testBit e = (decide (e < tb_ne w h) && dv_inA w h a e) := bm_bit _ _ _
theorem tb_cor_lt {w h : Nat} (hW : tb_W w h) : ∀ c, c < tb_nc w h → dv_cor w c < tb_np w h :=
  tb_all (P := fun w h => ∀ c, c < tb_nc w h → dv_cor w c < tb_np w h) (by decide +kernel) hW
theorem tb_cor_far {w h : Nat} (hW : tb_W w h) : ∀ c, c < tb_nc w h → ∀ d, d < tb_nc w h → c < d → ∀ e, e < tb_ne w h → (dv_inA w h d e && dv_inc w h (dv_cor w c) e) = false :=
  tb_all (P := fun w h => ∀ c, c < tb_nc w h → ∀ d, d < tb_nc w h → c < d → ∀ e, e < tb_ne w h → (dv_inA w h d e && dv_inc w h (dv_cor w c) e) = false) (by decide +kernel) hW
theorem tb_top {w h : Nat} (hW : tb_W w h) : ∀ c, c < tb_nc w h → c < tb_ne w h ∧ tb_bes w h c = c ∧ (tb_are w h c < c ∨ tb_are w h c = tb_nc w h) :=
  tb_all (P := fun w h => ∀ c, c < tb_nc w h → c < tb_ne w h ∧ tb_bes w h c = c ∧ (tb_are w h c < c ∨ tb_are w h c = tb_nc w h)) (by decide +kernel) hW
theorem tb_below {w h : Nat} (hW : tb_W w h) : ∀ c, c < tb_nc w h → ∀ e, e < c → dv_inA w h c e = false :=
  tb_all (P := fun w h => ∀ c, c < tb_nc w h → ∀ e, e < c → dv_inA w h c e = false) (by decide +kernel) hW
theorem dv_deg_xor {w h S a p : Nat} (H : ∀ e, e < tb_ne w h → (dv_inA w h a e && dv_inc w h p e) = false) : dv_deg w h (S ^^^ dv_ea w h a) p = dv_deg w h S p := by
  unfold dv_deg
  apply fb_ct_cong
  intro e he
  rw [Nat.testBit_xor, dv_ea_bit, decide_eq_true he, Bool.true_and]
  have := H e he
  revert this
  cases S.testBit e <;> cases dv_inA w h a e <;> cases dv_inc w h p e <;> simp
theorem dv_isLoop_deg {w h S p : Nat} (hp : p < tb_np w h) (hd : dv_deg w h S p ≠ 0 ∧ dv_deg w h S p ≠ 2) : dv_isLoop w h S = false := by
  unfold dv_isLoop
  rw [Bool.and_eq_false_iff]
  left
  rw [Bool.eq_false_iff]
  intro q
  have := List.all_eq_true.mp q p (List.mem_range.mpr hp)
  rw [Bool.or_eq_true, beq_iff_eq, beq_iff_eq] at this
  rcases this with z | z
  · exact hd.1 z
  · exact hd.2 z
theorem dv_tree_no {w h p : Nat} (hp : p < tb_np w h) : ∀ (k c S : Nat), c + k = tb_nc w h → (∀ d, c ≤ d → d < tb_nc w h → ∀ e, e < tb_ne w h → (dv_inA w h d e && dv_inc w h p e) = false) → (dv_deg w h S p ≠ 0 ∧ dv_deg w h S p ≠ 2) → dv_tree w h k c S = []
  | 0, c, S, _, _, hd => by
    rw [dv_tree, if_neg (by rw [dv_isLoop_deg hp hd]; decide)]
  | k + 1, c, S, hk, H, hd => by
    have h1 := dv_tree_no hp k (c + 1) S (by omega) (fun d hd1 hd2 => H d (by omega) hd2) hd
    have h2 := dv_tree_no hp k (c + 1) (S ^^^ dv_ea w h c) (by omega) (fun d hd1 hd2 => H d (by omega) hd2) (by rw [dv_deg_xor (H c (Nat.le_refl c) (by omega))]; exact hd)
    rw [dv_tree, h1, h2]
    split <;> rfl
/-- a fork at the corner of the cell decided last -/
theorem dv_tree_fork {w h : Nat} (hW : tb_W w h) {k c S : Nat} (hk : c + 1 + k = tb_nc w h) (hd : 2 < dv_deg w h S (dv_cor w c)) : dv_tree w h k (c + 1) S = [] :=
  dv_tree_no (tb_cor_lt hW c (by omega)) k (c + 1) S hk (fun d h1 h2 e he => tb_cor_far hW c (by omega) d h2 (by omega) e he) ⟨by omega, by omega⟩
theorem dv_tree_len (w h : Nat) : ∀ k c S, (dv_tree w h k c S).length ≤ 2 ^ k
  | 0, c, S => by rw [dv_tree]; split <;> simp
  | k + 1, c, S => by
    have h1 := dv_tree_len w h k (c + 1) S
    have h2 := dv_tree_len w h k (c + 1) (S ^^^ dv_ea w h c)
    rw [dv_tree, Nat.pow_succ]
    split <;> rw [List.length_append] <;> omega
theorem dv_xor_lt {w h S a : Nat} (hW : tb_W w h) (hS : S < 2 ^ 40) : S ^^^ dv_ea w h a < 2 ^ 40 := Nat.xor_lt_two_pow hS (dv_ea_lt hW a)
/-! which sets are in it -/
def dv_bd (w h C : Nat) : Nat := bm (fun e => C.testBit (tb_are w h e) != C.testBit (tb_bes w h e)) (tb_ne w h)
theorem dv_bd_bit {w h C e : Nat} (he : e < tb_ne w h) : (dv_bd w h C).testBit e = (C.testBit (tb_are w h e) != C.testBit (tb_bes w h e)) := by
  unfold dv_bd
  rw [bm_bit, decide_eq_true he, Bool.true_and]
theorem dv_bd_lt {w h C : Nat} : dv_bd w h C < 2 ^ tb_ne w h := bm_lt _ _
theorem dv_bd_flip {w h C c : Nat} (hW : tb_W w h) (h0 : C.testBit c = false) : dv_bd w h C ^^^ dv_ea w h c = dv_bd w h (C ||| 2 ^ c) := by
  apply bm_ext
  intro e
  rcases Nat.lt_or_ge e (tb_ne w h) with he | he
  · rw [Nat.testBit_xor, dv_bd_bit he, dv_bd_bit he, dv_ea_bit, decide_eq_true he, Bool.true_and, fb_bit_set, fb_bit_set]
    have hne := tb_apart2 hW e he
    unfold dv_inA
    by_cases q1 : tb_are w h e = c
    · have q2 : ¬ tb_bes w h e = c := fun z => hne (q1.trans z.symm)
      rw [q1, h0, beq_self_eq_true, decide_eq_true rfl, decide_eq_false q2]
      cases C.testBit (tb_bes w h e) <;> rfl
    · rw [beq_eq_false_iff_ne.mpr q1, decide_eq_false q1]
      by_cases q2 : tb_bes w h e = c
      · rw [q2, h0, beq_self_eq_true, decide_eq_true rfl]
        cases C.testBit (tb_are w h e) <;> rfl
      · rw [beq_eq_false_iff_ne.mpr q2, decide_eq_false q2]
        simp
  · rw [bm_hi dv_bd_lt he, Nat.testBit_xor, bm_hi dv_bd_lt he, dv_ea_bit, decide_eq_false (Nat.not_lt.mpr he)]; rfl
theorem dv_or_low {C c : Nat} (hC : C < 2 ^ c) : C ||| 2 ^ c < 2 ^ (c + 1) ∧ C.testBit c = false := by
  refine ⟨Nat.or_lt_two_pow (Nat.lt_of_lt_of_le hC (Nat.pow_le_pow_right (by decide) (by omega))) (Nat.pow_lt_pow_right (by decide) (by omega)), bm_hi hC (Nat.le_refl c)⟩
theorem dv_mem_tree {w h : Nat} (hW : tb_W w h) {x : Nat} : ∀ k c C0, c + k = tb_nc w h → C0 < 2 ^ c → (x ∈ dv_tree w h k c (dv_bd w h C0) ↔ dv_isLoop w h x = true ∧ ∃ C, C < 2 ^ tb_nc w h ∧ (∀ a, a < c → C.testBit a = C0.testBit a) ∧ x = dv_bd w h C)
  | 0, c, C0, hk, hC => by
    have e1 : c = tb_nc w h := by omega
    subst e1
    rw [dv_tree]
    constructor
    · intro hx
      split at hx
      · rename_i hl
        have hx2 := List.mem_singleton.mp hx
        exact ⟨by rw [hx2]; exact hl, C0, hC, fun _ _ => rfl, hx2⟩
      · cases hx
    · rintro ⟨hl, C, h1, h2, rfl⟩
      have : C = C0 := by
        apply bm_ext
        intro a
        rcases Nat.lt_or_ge a (tb_nc w h) with z | z
        · exact h2 a z
        · rw [bm_hi h1 z, bm_hi hC z]
      rw [this] at hl
      rw [if_pos hl, this]
      exact List.mem_singleton.mpr rfl
  | k + 1, c, C0, hk, hC => by
    obtain ⟨o1, o2⟩ := dv_or_low hC
    have i1 := dv_mem_tree hW (x := x) k (c + 1) C0 (by omega) (Nat.lt_of_lt_of_le hC (Nat.pow_le_pow_right (by decide) (by omega)))
    have i2 := dv_mem_tree hW (x := x) k (c + 1) (C0 ||| 2 ^ c) (by omega) o1
    have hm : x ∈ dv_tree w h (k + 1) c (dv_bd w h C0) ↔ x ∈ dv_tree w h k (c + 1) (dv_bd w h C0) ∨ x ∈ dv_tree w h k (c + 1) (dv_bd w h (C0 ||| 2 ^ c)) := by
      rw [dv_tree, dv_bd_flip hW o2]
      split
      · rw [List.mem_append]
      · rw [List.mem_append, or_comm]
    rw [hm, i1, i2]
    constructor
    · rintro (⟨hl, C, h1, h2, h3⟩ | ⟨hl, C, h1, h2, h3⟩)
      · exact ⟨hl, C, h1, fun a ha => h2 a (by omega), h3⟩
      · refine ⟨hl, C, h1, fun a ha => ?_, h3⟩
        rw [h2 a (by omega), fb_bit_set, decide_eq_false (by omega), Bool.or_false]
    · rintro ⟨hl, C, h1, h2, h3⟩
      cases hc : C.testBit c
      · left
        refine ⟨hl, C, h1, fun a ha => ?_, h3⟩
        rcases Nat.lt_or_ge a c with z | z
        · exact h2 a z
        · rw [show a = c by omega, hc, o2]
      · right
        refine ⟨hl, C, h1, fun a ha => ?_, h3⟩
        rw [fb_bit_set]
        rcases Nat.lt_or_ge a c with z | z
        · rw [h2 a z, decide_eq_false (by omega), Bool.or_false]
        · rw [show a = c by omega, hc, decide_eq_true rfl, Bool.or_true]
theorem dv_bd_0 (w h : Nat) : dv_bd w h 0 = 0 := by
  apply bm_zero.mpr
  intro k _
  rw [Nat.zero_testBit, Nat.zero_testBit]; rfl
theorem dv_mem_loops {w h : Nat} (hW : tb_W w h) {x : Nat} : x ∈ dv_loops w h ↔ dv_isLoop w h x = true ∧ ∃ C, C < 2 ^ tb_nc w h ∧ x = dv_bd w h C := by
  have := dv_mem_tree hW (x := x) (tb_nc w h) 0 0 (by omega) (by decide)
  rw [dv_bd_0] at this
  unfold dv_loops
  rw [this]
  constructor
  · rintro ⟨a, C, b, _, c⟩; exact ⟨a, C, b, c⟩
  · rintro ⟨a, C, b, c⟩; exact ⟨a, C, b, fun a ha => absurd ha (Nat.not_lt_zero a), c⟩
/-! their order -/
def dv_ahead (S T : Nat) : Prop := ∃ j, (∀ i, i < j → S.testBit i = T.testBit i) ∧ S.testBit j = true ∧ T.testBit j = false
theorem dv_ahead_irr {S : Nat} : ¬ dv_ahead S S := by
  rintro ⟨j, _, h1, h2⟩
  rw [h1] at h2; cases h2
theorem dv_ahead_tr {S T U : Nat} (h1 : dv_ahead S T) (h2 : dv_ahead T U) : dv_ahead S U := by
  obtain ⟨i, a1, a2, a3⟩ := h1
  obtain ⟨j, b1, b2, b3⟩ := h2
  rcases Nat.lt_trichotomy i j with z | z | z
  · exact ⟨i, fun k hk => (a1 k hk).trans (b1 k (by omega)), a2, by rw [← b1 i z]; exact a3⟩
  · subst z; rw [a3] at b2; cases b2
  · exact ⟨j, fun k hk => (a1 k (by omega)).trans (b1 k hk), by rw [a1 j z]; exact b2, b3⟩
theorem dv_ahead_as {S T : Nat} (h1 : dv_ahead S T) (h2 : dv_ahead T S) : False := dv_ahead_irr (dv_ahead_tr h1 h2)
theorem dv_tree_agree {w h : Nat} (hW : tb_W w h) : ∀ k c S x, c + k = tb_nc w h → x ∈ dv_tree w h k c S → ∀ i, i < c → x.testBit i = S.testBit i
  | 0, c, S, x, _, hx, i, _ => by
    rw [dv_tree] at hx
    split at hx
    · rw [List.mem_singleton.mp hx]
    · cases hx
  | k + 1, c, S, x, hk, hx, i, hi => by
    have i1 := fun hx => dv_tree_agree hW k (c + 1) S x (by omega) hx i (by omega)
    have i2 := fun hx => dv_tree_agree hW k (c + 1) (S ^^^ dv_ea w h c) x (by omega) hx i (by omega)
    have e2 : (S ^^^ dv_ea w h c).testBit i = S.testBit i := by
      rw [Nat.testBit_xor, dv_ea_bit, tb_below hW c (by omega) i hi, Bool.and_false, Bool.xor_false]
    rw [e2] at i2
    rw [dv_tree] at hx
    split at hx
    · rcases List.mem_append.mp hx with z | z
      · exact i1 z
      · exact i2 z
    · rcases List.mem_append.mp hx with z | z
      · exact i2 z
      · exact i1 z
theorem dv_tree_sorted {w h : Nat} (hW : tb_W w h) : ∀ k c S, c + k = tb_nc w h → (dv_tree w h k c S).Pairwise dv_ahead
  | 0, c, S, _ => by
    rw [dv_tree]
    split
    · exact List.pairwise_singleton _ _
    · exact List.Pairwise.nil
  | k + 1, c, S, hk => by
    have i1 := dv_tree_sorted hW k (c + 1) S (by omega)
    have i2 := dv_tree_sorted hW k (c + 1) (S ^^^ dv_ea w h c) (by omega)
    have a1 := fun x hx => dv_tree_agree hW k (c + 1) S x (by omega) hx
    have a2 := fun x hx => dv_tree_agree hW k (c + 1) (S ^^^ dv_ea w h c) x (by omega) hx
    have t := tb_top hW c (by omega)
    have ec : (S ^^^ dv_ea w h c).testBit c = !S.testBit c := by
      have : dv_inA w h c c = true := by unfold dv_inA; rw [t.2.1]; simp
      rw [Nat.testBit_xor, dv_ea_bit, decide_eq_true t.1, this]
      cases S.testBit c <;> rfl
    have el : ∀ i, i < c → (S ^^^ dv_ea w h c).testBit i = S.testBit i := fun i hi => by
      rw [Nat.testBit_xor, dv_ea_bit, tb_below hW c (by omega) i hi, Bool.and_false, Bool.xor_false]
    rw [dv_tree]
    split
    · rename_i hs
      refine List.pairwise_append.mpr ⟨i1, i2, fun x hx y hy => ⟨c, fun i hi => ?_, ?_, ?_⟩⟩
      · rw [a1 x hx i (by omega), a2 y hy i (by omega), el i hi]
      · rw [a1 x hx c (by omega)]; exact hs
      · rw [a2 y hy c (by omega), ec, hs]; rfl
    · rename_i hs
      have hs2 : S.testBit c = false := by simpa using hs
      refine List.pairwise_append.mpr ⟨i2, i1, fun x hx y hy => ⟨c, fun i hi => ?_, ?_, ?_⟩⟩
      · rw [a2 x hx i (by omega), a1 y hy i (by omega), el i hi]
      · rw [a2 x hx c (by omega), ec, hs2]; rfl
      · rw [a1 y hy c (by omega)]; exact hs2
/-- two lists in order with the same members are the same -/
theorem dv_sorted_one : ∀ {l1 l2 : List Nat}, l1.Pairwise dv_ahead → l2.Pairwise dv_ahead → (∀ x, x ∈ l1 ↔ x ∈ l2) → l1 = l2
  | [], [], _, _, _ => rfl
  | [], b :: t, _, _, H => by have := (H b).mpr (List.mem_cons_self ..); cases this
  | a :: s, [], _, _, H => by have := (H a).mp (List.mem_cons_self ..); cases this
  | a :: s, b :: t, h1, h2, H => by
    rw [List.pairwise_cons] at h1 h2
    have hab : a = b := by
      rcases List.mem_cons.mp ((H a).mp (List.mem_cons_self ..)) with z | z
      · exact z
      · rcases List.mem_cons.mp ((H b).mpr (List.mem_cons_self ..)) with y | y
        · exact y.symm
        · exact (dv_ahead_as (h1.1 b y) (h2.1 a z)).elim
    subst hab
    have ht : s = t := by
      refine dv_sorted_one h1.2 h2.2 (fun x => ⟨fun hx => ?_, fun hx => ?_⟩)
      · rcases List.mem_cons.mp ((H x).mp (List.mem_cons_of_mem _ hx)) with z | z
        · rw [z] at hx; exact (dv_ahead_irr (h1.1 _ hx)).elim
        · exact z
      · rcases List.mem_cons.mp ((H x).mpr (List.mem_cons_of_mem _ hx)) with z | z
        · rw [z] at hx; exact (dv_ahead_irr (h2.1 _ hx)).elim
        · exact z
    rw [ht]
