/-! LABELS AND WAYS: what the class's firstWay finds is a class of the reference's labels -/
theorem lb_join {w h : Nat} {S : Nat → Bool} : ∀ k e, e < k → S e = true → tb_lab w h S k (tb_one w h e) = tb_lab w h S k (tb_oth w h e)
  | 0, e, he, _ => absurd he (Nat.not_lt_zero e)
  | k + 1, e, he, hS => by
    by_cases q : S k = true ∧ tb_lab w h S k (tb_one w h k) ≠ tb_lab w h S k (tb_oth w h k)
    · rw [tb_lab_y q.1 q.2, tb_lab_y q.1 q.2]
      rcases Nat.lt_or_ge e k with z | z
      · rw [lb_join k e z hS]
      · have e1 : e = k := by omega
        subst e1
        have q2 := q.2
        generalize tb_lab w h S e (tb_one w h e) = a at *
        generalize tb_lab w h S e (tb_oth w h e) = b at *
        unfold tb_hi tb_lo
        repeat' split
        all_goals omega
    · rw [tb_lab_n q, tb_lab_n q]
      rcases Nat.lt_or_ge e k with z | z
      · exact lb_join k e z hS
      · have e1 : e = k := by omega
        subst e1
        exact Decidable.byContradiction (fun z => q ⟨hS, z⟩)
theorem lb_ind {w h : Nat} {S : Nat → Bool} {P : Nat → Prop} : ∀ k, (∀ e, e < k → S e = true → (P (tb_one w h e) ↔ P (tb_oth w h e))) → ∀ p q, tb_lab w h S k p = tb_lab w h S k q → (P p ↔ P q)
  | 0, _, p, q, e => by
    have e2 : p = q := e
    rw [e2]
  | k + 1, H, p, q, e => by
    have ih := lb_ind (P := P) k (fun e he => H e (by omega))
    by_cases z : S k = true ∧ tb_lab w h S k (tb_one w h k) ≠ tb_lab w h S k (tb_oth w h k)
    · rw [tb_lab_y z.1 z.2, tb_lab_y z.1 z.2] at e
      have hk := H k (Nat.lt_succ_self k) z.1
      have i1p := ih p (tb_one w h k)
      have i1q := ih q (tb_one w h k)
      have i2p := fun hx => (ih p (tb_oth w h k) hx).trans hk.symm
      have i2q := fun hx => (ih q (tb_oth w h k) hx).trans hk.symm
      have i3 := ih p q
      have z2 := z.2
      generalize tb_lab w h S k (tb_one w h k) = a at *
      generalize tb_lab w h S k (tb_oth w h k) = b at *
      generalize tb_lab w h S k p = x at *
      generalize tb_lab w h S k q = y at *
      unfold tb_hi tb_lo at e
      by_cases ab : a < b
      · simp only [if_pos ab] at e
        by_cases xb : x = b <;> by_cases yb : y = b
        · exact i3 (xb.trans yb.symm)
        · rw [if_pos xb, if_neg yb] at e; exact (i2p xb).trans (i1q e.symm).symm
        · rw [if_neg xb, if_pos yb] at e; exact (i1p e).trans (i2q yb).symm
        · rw [if_neg xb, if_neg yb] at e; exact i3 e
      · simp only [if_neg ab] at e
        by_cases xb : x = a <;> by_cases yb : y = a
        · exact i3 (xb.trans yb.symm)
        · rw [if_pos xb, if_neg yb] at e; exact (i1p xb).trans (i2q e.symm).symm
        · rw [if_neg xb, if_pos yb] at e; exact (i2p e).trans (i1q yb).symm
        · rw [if_neg xb, if_neg yb] at e; exact i3 e
    · rw [tb_lab_n z, tb_lab_n z] at e
      exact ih p q e
theorem lb_idem {w h : Nat} {S : Nat → Bool} : ∀ k p, tb_lab w h S k (tb_lab w h S k p) = tb_lab w h S k p
  | 0, p => rfl
  | k + 1, p => by
    have ih := lb_idem (w := w) (h := h) (S := S) k
    by_cases z : S k = true ∧ tb_lab w h S k (tb_one w h k) ≠ tb_lab w h S k (tb_oth w h k)
    · have i1 := ih (tb_one w h k)
      have i2 := ih (tb_oth w h k)
      have i3 := ih p
      have z2 := z.2
      have hlo : tb_lab w h S k (tb_lo (tb_lab w h S k (tb_one w h k)) (tb_lab w h S k (tb_oth w h k))) = tb_lo (tb_lab w h S k (tb_one w h k)) (tb_lab w h S k (tb_oth w h k)) := by
        unfold tb_lo; split <;> assumption
      have hne : tb_lo (tb_lab w h S k (tb_one w h k)) (tb_lab w h S k (tb_oth w h k)) ≠ tb_hi (tb_lab w h S k (tb_one w h k)) (tb_lab w h S k (tb_oth w h k)) := by
        unfold tb_lo tb_hi; split <;> omega
      rw [tb_lab_y z.1 z.2 (tb_lab w h S (k + 1) p), tb_lab_y z.1 z.2 p]
      by_cases c : tb_lab w h S k p = tb_hi (tb_lab w h S k (tb_one w h k)) (tb_lab w h S k (tb_oth w h k))
      · rw [if_pos c, hlo, if_neg hne]
      · rw [if_neg c, i3, if_neg c]
    · rw [tb_lab_n z p, tb_lab_n z]; exact ih p
theorem lb_cong {w h : Nat} {S S' : Nat → Bool} : ∀ k, (∀ e, e < k → S e = S' e) → ∀ p, tb_lab w h S k p = tb_lab w h S' k p
  | 0, _, p => rfl
  | k + 1, H, p => by
    have ih := lb_cong (w := w) (h := h) k (fun e he => H e (by omega))
    rw [tb_lab, tb_lab]
    simp only [ih, H k (Nat.lt_succ_self k)]
def dv_L (w h S p : Nat) : Nat := tb_L w h (fun e => S.testBit e) p
def dv_wayB (w h S c : Nat) : Bool := dv_L w h S c == c && decide (0 < dv_deg w h S c)
def dv_sub (w h S : Nat) (T : Nat → Bool) : Nat := bm (fun e => S.testBit e && T (dv_L w h S (tb_one w h e))) (tb_ne w h)
theorem dv_sub_bit {w h S : Nat} {T : Nat → Bool} {e : Nat} : (dv_sub w h S T).testBit e = (decide (e < tb_ne w h) && (S.testBit e && T (dv_L w h S (tb_one w h e)))) := bm_bit _ _ _
theorem dv_sub_y {w h S : Nat} {T : Nat → Bool} {e : Nat} : (dv_sub w h S T).testBit e = true ↔ e < tb_ne w h ∧ S.testBit e = true ∧ T (dv_L w h S (tb_one w h e)) = true := by
  rw [dv_sub_bit, Bool.and_eq_true, Bool.and_eq_true, decide_eq_true_eq]
theorem dv_inc_y {w h q e : Nat} : dv_inc w h q e = true ↔ tb_one w h e = q ∨ tb_oth w h e = q := by
  unfold dv_inc
  rw [Bool.or_eq_true, beq_iff_eq, beq_iff_eq]
theorem dv_L_at {w h S q e : Nat} (he : e < tb_ne w h) (hS : S.testBit e = true) (hq : dv_inc w h q e = true) : dv_L w h S q = dv_L w h S (tb_one w h e) := by
  rcases dv_inc_y.mp hq with z | z
  · rw [z]
  · rw [← z]; exact (lb_join (tb_ne w h) e he hS).symm
theorem dv_L_ind {w h S : Nat} {P : Nat → Prop} (H : ∀ e, e < tb_ne w h → S.testBit e = true → (P (tb_one w h e) ↔ P (tb_oth w h e))) {p q : Nat} (e : dv_L w h S p = dv_L w h S q) : P p ↔ P q := lb_ind (tb_ne w h) H p q e
theorem dv_deg_pos {w h S q : Nat} : dv_deg w h S q ≠ 0 ↔ ∃ e, e < tb_ne w h ∧ S.testBit e = true ∧ dv_inc w h q e = true := by
  have h1 : dv_deg w h S q ≠ 0 ↔ 0 < dv_deg w h S q := by omega
  rw [h1]
  unfold dv_deg
  rw [fb_ct_pos]
  simp only [Bool.and_eq_true]
/-! a pass, a growth -/
theorem dv_ep_bit {w h p e : Nat} : (dv_ep w h p).testBit e = (decide (e < tb_ne w h) && dv_inc w h p e) := bm_bit _ _ _
theorem dv_pass_up {w h S W e : Nat} (he : W.testBit e = true) : ∀ p, (dv_pass w h S p W).testBit e = true
  | 0 => he
  | p + 1 => by
    have ih := dv_pass_up (w := w) (h := h) (S := S) he p
    rw [dv_pass]
    split
    · exact ih
    · rw [Nat.testBit_or, ih]; rfl
theorem dv_pass_inv {w h S : Nat} {Q : Nat → Prop} (H : ∀ q e e', e < tb_ne w h → e' < tb_ne w h → dv_inc w h q e = true → dv_inc w h q e' = true → S.testBit e' = true → Q e → Q e') {W : Nat} (hW : ∀ e, W.testBit e = true → Q e) : ∀ p e, (dv_pass w h S p W).testBit e = true → Q e
  | 0, e, he => hW e he
  | p + 1, e, he => by
    have ih := dv_pass_inv H hW p
    rw [dv_pass] at he
    split at he
    · exact ih e he
    · rename_i ht
      rw [Nat.testBit_or, Nat.testBit_and, dv_ep_bit] at he
      simp only [Bool.or_eq_true, Bool.and_eq_true, decide_eq_true_eq] at he
      rcases he with z | ⟨z1, z2, z3⟩
      · exact ih e z
      · obtain ⟨e1, y1, y2, y3⟩ := dv_deg_pos.mp (fun q => ht ((dv_touch _ _).mpr q))
        exact H p e1 e y1 z2 y3 z3 z1 (ih e1 y2)
theorem dv_pass_fix {w h S W : Nat} : ∀ p, dv_pass w h S p W = W → ∀ q, q < p → dv_deg w h W q ≠ 0 → ∀ e, e < tb_ne w h → S.testBit e = true → dv_inc w h q e = true → W.testBit e = true
  | 0, _, q, hq, _, _, _, _, _ => absurd hq (Nat.not_lt_zero q)
  | p + 1, hf, q, hq, hd, e, he, hS, hi => by
    have hp : dv_pass w h S p W = W := by
      apply bm_ext
      intro k
      cases hk : W.testBit k
      · rw [Bool.eq_false_iff]
        intro z
        rw [← Bool.not_eq_true] at hk
        apply hk
        rw [← hf, dv_pass]
        split
        · exact z
        · rw [Nat.testBit_or, z]; rfl
      · exact dv_pass_up hk p
    rcases Nat.lt_or_ge q p with z | z
    · exact dv_pass_fix p hp q z hd e he hS hi
    · have e1 : q = p := by omega
      subst e1
      rw [dv_pass, hp, if_neg (fun t => hd ((dv_touch _ _).mp t))] at hf
      rw [← hf, Nat.testBit_or, Nat.testBit_and, dv_ep_bit, hS, hi, decide_eq_true he]
      simp
theorem dv_grow_up {w h S e : Nat} : ∀ k W, W.testBit e = true → (dv_grow w h S k W).testBit e = true
  | 0, W, he => he
  | k + 1, W, he => by
    rw [dv_grow]
    split
    · exact he
    · exact dv_grow_up k _ (dv_pass_up he _)
theorem dv_grow_inv {w h S : Nat} {Q : Nat → Prop} (H : ∀ q e e', e < tb_ne w h → e' < tb_ne w h → dv_inc w h q e = true → dv_inc w h q e' = true → S.testBit e' = true → Q e → Q e') : ∀ k W, (∀ e, W.testBit e = true → Q e) → ∀ e, (dv_grow w h S k W).testBit e = true → Q e
  | 0, W, hW, e, he => hW e he
  | k + 1, W, hW, e, he => by
    rw [dv_grow] at he
    split at he
    · exact hW e he
    · exact dv_grow_inv H k _ (fun e he => dv_pass_inv H hW _ e he) e he
theorem fb_ct_more {p q : Nat → Bool} {n k : Nat} (H : ∀ i, i < n → p i = true → q i = true) (hk : k < n) (h1 : p k = false) (h2 : q k = true) : fb_ct p n + 1 ≤ fb_ct q n := by
  have o := fb_ct_or (p := p) (q := fun e => q e && e == k) (n := n) (fun i _ ⟨a, b⟩ => by
    simp only [Bool.and_eq_true, beq_iff_eq] at b
    rw [b.2, h1] at a; cases a)
  rw [fb_ct_one _ hk, if_pos h2] at o
  rw [← o]
  apply fb_ct_sub
  intro i hi hor
  simp only [Bool.or_eq_true, Bool.and_eq_true] at hor
  rcases hor with z | z
  · exact H i hi z
  · exact z.1
theorem dv_grow_fix {w h S : Nat} (hS : S < 2 ^ 40) : ∀ k W, W < 2 ^ 40 → 40 < fb_ct (fun e => W.testBit e) 40 + k → dv_pass w h S (tb_np w h) (dv_grow w h S k W) = dv_grow w h S k W
  | 0, W, _, hc => by have := fb_ct_le (fun e => W.testBit e) 40; omega
  | k + 1, W, hW, hc => by
    rw [dv_grow]
    by_cases q : dv_pass w h S (tb_np w h) W = W
    · rw [if_pos q]; exact q
    · rw [if_neg q]
      have hp := dv_pass_lt (w := w) (h := h) hS hW (tb_np w h)
      apply dv_grow_fix hS k _ hp
      have hex : ∃ i, i < 40 ∧ W.testBit i = false ∧ (dv_pass w h S (tb_np w h) W).testBit i = true := by
        apply Decidable.byContradiction
        intro hno
        apply q
        apply bm_ext
        intro i
        cases hi : W.testBit i
        · cases hz : (dv_pass w h S (tb_np w h) W).testBit i
          · rfl
          · exfalso
            rcases Nat.lt_or_ge i 40 with z | z
            · exact hno ⟨i, z, hi, hz⟩
            · rw [bm_hi hp z] at hz; cases hz
        · exact dv_pass_up hi _
      obtain ⟨i, i1, i2, i3⟩ := hex
      have := fb_ct_more (p := fun e => W.testBit e) (q := fun e => (dv_pass w h S (tb_np w h) W).testBit e) (fun i _ hi => dv_pass_up hi _) i1 i2 i3
      omega
theorem dv_low_y {S : Nat} (hS : S < 2 ^ 64) (h0 : S ≠ 0) : ∃ j, S.testBit j = true ∧ dv_low S = 2 ^ j ∧ ∀ i, i < j → S.testBit i = false := by
  have hj : fa_first (fun k => S.testBit k) 64 < 64 := by
    rcases Nat.lt_or_ge (fa_first (fun k => S.testBit k) 64) 64 with q | q
    · exact q
    · exfalso
      apply h0
      apply bm_ext
      intro k
      rw [Nat.zero_testBit]
      rcases Nat.lt_or_ge k 64 with z | z
      · exact fa_first_no (fun k => S.testBit k) 64 k (by omega)
      · exact bm_hi hS z
  refine ⟨fa_first (fun k => S.testBit k) 64, fa_first_yes (fun k => S.testBit k) 64 hj, ?_, fun i hi => fa_first_no (fun k => S.testBit k) 64 i hi⟩
  unfold dv_low
  rw [if_neg h0]
theorem dv_sub_lt {w h S : Nat} {T : Nat → Bool} (hW : tb_W w h) : dv_sub w h S T < 2 ^ 40 := dv_set_lt hW (bm_lt _ _)
/-- the first way of some classes' lines is one of these classes -/
theorem dv_fw_sub {w h S : Nat} (hW : tb_W w h) {T : Nat → Bool} (h0 : dv_sub w h S T ≠ 0) : ∃ c, T c = true ∧ (∃ e, e < tb_ne w h ∧ S.testBit e = true ∧ dv_L w h S (tb_one w h e) = c) ∧ dv_fw w h (dv_sub w h S T) = dv_sub w h S (fun x => x == c) := by
  have hlt := dv_sub_lt (S := S) (T := T) hW
  obtain ⟨j, j1, j2, _⟩ := dv_low_y (Nat.lt_trans hlt (by decide)) h0
  obtain ⟨y1, y2, y3⟩ := dv_sub_y.mp j1
  refine ⟨dv_L w h S (tb_one w h j), y3, ⟨j, y1, y2, rfl⟩, ?_⟩
  have hlow : ∀ e, (dv_low (dv_sub w h S T)).testBit e = true ↔ e = j := by
    intro e
    rw [j2, Nat.testBit_two_pow, decide_eq_true_eq]
    exact ⟨fun q => q.symm, fun q => q.symm⟩
  have hfix : dv_pass w h (dv_sub w h S T) (tb_np w h) (dv_fw w h (dv_sub w h S T)) = dv_fw w h (dv_sub w h S T) := by
    apply dv_grow_fix hlt 40 _ (dv_low_lt hlt (by decide))
    have : 0 < fb_ct (fun e => (dv_low (dv_sub w h S T)).testBit e) 40 := fb_ct_pos.mpr ⟨j, by have := tb_sizes hW; omega, (hlow j).mpr rfl⟩
    omega
  have hj : (dv_fw w h (dv_sub w h S T)).testBit j = true := dv_grow_up 40 _ ((hlow j).mpr rfl)
  have hin : ∀ e, (dv_fw w h (dv_sub w h S T)).testBit e = true → (dv_sub w h S T).testBit e = true ∧ dv_L w h S (tb_one w h e) = dv_L w h S (tb_one w h j) := by
    refine dv_grow_inv (Q := fun e => (dv_sub w h S T).testBit e = true ∧ dv_L w h S (tb_one w h e) = dv_L w h S (tb_one w h j)) ?_ 40 _ ?_
    · intro q e e' he he' hq hq' hs' ⟨q1, q2⟩
      refine ⟨hs', ?_⟩
      rw [← dv_L_at he' (dv_sub_y.mp hs').2.1 hq', dv_L_at he (dv_sub_y.mp q1).2.1 hq]
      exact q2
    · intro e he
      rw [(hlow e).mp he]
      exact ⟨j1, rfl⟩
  -- what is touched by the way
  have hcl : ∀ q e, q < tb_np w h → e < tb_ne w h → S.testBit e = true → dv_inc w h q e = true → dv_deg w h (dv_fw w h (dv_sub w h S T)) q ≠ 0 → (dv_fw w h (dv_sub w h S T)).testBit e = true := by
    intro q e hq he hs hi hd
    obtain ⟨e1, a1, a2, a3⟩ := dv_deg_pos.mp hd
    have b1 := dv_sub_y.mp (hin e1 a2).1
    refine dv_pass_fix _ hfix q hq hd e he (dv_sub_y.mpr ⟨he, hs, ?_⟩) hi
    rw [← dv_L_at he hs hi, dv_L_at a1 b1.2.1 a3]
    exact b1.2.2
  apply bm_ext
  intro e
  rw [Bool.eq_iff_iff, dv_sub_y]
  constructor
  · intro he
    obtain ⟨a1, a2⟩ := hin e he
    obtain ⟨b1, b2, b3⟩ := dv_sub_y.mp a1
    exact ⟨b1, b2, by rw [a2]; exact beq_self_eq_true _⟩
  · rintro ⟨b1, b2, b3⟩
    have hb := tb_ends hW e b1
    refine hcl (tb_one w h e) e hb.1 b1 b2 (dv_inc_y.mpr (Or.inl rfl)) ?_
    have hP := dv_L_ind (w := w) (h := h) (S := S) (P := fun q => dv_deg w h (dv_fw w h (dv_sub w h S T)) q ≠ 0) (fun e2 he2 hs2 => by
      have hb2 := tb_ends hW e2 he2
      constructor
      · intro hd
        exact dv_deg_pos.mpr ⟨e2, he2, hcl _ e2 hb2.1 he2 hs2 (dv_inc_y.mpr (Or.inl rfl)) hd, dv_inc_y.mpr (Or.inr rfl)⟩
      · intro hd
        exact dv_deg_pos.mpr ⟨e2, he2, hcl _ e2 hb2.2.1 he2 hs2 (dv_inc_y.mpr (Or.inr rfl)) hd, dv_inc_y.mpr (Or.inl rfl)⟩) (p := tb_one w h e) (q := tb_one w h j) (eq_of_beq b3)
    exact hP.mpr (dv_deg_pos.mpr ⟨j, y1, hj, dv_inc_y.mpr (Or.inl rfl)⟩)
