/-! sets of edges as numbers -/
def bm (p : Nat → Bool) : Nat → Nat
  | 0 => 0
  | n + 1 => 2 ^ n * (if p n then 1 else 0) + bm p n
theorem bm_lt (p : Nat → Bool) : ∀ n, bm p n < 2 ^ n
  | 0 => Nat.one_pos
  | n + 1 => by
    have ih := bm_lt p n
    rw [bm, Nat.pow_succ]
    split <;> omega
theorem bm_bit (p : Nat → Bool) : ∀ n k, (bm p n).testBit k = (decide (k < n) && p k)
  | 0, k => by simp [bm]
  | n + 1, k => by
    rw [bm, Nat.testBit_two_pow_mul_add _ (bm_lt p n), bm_bit p n k]
    by_cases h : k < n
    · rw [if_pos h, decide_eq_true h, decide_eq_true (Nat.lt_succ_of_lt h)]
    · rw [if_neg h]
      by_cases h2 : k = n
      · subst h2
        rw [Nat.sub_self, decide_eq_true (Nat.lt_succ_self k)]
        cases p k <;> rfl
      · rw [decide_eq_false (by omega), Bool.false_and]
        obtain ⟨j, hj⟩ : ∃ j, k - n = j + 1 := ⟨k - n - 1, by omega⟩
        rw [hj]
        cases p n
        · exact Nat.zero_testBit _
        · show Nat.testBit 1 (j + 1) = false
          simp [Nat.testBit_succ]
theorem bm_ext {a b : Nat} (h : ∀ k, a.testBit k = b.testBit k) : a = b := Nat.eq_of_testBit_eq h
theorem bm_cong {p q : Nat → Bool} {n : Nat} (h : ∀ k, k < n → p k = q k) : bm p n = bm q n := by
  apply bm_ext
  intro k
  rw [bm_bit, bm_bit]
  by_cases hk : k < n
  · rw [h k hk]
  · rw [decide_eq_false hk]; rfl
theorem bm_hi {S n k : Nat} (h : S < 2 ^ n) (hk : n ≤ k) : S.testBit k = false := Nat.testBit_lt_two_pow (Nat.lt_of_lt_of_le h (Nat.pow_le_pow_right (by decide) hk))
theorem bm_self {S n : Nat} (h : S < 2 ^ n) : bm (fun e => S.testBit e) n = S := by
  apply bm_ext
  intro k
  rw [bm_bit]
  by_cases hk : k < n
  · rw [decide_eq_true hk]; rfl
  · rw [decide_eq_false hk, bm_hi h (by omega)]; rfl
theorem bm_and (S : Nat) (q : Nat → Bool) (n : Nat) : S &&& bm q n = bm (fun e => S.testBit e && q e) n := by
  apply bm_ext
  intro k
  rw [Nat.testBit_and, bm_bit, bm_bit]
  cases decide (k < n) <;> cases S.testBit k <;> cases q k <;> rfl
theorem pc_bm (p : Nat → Bool) {n : Nat} (hn : n ≤ 64) : pc_n (bm p n) = fb_ct p n := by
  unfold pc_n
  rw [show 64 = n + (64 - n) by omega, fb_ct_split]
  have e1 : fb_ct (fun k => (bm p n).testBit k) n = fb_ct p n := fb_ct_cong (fun k hk => by rw [bm_bit, decide_eq_true hk]; rfl)
  have e2 : fb_ct (fun k => (bm p n).testBit (n + k)) (64 - n) = 0 := fb_ct_zero.mpr (fun k _ => by rw [bm_bit, decide_eq_false (by omega)]; rfl)
  rw [e1, e2, Nat.add_zero]
theorem bm_zero {p : Nat → Bool} {n : Nat} : bm p n = 0 ↔ ∀ k, k < n → p k = false := by
  constructor
  · intro h k hk
    have := bm_bit p n k
    rw [h, Nat.zero_testBit, decide_eq_true hk] at this
    simpa using this.symm
  · intro h
    apply bm_ext
    intro k
    rw [bm_bit, Nat.zero_testBit]
    by_cases hk : k < n
    · rw [h k hk, Bool.and_false]
    · rw [decide_eq_false hk]; rfl
/-- edges at an area, at a point; the edges of a set at a point -/
def dv_inc (w h p e : Nat) : Bool := tb_one w h e == p || tb_oth w h e == p
def dv_inA (w h a e : Nat) : Bool := tb_are w h e == a || tb_bes w h e == a
def dv_ep (w h p : Nat) : Nat := bm (dv_inc w h p) (tb_ne w h)
def dv_ea (w h a : Nat) : Nat := bm (dv_inA w h a) (tb_ne w h)
def dv_deg (w h S p : Nat) : Nat := fb_ct (fun e => S.testBit e && dv_inc w h p e) (tb_ne w h)
def dv_arS (w h S a : Nat) : Nat := fb_ct (fun e => S.testBit e && dv_inA w h a e) (tb_ne w h)
def dv_cor (w c : Nat) : Nat := c / w * (w + 1) + c % w
def dv_up (w c : Nat) : Nat := bm (fun e => decide (e ≤ c) && ((c - e) % w == 0)) 16
def dv_T (w h : Nat) (X : xs_T) : Prop := tb_W w h ∧ (X.1 1 9 = nI w ∧ X.1 1 10 = nI h ∧ X.1 1 11 = nI (tb_nc w h) ∧ X.1 1 12 = nI (tb_np w h) ∧ X.1 1 13 = nI (tb_ne w h) ∧ X.1 1 14 = nI (tb_nf w h) ∧ X.2.1 1 15 = lN (2 ^ tb_ne w h - 1)) ∧
  (∀ e, e < tb_ne w h → X.2.2.1 5 e = nI (tb_one w h e) ∧ X.2.2.1 6 e = nI (tb_oth w h e) ∧ X.2.2.1 7 e = nI (tb_are w h e) ∧ X.2.2.1 8 e = nI (tb_bes w h e)) ∧
  (∀ a, a ≤ tb_nc w h → X.2.2.2 3 a = lN (dv_ea w h a)) ∧ (∀ p, p < tb_np w h → X.2.2.2 4 p = lN (dv_ep w h p)) ∧ (∀ c, c < tb_nc w h → X.2.2.1 9 c = nI (dv_cor w c) ∧ X.2.2.2 10 c = lN (dv_up w c))
def dv_N (w h : Nat) (num : Nat → Int32) (X : xs_T) : Prop := ∀ c, c < tb_nc w h → X.2.2.1 2 c = num c
theorem dv_ep_lt {w h : Nat} (hW : tb_W w h) (p : Nat) : dv_ep w h p < 2 ^ 40 := Nat.lt_of_lt_of_le (bm_lt _ _) (Nat.pow_le_pow_right (by decide) (tb_sizes hW).2.2.2.2.2.1)
theorem dv_ea_lt {w h : Nat} (hW : tb_W w h) (p : Nat) : dv_ea w h p < 2 ^ 40 := Nat.lt_of_lt_of_le (bm_lt _ _) (Nat.pow_le_pow_right (by decide) (tb_sizes hW).2.2.2.2.2.1)
theorem dv_set_lt {w h S : Nat} (hW : tb_W w h) (hS : S < 2 ^ tb_ne w h) : S < 2 ^ 40 := Nat.lt_of_lt_of_le hS (Nat.pow_le_pow_right (by decide) (tb_sizes hW).2.2.2.2.2.1)
theorem dv_pc {w h : Nat} (hW : tb_W w h) (S p : Nat) : pc_n (S &&& dv_ep w h p) = dv_deg w h S p := by
  unfold dv_ep
  rw [bm_and, pc_bm _ (by have := tb_sizes hW; omega)]
  rfl
theorem dv_pcA {w h : Nat} (hW : tb_W w h) (S a : Nat) : pc_n (S &&& dv_ea w h a) = dv_arS w h S a := by
  unfold dv_ea
  rw [bm_and, pc_bm _ (by have := tb_sizes hW; omega)]
  rfl
theorem dv_deg_le {w h : Nat} (hW : tb_W w h) (S p : Nat) : dv_deg w h S p ≤ 40 := Nat.le_trans (fb_ct_le _ _) (tb_sizes hW).2.2.2.2.2.1
theorem dv_arS_le {w h : Nat} (hW : tb_W w h) (S p : Nat) : dv_arS w h S p ≤ 40 := Nat.le_trans (fb_ct_le _ _) (tb_sizes hW).2.2.2.2.2.1
theorem dv_touch {w h : Nat} (S p : Nat) : S &&& dv_ep w h p = 0 ↔ dv_deg w h S p = 0 := by
  unfold dv_ep dv_deg
  rw [bm_and, bm_zero, fb_ct_zero]
theorem lN_0 : lN 0 = 0 := by decide
theorem lN_eq0 {a : Nat} (h : a < 2 ^ 63) : lg_cmp (lN a) 0 = 0 ↔ a = 0 := by
  have e : lN a = 0 ↔ a = 0 := by rw [← lN_0]; exact pk_lEQ h (by decide)
  unfold lg_cmp
  by_cases h0 : a = 0
  · subst h0; decide
  · have hn : ¬ lN a = 0 := fun q => h0 (e.mp q)
    simp [hn, h0]
    split <;> decide
/-- frames of the class's tables -/
theorem dv_fr {w h : Nat} {S : List Nat} {F : List (Nat × Nat)} {X Y : xs_T} (hT : dv_T w h X) (hf : xs_fr S F X Y) (hq : (([3, 4, 5, 6, 7, 8, 9, 10] : List Nat).all (fun q => !decide (q ∈ S)) && ([(1, 9), (1, 10), (1, 11), (1, 12), (1, 13), (1, 14), (1, 15)] : List (Nat × Nat)).all (fun q => !decide (q ∈ F))) = true := by decide) : dv_T w h Y := by
  simp only [List.all_cons, List.all_nil, Bool.and_true, Bool.and_eq_true, Bool.not_eq_true', decide_eq_false_iff_not] at hq
  obtain ⟨⟨a1, a2, a3, a4, a5, a6, a7, a8⟩, b1, b2, b3, b4, b5, b6, b7⟩ := hq
  obtain ⟨h0, ⟨h1, h2, h3, h4, h5, h6, h7⟩, h8, h9, h10, h11⟩ := hT
  refine ⟨h0, ⟨(hf.1 _ _ b1).1.trans h1, (hf.1 _ _ b2).1.trans h2, (hf.1 _ _ b3).1.trans h3, (hf.1 _ _ b4).1.trans h4, (hf.1 _ _ b5).1.trans h5, (hf.1 _ _ b6).1.trans h6, (hf.1 _ _ b7).2.trans h7⟩, ?_, ?_, ?_, ?_⟩
  · rw [(hf.2 _ a3).1, (hf.2 _ a4).1, (hf.2 _ a5).1, (hf.2 _ a6).1]; exact h8
  · rw [(hf.2 _ a1).2]; exact h9
  · rw [(hf.2 _ a2).2]; exact h10
  · rw [(hf.2 _ a7).1, (hf.2 _ a8).2]; exact h11
theorem dv_nfr {w h : Nat} {num : Nat → Int32} {S : List Nat} {F : List (Nat × Nat)} {X Y : xs_T} (hS : dv_N w h num X) (hf : xs_fr S F X Y) (hq : decide (2 ∈ S) = false := by decide) : dv_N w h num Y := by
  intro e he
  rw [xs_fa hf 2 hq]
  exact hS e he
/-! the lowest edge of a set; the set's lines that it is joined with -/
def dv_low (S : Nat) : Nat := if S = 0 then 0 else 2 ^ fa_first (fun k => S.testBit k) 64
def dv_pass (w h S : Nat) : Nat → Nat → Nat
  | 0, W => W
  | p + 1, W => if dv_pass w h S p W &&& dv_ep w h p = 0 then dv_pass w h S p W else dv_pass w h S p W ||| (S &&& dv_ep w h p)
def dv_grow (w h S : Nat) : Nat → Nat → Nat
  | 0, W => W
  | k + 1, W => if dv_pass w h S (tb_np w h) W = W then W else dv_grow w h S k (dv_pass w h S (tb_np w h) W)
def dv_fw (w h S : Nat) : Nat := dv_grow w h S 40 (dv_low S)
def dv_isLoop (w h S : Nat) : Bool := (List.range (tb_np w h)).all (fun p => dv_deg w h S p == 0 || dv_deg w h S p == 2) && (!(S == 0) && dv_fw w h S == S)
def dv_rightB (w h : Nat) (num : Nat → Int32) (S : Nat) (ig : Int32) (c : Nat) : Bool := nI c == ig || num c == -1 || nI (dv_arS w h S c) == num c
def dv_right (w h : Nat) (num : Nat → Int32) (S : Nat) (ig : Int32) : Bool := (List.range (tb_nc w h)).all (dv_rightB w h num S ig)
theorem dv_pass_lt {w h S W : Nat} (hS : S < 2 ^ 40) (hW : W < 2 ^ 40) : ∀ p, dv_pass w h S p W < 2 ^ 40
  | 0 => hW
  | p + 1 => by
    have ih := dv_pass_lt (w := w) (h := h) hS hW p
    rw [dv_pass]
    split
    · exact ih
    · exact Nat.or_lt_two_pow ih (Nat.lt_of_le_of_lt Nat.and_le_left hS)
/-- x & -x -/
theorem dv_neg {S : Nat} (hS : S < 2 ^ 63) (h0 : S ≠ 0) : lN S &&& -lN S = lN (dv_low S) := by
  have e1 : -lN S = lN (2 ^ 64 - (S - 1 + 1)) := by
    apply wb_inj
    rw [wb_tb, Int64.toBitVec_neg, wb_tb]
    apply BitVec.eq_of_toNat_eq
    rw [BitVec.toNat_neg, BitVec.toNat_ofNat, BitVec.toNat_ofNat]
    omega
  rw [e1, wb_and (by omega) (by omega)]
  congr 1
  unfold dv_low
  rw [if_neg h0]
  have hk : fa_first (fun k => S.testBit k) 64 < 64 := by
    rcases Nat.lt_or_ge (fa_first (fun k => S.testBit k) 64) 64 with q | q
    · exact q
    · exfalso
      apply h0
      apply bm_ext
      intro k
      rw [Nat.zero_testBit]
      rcases Nat.lt_or_ge k 64 with z | z
      · exact fa_first_no (fun k => S.testBit k) 64 k (by omega)
      · exact bm_hi (n := 64) (by omega) z
  have hy : S.testBit (fa_first (fun k => S.testBit k) 64) = true := fa_first_yes (fun k => S.testBit k) 64 hk
  have hn := fa_first_no (fun k => S.testBit k) 64
  generalize fa_first (fun k => S.testBit k) 64 = k at *
  obtain ⟨t, ht⟩ : ∃ t, S = 2 ^ k * (2 * t + 1) := by
    have hm : S % 2 ^ k = 0 := by
      apply bm_ext
      intro i
      rw [Nat.testBit_mod_two_pow, Nat.zero_testBit]
      by_cases hi : i < k
      · rw [hn i hi, Bool.and_false]
      · rw [decide_eq_false hi]; rfl
    have hd : S / 2 ^ k % 2 = 1 := by
      have := hy
      rw [Nat.testBit_eq_decide_div_mod_eq] at this
      simpa using this
    refine ⟨S / 2 ^ k / 2, ?_⟩
    have h1 := Nat.div_add_mod S (2 ^ k)
    rw [hm, Nat.add_zero] at h1
    rw [← h1]
    congr 1
    rw [Nat.mul_div_cancel_left _ (Nat.two_pow_pos k)]
    omega
  apply bm_ext
  intro i
  rw [Nat.testBit_and, Nat.testBit_two_pow_sub_succ (by omega), Nat.testBit_two_pow]
  have hpk := Nat.two_pow_pos k
  have e2 : S - 1 = 2 ^ k * (2 * t) + (2 ^ k - 1) := by
    rw [ht, Nat.mul_add, Nat.mul_one]; omega
  rw [e2, Nat.testBit_two_pow_mul_add _ (by omega)]
  rcases Nat.lt_trichotomy i k with hi | hi | hi
  · rw [hn i hi, Bool.false_and, decide_eq_false (show ¬ k = i by omega)]
  · subst hi
    rw [hy, if_neg (Nat.lt_irrefl _), Nat.sub_self, decide_eq_true hk, decide_eq_true rfl]
    simp [Nat.testBit_zero]
  · rw [if_neg (by omega), decide_eq_false (show ¬ k = i by omega)]
    have e3 : S.testBit i = (2 * t + 1).testBit (i - k) := by
      have := Nat.testBit_two_pow_mul_add (i := k) (2 * t + 1) (show 0 < 2 ^ k from hpk) i
      rw [Nat.add_zero, ← ht, if_neg (by omega)] at this
      exact this
    obtain ⟨j, hj⟩ : ∃ j, i - k = j + 1 := ⟨i - k - 1, by omega⟩
    rw [e3, hj, Nat.testBit_succ, Nat.testBit_succ, show (2 * t + 1) / 2 = t by omega, show 2 * t / 2 = t by omega]
    cases t.testBit j <;> simp
theorem dv_neg0 : lN 0 &&& -lN 0 = lN (dv_low 0) := by decide +kernel
theorem dv_low_lt {S n : Nat} (hS : S < 2 ^ n) (hn : n ≤ 64) : dv_low S < 2 ^ n := by
  unfold dv_low
  split
  · exact Nat.two_pow_pos n
  · rename_i h0
    refine Nat.pow_lt_pow_right (by decide) ?_
    rcases Nat.lt_or_ge (fa_first (fun k => S.testBit k) 64) n with q | q
    · exact q
    · exfalso
      apply h0
      apply bm_ext
      intro k
      rw [Nat.zero_testBit]
      rcases Nat.lt_or_ge k n with z | z
      · exact fa_first_no (fun k => S.testBit k) 64 k (by omega)
      · exact bm_hi hS z
theorem dv_low_pos {S : Nat} (h0 : S ≠ 0) : dv_low S ≠ 0 := by
  unfold dv_low
  rw [if_neg h0]
  exact Nat.ne_of_gt (Nat.two_pow_pos _)
