def tb_lo (a b : Nat) : Nat := if a < b then a else b
def tb_hi (a b : Nat) : Nat := if a < b then b else a
theorem tb_lab_y {w h : Nat} {S : Nat → Bool} {k : Nat} (hS : S k = true) (hn : tb_lab w h S k (tb_one w h k) ≠ tb_lab w h S k (tb_oth w h k)) (p : Nat) : tb_lab w h S (k + 1) p = if tb_lab w h S k p = tb_hi (tb_lab w h S k (tb_one w h k)) (tb_lab w h S k (tb_oth w h k)) then tb_lo (tb_lab w h S k (tb_one w h k)) (tb_lab w h S k (tb_oth w h k)) else tb_lab w h S k p := by
  rw [tb_lab]
  exact if_pos ⟨hS, hn⟩
theorem tb_lab_n {w h : Nat} {S : Nat → Bool} {k : Nat} (hn : ¬ (S k = true ∧ tb_lab w h S k (tb_one w h k) ≠ tb_lab w h S k (tb_oth w h k))) (p : Nat) : tb_lab w h S (k + 1) p = tb_lab w h S k p := by
  rw [tb_lab]
  exact if_neg hn
theorem tb_lo_t {a b : Nat} (h : a < b) : a = tb_lo a b := (if_pos h).symm
theorem tb_lo_f {a b : Nat} (h : b ≤ a) : b = tb_lo a b := (if_neg (Nat.not_lt.mpr h)).symm
theorem tb_hi_t {a b : Nat} (h : a < b) : b = tb_hi a b := (if_pos h).symm
theorem tb_hi_f {a b : Nat} (h : b ≤ a) : a = tb_hi a b := (if_neg (Nat.not_lt.mpr h)).symm
theorem tb_lohi {a b N : Nat} (ha : a < N) (hb : b < N) : tb_lo a b < N ∧ tb_hi a b < N := by
  unfold tb_lo tb_hi
  constructor <;> split <;> assumption
