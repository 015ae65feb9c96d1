theorem tb_m1 : nI 0 - nI 1 < 0 := by decide
theorem tb_row_t {w h e : Nat} (he : e < tb_nf w h) : tb_row w h e = e / w := if_pos he
theorem tb_row_f {w h e : Nat} (he : tb_nf w h ≤ e) : tb_row w h e = (e - tb_nf w h) / (w + 1) := if_neg (Nat.not_lt.mpr he)
theorem tb_col_t {w h e : Nat} (he : e < tb_nf w h) : tb_col w h e = e % w := if_pos he
theorem tb_col_f {w h e : Nat} (he : tb_nf w h ≤ e) : tb_col w h e = (e - tb_nf w h) % (w + 1) := if_neg (Nat.not_lt.mpr he)
theorem tb_rc {w h : Nat} (hW : tb_W w h) : ∀ e, e < tb_ne w h → tb_row w h e ≤ h ∧ tb_col w h e ≤ w ∧ (e < tb_nf w h → tb_col w h e < w) ∧ (tb_nf w h ≤ e → tb_row w h e < h) :=
  tb_all (P := fun w h => ∀ e, e < tb_ne w h → tb_row w h e ≤ h ∧ tb_col w h e ≤ w ∧ (e < tb_nf w h → tb_col w h e < w) ∧ (tb_nf w h ≤ e → tb_row w h e < h)) (by decide +kernel) hW
abbrev rf_SL : List Nat := [22, 23, 24, 25, 26, 27, 28]
abbrev rf_FL : List (Nat × Nat) := [(21, 0), (21, 1), (21, 2), (21, 3), (21, 4)]
