/-! THE BOARD'S TABLES as plain numbers: edges, points, areas of a board of w by h cells -/
def tb_W (w h : Nat) : Prop := 1 ≤ w ∧ w ≤ 4 ∧ 1 ≤ h ∧ h ≤ 4
def tb_nc (w h : Nat) : Nat := w * h
def tb_np (w h : Nat) : Nat := (w + 1) * (h + 1)
def tb_nf (w h : Nat) : Nat := (h + 1) * w
def tb_ne (w h : Nat) : Nat := (h + 1) * w + h * (w + 1)
def tb_row (w h e : Nat) : Nat := if e < tb_nf w h then e / w else (e - tb_nf w h) / (w + 1)
def tb_col (w h e : Nat) : Nat := if e < tb_nf w h then e % w else (e - tb_nf w h) % (w + 1)
def tb_one (w h e : Nat) : Nat := tb_row w h e * (w + 1) + tb_col w h e
def tb_oth (w h e : Nat) : Nat := if e < tb_nf w h then tb_one w h e + 1 else tb_one w h e + w + 1
def tb_are (w h e : Nat) : Nat := if e < tb_nf w h then (if 0 < tb_row w h e then (tb_row w h e - 1) * w + tb_col w h e else tb_nc w h) else (if 0 < tb_col w h e then tb_row w h e * w + (tb_col w h e - 1) else tb_nc w h)
def tb_bes (w h e : Nat) : Nat := if e < tb_nf w h then (if tb_row w h e < h then tb_row w h e * w + tb_col w h e else tb_nc w h) else (if tb_col w h e < w then tb_row w h e * w + tb_col w h e else tb_nc w h)
def tb_sid (w h c s : Nat) : Nat := if s = 0 then c else if s = 1 then c + w else if s = 2 then tb_nf w h + (c / w * (w + 1) + c % w) else tb_nf w h + (c / w * (w + 1) + c % w) + 1
/-- a fact of all sixteen boards, by the kernel -/
theorem tb_all {P : Nat → Nat → Prop} [∀ w h, Decidable (P w h)] (H : ([1, 2, 3, 4] : List Nat).all (fun w => ([1, 2, 3, 4] : List Nat).all (fun h => decide (P w h))) = true) {w h : Nat} (hW : tb_W w h) : P w h := by
  obtain ⟨h1, h2, h3, h4⟩ := hW
  have hw : w ∈ ([1, 2, 3, 4] : List Nat) := by simp; omega
  have hh : h ∈ ([1, 2, 3, 4] : List Nat) := by simp; omega
  exact of_decide_eq_true (List.all_eq_true.mp (List.all_eq_true.mp H w hw) h hh)
theorem tb_sizes {w h : Nat} (hW : tb_W w h) : (1 ≤ tb_nc w h ∧ tb_nc w h ≤ 16 ∧ 4 ≤ tb_np w h ∧ tb_np w h ≤ 25 ∧ 4 ≤ tb_ne w h ∧ tb_ne w h ≤ 40 ∧ tb_nf w h ≤ 20 ∧ tb_nf w h < tb_ne w h) :=
  tb_all (P := fun w h => 1 ≤ tb_nc w h ∧ tb_nc w h ≤ 16 ∧ 4 ≤ tb_np w h ∧ tb_np w h ≤ 25 ∧ 4 ≤ tb_ne w h ∧ tb_ne w h ≤ 40 ∧ tb_nf w h ≤ 20 ∧ tb_nf w h < tb_ne w h) (by decide +kernel) hW
theorem tb_ends {w h : Nat} (hW : tb_W w h) : ∀ e, e < tb_ne w h → tb_one w h e < tb_np w h ∧ tb_oth w h e < tb_np w h ∧ tb_one w h e ≠ tb_oth w h e ∧ tb_are w h e ≤ tb_nc w h ∧ tb_bes w h e ≤ tb_nc w h :=
  tb_all (P := fun w h => ∀ e, e < tb_ne w h → tb_one w h e < tb_np w h ∧ tb_oth w h e < tb_np w h ∧ tb_one w h e ≠ tb_oth w h e ∧ tb_are w h e ≤ tb_nc w h ∧ tb_bes w h e ≤ tb_nc w h) (by decide +kernel) hW
theorem tb_sides {w h : Nat} (hW : tb_W w h) : ∀ c, c < tb_nc w h → ∀ s, s < 4 → tb_sid w h c s < tb_ne w h :=
  tb_all (P := fun w h => ∀ c, c < tb_nc w h → ∀ s, s < 4 → tb_sid w h c s < tb_ne w h) (by decide +kernel) hW
/-! the reference's record X: its tables, its edges' states, its marks, its numbers -/
def rf_T (w h : Nat) (X : xs_T) : Prop := tb_W w h ∧ X.1 21 0 = nI w ∧ X.1 21 1 = nI h ∧ X.1 21 2 = nI (tb_nc w h) ∧ X.1 21 3 = nI (tb_ne w h) ∧ X.1 21 4 = nI (tb_np w h) ∧
  (∀ e, e < tb_ne w h → X.2.2.1 22 e = nI (tb_one w h e)) ∧ (∀ e, e < tb_ne w h → X.2.2.1 23 e = nI (tb_oth w h e)) ∧ (∀ e, e < tb_ne w h → X.2.2.1 24 e = nI (tb_are w h e)) ∧ (∀ e, e < tb_ne w h → X.2.2.1 25 e = nI (tb_bes w h e)) ∧
  (∀ c, c < tb_nc w h → ∀ s, s < 4 → X.2.2.1 26 (4 * c + s) = nI (tb_sid w h c s))
def rf_S (w h : Nat) (st : Nat → Nat) (X : xs_T) : Prop := ∀ e, e < tb_ne w h → X.2.2.1 29 e = nI (st e) ∧ st e ≤ 2
theorem xs_rd {f : Nat → Int32} {e : Nat} {v : Int32} (h : f e = v) (he : e < 2 ^ 31) : f (nI e).toNatClampNeg = v := by rw [nI_clamp he]; exact h
theorem xs_rdL {f : Nat → Int64} {e : Nat} {v : Int64} (h : f e = v) (he : e < 2 ^ 31) : f (nI e).toNatClampNeg = v := by rw [nI_clamp he]; exact h
/-! counts of edges -/
def tb_atB (w h : Nat) (st : Nat → Nat) (p how e : Nat) : Bool := (tb_one w h e == p || tb_oth w h e == p) && st e == how
def tb_at (w h : Nat) (st : Nat → Nat) (p how : Nat) : Nat := fb_ct (tb_atB w h st p how) (tb_ne w h)
def tb_ar (w h : Nat) (st : Nat → Nat) (c how : Nat) : Nat := fb_ct (fun s => st (tb_sid w h c s) == how) 4
def tb_cnt (w h : Nat) (st : Nat → Nat) (how : Nat) : Nat := fb_ct (fun e => st e == how) (tb_ne w h)
theorem tb_at_le {w h : Nat} (hW : tb_W w h) (st : Nat → Nat) (p how : Nat) : tb_at w h st p how ≤ 40 := Nat.le_trans (fb_ct_le _ _) (tb_sizes hW).2.2.2.2.2.1
theorem tb_ar_le (w h : Nat) (st : Nat → Nat) (c how : Nat) : tb_ar w h st c how ≤ 4 := fb_ct_le _ _
