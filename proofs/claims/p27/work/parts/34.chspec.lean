/-! chains of areas on decided edges -/
def tb_ch (w h : Nat) (st : Nat → Nat) : Nat → (Nat → Nat) × (Nat → Bool) × Bool
  | 0 => (fun a => a, fun _ => false, true)
  | k + 1 =>
    let p := tb_ch w h st k
    let a := tb_are w h k
    let b := tb_bes w h k
    if st k = 0 then p else if p.1 a = p.1 b then (p.1, p.2.1, p.2.2 && ((p.2.1 a != p.2.1 b) == (st k == 1)))
      else (fun x => if p.1 x = p.1 b then p.1 a else p.1 x, fun x => if p.1 x = p.1 b then p.2.1 x != ((p.2.1 a != p.2.1 b) != (st k == 1)) else p.2.1 x, p.2.2)
theorem tb_ch_0 {w h : Nat} {st : Nat → Nat} {k : Nat} (h0 : st k = 0) : tb_ch w h st (k + 1) = tb_ch w h st k := by rw [tb_ch]; exact if_pos h0
theorem tb_ch_s {w h : Nat} {st : Nat → Nat} {k : Nat} (h0 : st k ≠ 0) (h1 : (tb_ch w h st k).1 (tb_are w h k) = (tb_ch w h st k).1 (tb_bes w h k)) : tb_ch w h st (k + 1) = ((tb_ch w h st k).1, (tb_ch w h st k).2.1, (tb_ch w h st k).2.2 && (((tb_ch w h st k).2.1 (tb_are w h k) != (tb_ch w h st k).2.1 (tb_bes w h k)) == (st k == 1))) := by
  rw [tb_ch]
  exact (if_neg h0).trans (if_pos h1)
theorem tb_ch_d {w h : Nat} {st : Nat → Nat} {k : Nat} (h0 : st k ≠ 0) (h1 : (tb_ch w h st k).1 (tb_are w h k) ≠ (tb_ch w h st k).1 (tb_bes w h k)) : tb_ch w h st (k + 1) = (fun x => if (tb_ch w h st k).1 x = (tb_ch w h st k).1 (tb_bes w h k) then (tb_ch w h st k).1 (tb_are w h k) else (tb_ch w h st k).1 x, fun x => if (tb_ch w h st k).1 x = (tb_ch w h st k).1 (tb_bes w h k) then (tb_ch w h st k).2.1 x != (((tb_ch w h st k).2.1 (tb_are w h k) != (tb_ch w h st k).2.1 (tb_bes w h k)) != (st k == 1)) else (tb_ch w h st k).2.1 x, (tb_ch w h st k).2.2) := by
  rw [tb_ch]
  exact (if_neg h0).trans (if_neg h1)
theorem tb_ch_le {w h : Nat} (hW : tb_W w h) (st : Nat → Nat) : ∀ k, k ≤ tb_ne w h → ∀ x, x ≤ tb_nc w h → (tb_ch w h st k).1 x ≤ tb_nc w h
  | 0, _, x, hx => hx
  | k + 1, hk, x, hx => by
    have ih := tb_ch_le hW st k (by omega)
    have hb := tb_ends hW k (by omega)
    by_cases h0 : st k = 0
    · rw [tb_ch_0 h0]; exact ih x hx
    · by_cases h1 : (tb_ch w h st k).1 (tb_are w h k) = (tb_ch w h st k).1 (tb_bes w h k)
      · rw [tb_ch_s h0 h1]; exact ih x hx
      · rw [tb_ch_d h0 h1]
        show (if _ then _ else _) ≤ _
        split
        · exact ih _ hb.2.2.2.1
        · exact ih x hx
def tb_fine (w h : Nat) (st : Nat → Nat) : Bool := (tb_ch w h st (tb_ne w h)).2.2
def rf_C (w h : Nat) (st : Nat → Nat) (k : Nat) (X : xs_T) : Prop := ∀ a, a ≤ tb_nc w h → X.2.2.1 35 a = nI ((tb_ch w h st k).1 a) ∧ X.2.2.1 36 a = tb_b ((tb_ch w h st k).2.1 a)
theorem tb_nar (b : Bool) : vp_nar .boolean (tb_b b) = tb_b b := by cases b <;> rfl
theorem tb_b_eq {a b : Bool} : tb_b a = tb_b b ↔ a = b := by cases a <;> cases b <;> decide
theorem tb_range_all {p : Nat → Bool} {q : Nat} : (List.range (q + 1)).all p = ((List.range q).all p && p q) := by simp [List.range_succ]
theorem tb_b1e : (1 : Int32) = tb_b true := rfl
theorem tb_b0e : (0 : Int32) = tb_b false := rfl
theorem tb_narrow (b : Bool) : narrow .boolean (.int (tb_b b)) = .int (tb_b b) := by cases b <;> rfl
