/-! the class's state: lines, crosses and unknown edges of st as sets -/
def dv_S (w h : Nat) (st : Nat → Nat) (how : Nat) : Nat := bm (fun e => st e == how) (tb_ne w h)
theorem dv_S_lt {w h : Nat} (hW : tb_W w h) (st : Nat → Nat) (how : Nat) : dv_S w h st how < 2 ^ 40 := dv_set_lt hW (bm_lt _ _)
theorem dv_S_bit {w h : Nat} {st : Nat → Nat} {how e : Nat} (he : e < tb_ne w h) : (dv_S w h st how).testBit e = (st e == how) := by
  unfold dv_S
  rw [bm_bit, decide_eq_true he]; rfl
theorem dv_deg_S (w h : Nat) (st : Nat → Nat) (how p : Nat) : dv_deg w h (dv_S w h st how) p = tb_at w h st p how := by
  unfold dv_deg tb_at
  refine fb_ct_cong (fun e he => ?_)
  rw [dv_S_bit he]
  unfold tb_atB dv_inc
  exact Bool.and_comm _ _
theorem fb_ct_one (P : Nat → Bool) {n a : Nat} (ha : a < n) : fb_ct (fun e => P e && e == a) n = if P a = true then 1 else 0 := by
  have h := fb_ct_upd (fun _ => false) (P a) ha
  have h0 : fb_ct (fun _ => false) n = 0 := fb_ct_zero.mpr (fun _ _ => rfl)
  rw [h0] at h
  have e : fb_ct (fun e => P e && e == a) n = fb_ct (fun k => if k = a then P a else false) n := fb_ct_cong (fun k _ => by
    by_cases q : k = a
    · subst q; simp
    · simp [q])
  rw [e]
  simpa using h
theorem dv_four {w h : Nat} (hW : tb_W w h) : ∀ c, c < tb_nc w h → ∀ e, e < tb_ne w h → dv_inA w h c e = ((e == tb_sid w h c 0 || e == tb_sid w h c 1) || (e == tb_sid w h c 2 || e == tb_sid w h c 3)) :=
  tb_all (P := fun w h => ∀ c, c < tb_nc w h → ∀ e, e < tb_ne w h → dv_inA w h c e = ((e == tb_sid w h c 0 || e == tb_sid w h c 1) || (e == tb_sid w h c 2 || e == tb_sid w h c 3))) (by decide +kernel) hW
theorem dv_apart {w h : Nat} (hW : tb_W w h) : ∀ c, c < tb_nc w h → tb_sid w h c 0 ≠ tb_sid w h c 1 ∧ tb_sid w h c 2 ≠ tb_sid w h c 3 ∧ tb_sid w h c 0 ≠ tb_sid w h c 2 ∧ tb_sid w h c 0 ≠ tb_sid w h c 3 ∧ tb_sid w h c 1 ≠ tb_sid w h c 2 ∧ tb_sid w h c 1 ≠ tb_sid w h c 3 :=
  tb_all (P := fun w h => ∀ c, c < tb_nc w h → tb_sid w h c 0 ≠ tb_sid w h c 1 ∧ tb_sid w h c 2 ≠ tb_sid w h c 3 ∧ tb_sid w h c 0 ≠ tb_sid w h c 2 ∧ tb_sid w h c 0 ≠ tb_sid w h c 3 ∧ tb_sid w h c 1 ≠ tb_sid w h c 2 ∧ tb_sid w h c 1 ≠ tb_sid w h c 3) (by decide +kernel) hW
/-- the edges around a cell, counted by the board's rows or by its four sides -/
theorem dv_around {w h : Nat} (hW : tb_W w h) (P : Nat → Bool) {c : Nat} (hc : c < tb_nc w h) : fb_ct (fun e => P e && dv_inA w h c e) (tb_ne w h) = fb_ct (fun s => P (tb_sid w h c s)) 4 := by
  have hs := tb_sides hW c hc
  obtain ⟨a1, a2, a3, a4, a5, a6⟩ := dv_apart hW c hc
  have e : fb_ct (fun e => P e && dv_inA w h c e) (tb_ne w h) = fb_ct (fun e => ((P e && e == tb_sid w h c 0) || (P e && e == tb_sid w h c 1)) || ((P e && e == tb_sid w h c 2) || (P e && e == tb_sid w h c 3))) (tb_ne w h) := fb_ct_cong (fun e he => by
    rw [dv_four hW c hc e he]
    cases P e <;> simp)
  have o1 := fb_ct_or (p := fun e => P e && e == tb_sid w h c 0) (q := fun e => P e && e == tb_sid w h c 1) (n := tb_ne w h) (fun k _ => by simp; intro _ q1 _ q2; exact a1 (q1.symm.trans q2))
  have o2 := fb_ct_or (p := fun e => P e && e == tb_sid w h c 2) (q := fun e => P e && e == tb_sid w h c 3) (n := tb_ne w h) (fun k _ => by simp; intro _ q1 _ q2; exact a2 (q1.symm.trans q2))
  have o3 := fb_ct_or (p := fun e => (P e && e == tb_sid w h c 0) || (P e && e == tb_sid w h c 1)) (q := fun e => (P e && e == tb_sid w h c 2) || (P e && e == tb_sid w h c 3)) (n := tb_ne w h) (fun k _ => by
    rintro ⟨q1, q2⟩
    simp only [Bool.or_eq_true, Bool.and_eq_true, beq_iff_eq] at q1 q2
    rcases q1 with ⟨_, z1⟩ | ⟨_, z1⟩ <;> rcases q2 with ⟨_, z2⟩ | ⟨_, z2⟩
    · exact a3 (z1.symm.trans z2)
    · exact a4 (z1.symm.trans z2)
    · exact a5 (z1.symm.trans z2)
    · exact a6 (z1.symm.trans z2))
  rw [e, o3, o1, o2, fb_ct_one P (hs 0 (by decide)), fb_ct_one P (hs 1 (by decide)), fb_ct_one P (hs 2 (by decide)), fb_ct_one P (hs 3 (by decide))]
  show _ = (((0 + _) + _) + _) + _
  dsimp only
  omega
theorem dv_arS_S {w h : Nat} (hW : tb_W w h) (st : Nat → Nat) (how : Nat) {c : Nat} (hc : c < tb_nc w h) : dv_arS w h (dv_S w h st how) c = tb_ar w h st c how := by
  have e1 : dv_arS w h (dv_S w h st how) c = fb_ct (fun e => (st e == how) && dv_inA w h c e) (tb_ne w h) := fb_ct_cong (fun e he => by rw [dv_S_bit he])
  rw [e1, dv_around hW (fun e => st e == how) hc]
  rfl
/-- x & ~y -/
theorem dv_not {A B : Nat} (hA : A < 2 ^ 40) (hB : B < 2 ^ 40) : lN A &&& (lN B ^^^ (-1)) = lN (bm (fun e => A.testBit e && !B.testBit e) 40) := by
  have e1 : (-1 : Int64) = lN (2 ^ 64 - 1) := by decide +kernel
  rw [e1, lN_xor, wb_and (by omega) (Nat.xor_lt_two_pow (by omega) (by omega))]
  refine congrArg lN (bm_ext fun k => ?_)
  rw [Nat.testBit_and, Nat.testBit_xor, Nat.testBit_two_pow_sub_one, bm_bit]
  by_cases hk : k < 40
  · rw [decide_eq_true hk, decide_eq_true (show k < 64 by omega)]
    cases A.testBit k <;> cases B.testBit k <;> rfl
  · rw [decide_eq_false hk, bm_hi hA (by omega)]; rfl
theorem dv_unk {w h : Nat} (hW : tb_W w h) {st : Nat → Nat} (hst : ∀ e, e < tb_ne w h → st e ≤ 2) : (lN (2 ^ tb_ne w h - 1) &&& (lN (dv_S w h st 1) ^^^ (-1))) &&& (lN (dv_S w h st 2) ^^^ (-1)) = lN (dv_S w h st 0) := by
  have hz := tb_sizes hW
  have hp : 2 ^ tb_ne w h ≤ 2 ^ 40 := Nat.pow_le_pow_right (by decide) hz.2.2.2.2.2.1
  have hp0 := Nat.two_pow_pos (tb_ne w h)
  rw [dv_not (by omega) (dv_S_lt hW st 1), dv_not (bm_lt _ _) (dv_S_lt hW st 2)]
  refine congrArg lN (bm_ext fun k => ?_)
  rw [bm_bit, bm_bit, Nat.testBit_two_pow_sub_one]
  unfold dv_S
  rw [bm_bit, bm_bit, bm_bit]
  by_cases hk : k < tb_ne w h
  · rw [decide_eq_true hk, decide_eq_true (show k < 40 by omega)]
    have := hst k hk
    have h3 : st k = 0 ∨ st k = 1 ∨ st k = 2 := by omega
    rcases h3 with h3 | h3 | h3 <;> rw [h3] <;> rfl
  · rw [decide_eq_false hk]; simp
/-- colours of the areas behind the first k edges -/
def dv_C (w h : Nat) (st : Nat → Nat) (k : Nat) (X : xs_T) : Prop := (∀ a, a ≤ tb_nc w h → X.2.2.1 13 a = nI ((tb_ch w h st k).1 a) ∧ X.2.2.1 14 a = tb_b ((tb_ch w h st k).2.1 a)) ∧ X.1 12 2 = nI (tb_nc w h + 1) ∧ X.1 12 3 = tb_b (!(tb_ch w h st k).2.2)
theorem tb_bx (a b : Bool) : tb_b a ^^^ tb_b b = tb_b (a != b) := by cases a <;> cases b <;> decide
def dv_K (w h : Nat) (st : Nat → Nat) (X : xs_T) : Prop := X.2.1 11 3 = lN (dv_S w h st 1) ∧ X.2.1 11 4 = lN (dv_S w h st 0)
theorem tb_fits (b : Bool) : fits .boolean (.int (tb_b b)) = true := by cases b <;> rfl
theorem tb_ne_t {u v : Bool} (h : ¬ u = v) : true = (u != v) := by cases u <;> cases v <;> simp_all
theorem tb_ne_f {u v : Bool} (h : u = v) : false = (u != v) := by cases u <;> cases v <;> simp_all
