/-! what the reference finds of a state's lines: labels, ways, loops -/
theorem rf_fr {w h : Nat} {S : List Nat} {F : List (Nat × Nat)} {X Y : xs_T} (hT : rf_T w h X) (hf : xs_fr S F X Y) (hq : (([22, 23, 24, 25, 26] : List Nat).all (fun q => !decide (q ∈ S)) && ([(21, 0), (21, 1), (21, 2), (21, 3), (21, 4)] : List (Nat × Nat)).all (fun q => !decide (q ∈ F))) = true := by decide) : rf_T w h Y := by
  simp only [List.all_cons, List.all_nil, Bool.and_true, Bool.and_eq_true, Bool.not_eq_true', decide_eq_false_iff_not] at hq
  obtain ⟨⟨a1, a2, a3, a4, a5⟩, b1, b2, b3, b4, b5⟩ := hq
  obtain ⟨h0, h1, h2, h3, h4, h5, h6, h7, h8, h9, h10⟩ := hT
  exact ⟨h0, (hf.1 _ _ b1).1.trans h1, (hf.1 _ _ b2).1.trans h2, (hf.1 _ _ b3).1.trans h3, (hf.1 _ _ b4).1.trans h4, (hf.1 _ _ b5).1.trans h5, by rw [(hf.2 _ a1).1]; exact h6, by rw [(hf.2 _ a2).1]; exact h7, by rw [(hf.2 _ a3).1]; exact h8, by rw [(hf.2 _ a4).1]; exact h9, by rw [(hf.2 _ a5).1]; exact h10⟩
theorem rf_sfr {w h : Nat} {st : Nat → Nat} {S : List Nat} {F : List (Nat × Nat)} {X Y : xs_T} (hS : rf_S w h st X) (hf : xs_fr S F X Y) (hq : decide (29 ∈ S) = false := by decide) : rf_S w h st Y := by
  intro e he
  rw [xs_fa hf 29 hq]
  exact hS e he
def rf_N (w h : Nat) (num : Nat → Int32) (X : xs_T) : Prop := ∀ c, c < tb_nc w h → X.2.2.1 27 c = num c
theorem rf_nfr {w h : Nat} {num : Nat → Int32} {S : List Nat} {F : List (Nat × Nat)} {X Y : xs_T} (hS : rf_N w h num X) (hf : xs_fr S F X Y) (hq : decide (27 ∈ S) = false := by decide) : rf_N w h num Y := by
  intro e he
  rw [xs_fa hf 27 hq]
  exact hS e he
/-- the labels of the points, behind the first k edges: S tells the lines -/
def tb_lab (w h : Nat) (S : Nat → Bool) : Nat → Nat → Nat
  | 0, p => p
  | k + 1, p =>
    let a := tb_lab w h S k (tb_one w h k)
    let b := tb_lab w h S k (tb_oth w h k)
    if S k = true ∧ a ≠ b then (if tb_lab w h S k p = (if a < b then b else a) then (if a < b then a else b) else tb_lab w h S k p) else tb_lab w h S k p
theorem tb_lab_le (w h : Nat) (S : Nat → Bool) : ∀ k p, tb_lab w h S k p ≤ p
  | 0, p => Nat.le_refl _
  | k + 1, p => by
    have h1 := tb_lab_le w h S k p
    rw [tb_lab]
    repeat' split
    all_goals omega
def tb_L (w h : Nat) (S : Nat → Bool) (p : Nat) : Nat := tb_lab w h S (tb_ne w h) p
def rf_L (w h : Nat) (S : Nat → Bool) (X : xs_T) : Prop := ∀ p, p < tb_np w h → X.2.2.1 34 p = nI (tb_L w h S p)
theorem rf_lfr {w h : Nat} {S' : Nat → Bool} {S : List Nat} {F : List (Nat × Nat)} {X Y : xs_T} (hS : rf_L w h S' X) (hf : xs_fr S F X Y) (hq : decide (34 ∈ S) = false := by decide) : rf_L w h S' Y := by
  intro e he
  rw [xs_fa hf 34 hq]
  exact hS e he
def tb_isL (st : Nat → Nat) (e : Nat) : Bool := st e == 1
def tb_deg (w h : Nat) (st : Nat → Nat) (p : Nat) : Nat := tb_at w h st p 1
def tb_wayB (w h : Nat) (st : Nat → Nat) (p : Nat) : Bool := tb_L w h (tb_isL st) p == p && decide (0 < tb_deg w h st p)
def tb_ways (w h : Nat) (st : Nat → Nat) : Nat := fb_ct (tb_wayB w h st) (tb_np w h)
def tb_isLoop (w h : Nat) (st : Nat → Nat) : Bool := (List.range (tb_np w h)).all (fun p => tb_deg w h st p == 0 || tb_deg w h st p == 2) && tb_ways w h st == 1
def tb_closed (w h : Nat) (st : Nat → Nat) (p : Nat) : Bool := tb_wayB w h st p && (List.range (tb_np w h)).all (fun q => !(tb_L w h (tb_isL st) q == p) || tb_deg w h st q == 2)
def tb_hasLoop (w h : Nat) (st : Nat → Nat) : Bool := (List.range (tb_np w h)).any (tb_closed w h st)
def tb_rightB (w h : Nat) (num : Nat → Int32) (st : Nat → Nat) (c : Nat) : Bool := num c == -1 || nI (tb_ar w h st c 1) == num c
def tb_right (w h : Nat) (num : Nat → Int32) (st : Nat → Nat) : Bool := (List.range (tb_nc w h)).all (tb_rightB w h num st)
theorem tb_L_lt {w h : Nat} {S : Nat → Bool} {p : Nat} (hp : p < tb_np w h) : tb_L w h S p < tb_np w h := Nat.lt_of_le_of_lt (tb_lab_le w h S _ p) hp
def tb_b (b : Bool) : Int32 := if b then 1 else 0
theorem tb_b_t {b : Bool} (h : b = true) : (1 : Int32) = tb_b b := by rw [h]; rfl
theorem tb_b_f {b : Bool} (h : b = false) : (0 : Int32) = tb_b b := by rw [h]; rfl
theorem tb_b0 {b : Bool} : tb_b b = 0 ↔ b = false := by cases b <;> decide
theorem tb_b1 {b : Bool} : ¬ tb_b b = 0 ↔ b = true := by cases b <;> decide
theorem tb_vt {b : Bool} (h : b = true) : some (Value.int 1) = some (Value.int (tb_b b)) := by rw [h]; rfl
theorem tb_vf {b : Bool} (h : b = false) : some (Value.int 0) = some (Value.int (tb_b b)) := by rw [h]; rfl
