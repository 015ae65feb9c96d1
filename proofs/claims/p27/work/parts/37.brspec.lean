/-! when a state is broken -/
def tb_cellBad (w h : Nat) (num : Nat → Int32) (st : Nat → Nat) (c : Nat) : Bool := !(num c == -1) && (decide (num c < nI (tb_ar w h st c 1)) || decide (nI (tb_ar w h st c 1 + tb_ar w h st c 0) < num c))
def tb_ptBad (w h : Nat) (st : Nat → Nat) (p : Nat) : Bool := decide (2 < tb_deg w h st p) || (tb_deg w h st p == 1 && tb_at w h st p 0 == 0)
def tb_broken (w h : Nat) (num : Nat → Int32) (st : Nat → Nat) : Nat :=
  if (List.range (tb_nc w h)).any (tb_cellBad w h num st) = true then 1 else if (List.range (tb_np w h)).any (tb_ptBad w h st) = true then 2
  else if (tb_hasLoop w h st && (decide (1 < tb_ways w h st) || !tb_right w h num st)) = true then 3 else if tb_fine w h st = true then 0 else 4
theorem tb_broken_le (w h : Nat) (num : Nat → Int32) (st : Nat → Nat) : tb_broken w h num st ≤ 4 := by
  unfold tb_broken
  repeat' split
  all_goals omega
/-! what the rules want: (wants, wanting) of each edge -/
abbrev tb_Wt : Type := (Nat → Nat) × (Nat → Nat)
def tb_want (st : Nat → Nat) (W : tb_Wt) (e how b : Nat) : tb_Wt := if st e = 0 then (fun j => if j = e then W.1 e ||| how else W.1 j, fun j => if j = e then (if W.2 e = 0 ∨ b < W.2 e then b else W.2 e) else W.2 j) else W
def rf_W (w h : Nat) (W : tb_Wt) (X : xs_T) : Prop := ∀ e, e < tb_ne w h → X.2.2.1 30 e = nI (W.1 e) ∧ X.2.2.1 31 e = nI (W.2 e) ∧ W.1 e ≤ 3 ∧ W.2 e ≤ 7
theorem rf_wfr {w h : Nat} {W : tb_Wt} {S : List Nat} {F : List (Nat × Nat)} {X Y : xs_T} (hS : rf_W w h W X) (hf : xs_fr S F X Y) (hq : (!decide (30 ∈ S) && !decide (31 ∈ S)) = true := by decide) : rf_W w h W Y := by
  simp only [Bool.and_eq_true, Bool.not_eq_true'] at hq
  intro e he
  rw [xs_fa hf 30 hq.1, xs_fa hf 31 hq.2]
  exact hS e he
def tb_wantA (w h : Nat) (st : Nat → Nat) (W : tb_Wt) (c how b : Nat) : Nat → tb_Wt
  | 0 => W
  | k + 1 => tb_want st (tb_wantA w h st W c how b k) (tb_sid w h c k) how b
def tb_wantP (w h : Nat) (st : Nat → Nat) (W : tb_Wt) (p how b : Nat) : Nat → tb_Wt
  | 0 => W
  | k + 1 => if tb_one w h k = p ∨ tb_oth w h k = p then tb_want st (tb_wantP w h st W p how b k) k how b else tb_wantP w h st W p how b k
def tb_askC (w h : Nat) (num : Nat → Int32) (st : Nat → Nat) : Nat → tb_Wt
  | 0 => (fun _ => 0, fun _ => 0)
  | c + 1 =>
    let W := tb_askC w h num st c
    let W1 := if num c = nI (tb_ar w h st c 1) then tb_wantA w h st W c 2 1 4 else W
    if num c = nI (tb_ar w h st c 1 + tb_ar w h st c 0) then tb_wantA w h st W1 c 1 2 4 else W1
def tb_askP1 (w h : Nat) (st : Nat → Nat) (W : tb_Wt) (p : Nat) : tb_Wt := if tb_deg w h st p = 2 then tb_wantP w h st W p 2 3 (tb_ne w h) else W
def tb_askP2 (w h : Nat) (st : Nat → Nat) (W : tb_Wt) (p : Nat) : tb_Wt := if tb_deg w h st p = 1 ∧ tb_at w h st p 0 = 1 then tb_wantP w h st W p 1 4 (tb_ne w h) else W
def tb_askP3 (w h : Nat) (st : Nat → Nat) (W : tb_Wt) (p : Nat) : tb_Wt := if tb_deg w h st p = 0 ∧ tb_at w h st p 0 = 1 then tb_wantP w h st W p 2 5 (tb_ne w h) else W
def tb_askP (w h : Nat) (num : Nat → Int32) (st : Nat → Nat) : Nat → tb_Wt
  | 0 => tb_askC w h num st (tb_nc w h)
  | p + 1 => tb_askP3 w h st (tb_askP2 w h st (tb_askP1 w h st (tb_askP w h num st p) p) p) p
def tb_set (st : Nat → Nat) (e v : Nat) : Nat → Nat := fun j => if j = e then v else st j
def tb_closes (w h : Nat) (num : Nat → Int32) (st : Nat → Nat) (e : Nat) : Bool := tb_isLoop w h (tb_set st e 1) && tb_right w h num (tb_set st e 1)
def tb_askE6 (w h : Nat) (num : Nat → Int32) (st : Nat → Nat) (W : tb_Wt) (e : Nat) : tb_Wt := if st e = 0 ∧ tb_L w h (tb_isL st) (tb_one w h e) = tb_L w h (tb_isL st) (tb_oth w h e) ∧ tb_closes w h num st e = false then tb_want st W e 2 6 else W
def tb_chE (w h : Nat) (st : Nat → Nat) : (Nat → Nat) × (Nat → Bool) × Bool := tb_ch w h st (tb_ne w h)
def tb_askE7 (w h : Nat) (st : Nat → Nat) (W : tb_Wt) (e : Nat) : tb_Wt := if (tb_chE w h st).1 (tb_are w h e) = (tb_chE w h st).1 (tb_bes w h e) then tb_want st W e (if (tb_chE w h st).2.1 (tb_are w h e) = (tb_chE w h st).2.1 (tb_bes w h e) then 2 else 1) 7 else W
def tb_askE (w h : Nat) (num : Nat → Int32) (st : Nat → Nat) : Nat → tb_Wt
  | 0 => tb_askP w h num st (tb_np w h)
  | e + 1 => tb_askE7 w h st (tb_askE6 w h num st (tb_askE w h num st e) e) e
def tb_asks (w h : Nat) (num : Nat → Int32) (st : Nat → Nat) : tb_Wt := tb_askE w h num st (tb_ne w h)
theorem tb_ptBad_t {w h : Nat} {st : Nat → Nat} {p : Nat} (hp : 2 < tb_at w h st p 1 ∨ (tb_at w h st p 1 = 1 ∧ tb_at w h st p 0 = 0)) : tb_ptBad w h st p = true := by
  unfold tb_ptBad tb_deg
  rw [Bool.or_eq_true, Bool.and_eq_true, decide_eq_true_eq, beq_iff_eq, beq_iff_eq]
  exact hp
theorem tb_ptBad_f {w h : Nat} {st : Nat → Nat} {p : Nat} (hp : ¬ (2 < tb_at w h st p 1 ∨ (tb_at w h st p 1 = 1 ∧ tb_at w h st p 0 = 0))) : tb_ptBad w h st p = false := by
  rw [Bool.eq_false_iff]
  intro h2
  unfold tb_ptBad tb_deg at h2
  rw [Bool.or_eq_true, Bool.and_eq_true, decide_eq_true_eq, beq_iff_eq, beq_iff_eq] at h2
  exact hp h2
theorem rf_cfr {w h : Nat} {st : Nat → Nat} {k : Nat} {S : List Nat} {F : List (Nat × Nat)} {X Y : xs_T} (hS : rf_C w h st k X) (hf : xs_fr S F X Y) (hq : (!decide (35 ∈ S) && !decide (36 ∈ S)) = true := by decide) : rf_C w h st k Y := by
  simp only [Bool.and_eq_true, Bool.not_eq_true'] at hq
  intro e he
  rw [xs_fa hf 35 hq.1, xs_fa hf 36 hq.2]
  exact hS e he
