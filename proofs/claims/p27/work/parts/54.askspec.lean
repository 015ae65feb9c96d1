theorem dv_fw_lt {w h S : Nat} (hS : S < 2 ^ 40) : dv_fw w h S < 2 ^ 40 := by
  have : ∀ k V, V < 2 ^ 40 → dv_grow w h S k V < 2 ^ 40 := by
    intro k
    induction k with
    | zero => intro V hV; exact hV
    | succ k ih =>
      intro V hV
      rw [dv_grow]
      split
      · exact hV
      · exact ih _ (dv_pass_lt hS hV _)
  exact this 40 _ (dv_low_lt hS (by decide))
theorem dv_cmp {a b : Nat} (ha : a < 2 ^ 63) (hb : b < 2 ^ 63) : lg_cmp (lN a) (lN b) = 0 ↔ a = b := by
  have e : lN a = lN b ↔ a = b := pk_lEQ ha hb
  unfold lg_cmp
  by_cases q : a = b
  · subst q; simp
  · have q2 : ¬ lN a = lN b := fun z => q (e.mp z)
    simp [q, q2]
    split <;> decide
def dv_minus (A B : Nat) : Nat := bm (fun e => A.testBit e && !B.testBit e) 40
theorem dv_minus_lt (A B : Nat) : dv_minus A B < 2 ^ 40 := bm_lt _ _
/-- some way of rest is a loop, and besides there is another line, or a number that isn't right -/
def dv_bl (w h : Nat) (num : Nat → Int32) (L : Nat) : Nat → Nat → Bool
  | 0, _ => false
  | k + 1, rest => if rest = 0 then false else if (dv_isLoop w h (dv_fw w h rest) && (!(dv_fw w h rest == L) || !dv_right w h num L (-1))) = true then true else dv_bl w h num L k (dv_minus rest (dv_fw w h rest))
def dv_broken (w h : Nat) (num : Nat → Int32) (st : Nat → Nat) : Nat :=
  if (List.range (tb_nc w h)).any (tb_cellBad w h num st) = true then 1 else if (List.range (tb_np w h)).any (tb_ptBad w h st) = true then 2
  else if dv_bl w h num (dv_S w h st 1) 40 (dv_S w h st 1) = true then 3 else if tb_fine w h st = true then 0 else 4
/-- what the class's rules want: by rule, all lines, all crosses -/
abbrev dv_Wt : Type := (Nat → Nat) × Nat × Nat
def dv_D (D : dv_Wt) (X : xs_T) : Prop := (∀ r, r < 8 → X.2.2.2 15 r = lN (D.1 r) ∧ D.1 r < 2 ^ 40) ∧ (X.2.1 11 5 = lN D.2.1 ∧ D.2.1 < 2 ^ 40) ∧ (X.2.1 11 6 = lN D.2.2 ∧ D.2.2 < 2 ^ 40)
def dv_want (U : Nat) (D : dv_Wt) (r how m : Nat) : dv_Wt := (va_up D.1 r (D.1 r ||| (m &&& U)), if how = 1 then D.2.1 ||| (m &&& U) else D.2.1, if how = 1 then D.2.2 else D.2.2 ||| (m &&& U))
theorem dv_dfr {D : dv_Wt} {S : List Nat} {F : List (Nat × Nat)} {X Y : xs_T} (hD : dv_D D X) (hf : xs_fr S F X Y) (hq : (!decide (15 ∈ S) && !decide ((11, 5) ∈ F) && !decide ((11, 6) ∈ F)) = true := by decide) : dv_D D Y := by
  simp only [Bool.and_eq_true, Bool.not_eq_true'] at hq
  obtain ⟨⟨q1, q2⟩, q3⟩ := hq
  refine ⟨fun r hr => ?_, ⟨xs_fl hf 11 5 hD.2.1.1 q2, hD.2.1.2⟩, ⟨xs_fl hf 11 6 hD.2.2.1 q3, hD.2.2.2⟩⟩
  rw [xs_fb hf 15 q1]
  exact hD.1 r hr
def dv_rl (D : dv_Wt) (e : Nat) : Nat → Nat → Int32
  | 0, _ => -1
  | k + 1, r => if (D.1 r).testBit e = true then nI r else dv_rl D e k (r + 1)
def dv_askC (w h : Nat) (num : Nat → Int32) (st : Nat → Nat) : Nat → dv_Wt
  | 0 => (fun _ => 0, 0, 0)
  | c + 1 =>
    let D := dv_askC w h num st c
    let D1 := if num c ≠ -1 ∧ num c = nI (tb_ar w h st c 1) then dv_want (dv_S w h st 0) D 1 2 (dv_ea w h c) else D
    if num c ≠ -1 ∧ num c = nI (tb_ar w h st c 1 + tb_ar w h st c 0) then dv_want (dv_S w h st 0) D1 2 1 (dv_ea w h c) else D1
def dv_askP1 (w h : Nat) (st : Nat → Nat) (D : dv_Wt) (p : Nat) : dv_Wt := if tb_at w h st p 1 = 2 then dv_want (dv_S w h st 0) D 3 2 (dv_ep w h p) else D
def dv_askP2 (w h : Nat) (st : Nat → Nat) (D : dv_Wt) (p : Nat) : dv_Wt := if tb_at w h st p 1 = 1 ∧ tb_at w h st p 0 = 1 then dv_want (dv_S w h st 0) D 4 1 (dv_ep w h p) else D
def dv_askP3 (w h : Nat) (st : Nat → Nat) (D : dv_Wt) (p : Nat) : dv_Wt := if tb_at w h st p 1 = 0 ∧ tb_at w h st p 0 = 1 then dv_want (dv_S w h st 0) D 5 2 (dv_ep w h p) else D
def dv_askP (w h : Nat) (num : Nat → Int32) (st : Nat → Nat) : Nat → dv_Wt
  | 0 => dv_askC w h num st (tb_nc w h)
  | p + 1 => dv_askP3 w h st (dv_askP2 w h st (dv_askP1 w h st (dv_askP w h num st p) p) p) p
def dv_joins (w h V e : Nat) : Bool := !(dv_deg w h V (tb_one w h e) == 0) && !(dv_deg w h V (tb_oth w h e) == 0)
def dv_shut (w h : Nat) (num : Nat → Int32) (L e : Nat) : Bool := dv_isLoop w h (L ||| 2 ^ e) && dv_right w h num (L ||| 2 ^ e) (-1)
def dv_askW1 (w h : Nat) (num : Nat → Int32) (st : Nat → Nat) (V : Nat) (D : dv_Wt) : Nat → dv_Wt
  | 0 => D
  | e + 1 => if st e = 0 ∧ dv_joins w h V e = true ∧ dv_shut w h num (dv_S w h st 1) e = false then dv_want (dv_S w h st 0) (dv_askW1 w h num st V D e) 6 2 (2 ^ e) else dv_askW1 w h num st V D e
def dv_askW (w h : Nat) (num : Nat → Int32) (st : Nat → Nat) : Nat → Nat → dv_Wt → dv_Wt
  | 0, _, D => D
  | k + 1, rest, D => if rest = 0 then D else dv_askW w h num st k (dv_minus rest (dv_fw w h rest)) (dv_askW1 w h num st (dv_fw w h rest) D (tb_ne w h))
def dv_askE (w h : Nat) (st : Nat → Nat) (D : dv_Wt) : Nat → dv_Wt
  | 0 => D
  | e + 1 => if (tb_chE w h st).1 (tb_are w h e) = (tb_chE w h st).1 (tb_bes w h e) then dv_want (dv_S w h st 0) (dv_askE w h st D e) 7 (if (tb_chE w h st).2.1 (tb_are w h e) = (tb_chE w h st).2.1 (tb_bes w h e) then 2 else 1) (2 ^ e) else dv_askE w h st D e
def dv_asks (w h : Nat) (num : Nat → Int32) (st : Nat → Nat) : dv_Wt := dv_askE w h st (dv_askW w h num st 40 (dv_S w h st 1) (dv_askP w h num st (tb_np w h))) (tb_ne w h)
abbrev dv_SA : List Nat := [15]
abbrev dv_FA : List (Nat × Nat) := [(11, 5), (11, 6)]
