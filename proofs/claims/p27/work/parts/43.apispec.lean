/-! arguments in range -/
def tb_inB (x : Int32) (N : Nat) : Bool := decide (0 ≤ x) && decide (x < nI N)
theorem tb_inB_nI {j N : Nat} (hj : j < N) (hN : N < 2 ^ 31) : tb_inB (nI j) N = true := by
  unfold tb_inB
  rw [decide_eq_true (nI_pos' (by omega)), decide_eq_true (nI_lt hj hN)]; rfl
theorem tb_inB_cases (x : Int32) {N : Nat} (hN : N < 2 ^ 31) : tb_inB x N = false ∨ ∃ j, j < N ∧ x = nI j := by
  rcases pk_ix x hN with h | h | h
  · left; unfold tb_inB; rw [decide_eq_false (Int32.not_le.mpr h)]; rfl
  · left; unfold tb_inB; rw [decide_eq_false (Int32.not_lt.mpr h), Bool.and_false]
  · exact Or.inr h
def tb_numOk (v : Int32) : Bool := decide (-1 ≤ v) && decide (v ≤ 3)
def tb_stOk (v : Int32) : Bool := decide (0 ≤ v) && decide (v ≤ 2)
theorem tb_stOk_nI {v : Int32} (h : tb_stOk v = true) : ∃ s : Nat, s ≤ 2 ∧ v = nI s := by
  unfold tb_stOk at h
  rw [Bool.and_eq_true, decide_eq_true_eq, decide_eq_true_eq] at h
  exact nI_of2 (M := 2) (n := 2) (by decide) (Int32.not_lt.mpr h.1) h.2
def tb_thr (a b : Bool) : Int32 := if a then (if b then 0 else 2) else 1
def tb_up {α : Type} (f : Nat → α) (k : Nat) (v : α) : Nat → α := fun j => if j = k then v else f j
/-- the reference between calls -/
def rf_A (w h : Nat) (num : Nat → Int32) (mk : Nat → Nat) (X : xs_T) : Prop := rf_T w h X ∧ rf_M w h mk X ∧ rf_N w h num X
def tb_became (w h : Nat) (mk st : Nat → Nat) : Nat := fb_ct (fun e => !(mk e == st e)) (tb_ne w h)
def tb_hint (w h : Nat) (num : Nat → Int32) (mk : Nat → Nat) : Int32 := if tb_broken w h num mk ≠ 0 then -1 else if fa_first (fun e => !((tb_asks w h num mk).1 e == 0)) (tb_ne w h) < tb_ne w h then nI (fa_first (fun e => !((tb_asks w h num mk).1 e == 0)) (tb_ne w h)) else -1
abbrev rf_SQ : List Nat := [29, 30, 31, 32, 33, 34, 35, 36]
abbrev rf_FQ : List (Nat × Nat) := [(21, 17), (21, 18), (21, 26)]
theorem rf_afr {w h : Nat} {num : Nat → Int32} {mk : Nat → Nat} {S : List Nat} {F : List (Nat × Nat)} {X Y : xs_T} (hA : rf_A w h num mk X) (hf : xs_fr S F X Y) (hq : (([22, 23, 24, 25, 26] : List Nat).all (fun q => !decide (q ∈ S)) && ([(21, 0), (21, 1), (21, 2), (21, 3), (21, 4)] : List (Nat × Nat)).all (fun q => !decide (q ∈ F))) = true := by decide) (h28 : decide (28 ∈ S) = false := by decide) (h27 : decide (27 ∈ S) = false := by decide) : rf_A w h num mk Y :=
  ⟨rf_fr hA.1 hf hq, rf_mfr hA.2.1 hf h28, rf_nfr hA.2.2 hf h27⟩
