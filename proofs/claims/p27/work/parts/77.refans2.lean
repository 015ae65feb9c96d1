/-! the reference's questions of answers -/
abbrev rf_SZ : List Nat := [29, 30, 31, 32, 33, 34, 35, 36, 37, 38]
abbrev rf_FZ : List (Nat × Nat) := [(21, 17), (21, 18), (21, 24), (21, 25), (21, 26)]
def tb_cnt2 (w h : Nat) (num : Nat → Int32) (mk : Nat → Nat) (ig : Int32) : Nat := ((dv_loops w h).filter (tb_fit w h num mk ig)).length
abbrev tb_pk (w h : Nat) (num : Nat → Int32) (mk : Nat → Nat) (a : Int32) : Nat := dv_pick (tb_fit w h num mk (-1)) a (dv_loops w h) 0
abbrev tb_wi (w h : Nat) (num : Nat → Int32) (mk : Nat → Nat) (e : Nat) : Nat := tb_with (tb_fit w h num mk (-1)) (dv_loops w h) e
def tb_prv (w h : Nat) (num : Nat → Int32) (mk : Nat → Nat) (e : Nat) : Nat := if tb_wi w h num mk e = tb_cnt2 w h num mk (-1) then 1 else if tb_wi w h num mk e = 0 then 2 else 0
def tb_beyB (w h : Nat) (num : Nat → Int32) (mk : Nat → Nat) (e : Nat) : Bool := (tb_follow w h num mk).1 e == 0 && (tb_wi w h num mk e == tb_cnt2 w h num mk (-1) || tb_wi w h num mk e == 0)
def tb_bey (w h : Nat) (num : Nat → Int32) (mk : Nat → Nat) : Nat := fb_ct (tb_beyB w h num mk) (tb_ne w h)
theorem tb_cnt2_le {w h : Nat} (hW : tb_W w h) (num : Nat → Int32) (mk : Nat → Nat) (ig : Int32) : tb_cnt2 w h num mk ig ≤ 9349 := Nat.le_trans (List.length_filter_le ..) (dv_loops_le hW)
theorem tb_wi_le {w h : Nat} (hW : tb_W w h) (num : Nat → Int32) (mk : Nat → Nat) (e : Nat) : tb_wi w h num mk e ≤ 9349 := Nat.le_trans (tb_with_le ..) (tb_cnt2_le hW num mk (-1))
theorem tb_pk_in {w h : Nat} {num : Nat → Int32} {mk : Nat → Nat} {a : Int32} (h0 : tb_pk w h num mk a ≠ 0) : tb_pk w h num mk a ∈ dv_loops w h := dv_pick_in _ _ h0
theorem tb_pk_lt {w h : Nat} (hW : tb_W w h) (num : Nat → Int32) (mk : Nat → Nat) (a : Int32) : tb_pk w h num mk a < 2 ^ 40 := by
  by_cases q : tb_pk w h num mk a = 0
  · rw [q]; decide
  · exact dv_loops_lt hW (tb_pk_in q)
theorem tb_pk_0 {w h : Nat} (hW : tb_W w h) (num : Nat → Int32) (mk : Nat → Nat) : tb_pk w h num mk (nI 0) = 0 ↔ tb_cnt2 w h num mk (-1) = 0 := dv_pick_0 _ (fun _ hx => dv_loops_pos hW hx)
def tb_w4 (x : Int32) : Bool := decide (nI 1 ≤ x) && decide (x ≤ nI 4)
theorem tb_w4_nI {x : Int32} (h : tb_w4 x = true) : ∃ w : Nat, 1 ≤ w ∧ w ≤ 4 ∧ x = nI w := by
  unfold tb_w4 at h
  rw [Bool.and_eq_true, decide_eq_true_eq, decide_eq_true_eq] at h
  obtain ⟨s, h1, h2⟩ := nI_of2 (M := 4) (n := 4) (by decide) (fun q => absurd (fa_trans q (show (0 : Int32) ≤ nI 1 by decide)) (fun z => by
    have := h.1
    rw [fa_le] at this
    rw [fa_lt] at q
    have e1 : (nI 1).toInt = 1 := by decide
    have e0 : (0 : Int32).toInt = 0 := by decide
    omega)) h.2
  refine ⟨s, ?_, h1, h2⟩
  rcases Nat.eq_zero_or_pos s with q | q
  · exfalso
    rw [h2, q] at h
    exact absurd h.1 (by decide)
  · exact q
