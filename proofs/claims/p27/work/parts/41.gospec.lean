/-! the rounds: (states, round of each edge, rule of each edge, how many rounds, why they end) -/
abbrev tb_Go : Type := (Nat → Nat) × (Nat → Int32) × (Nat → Int32) × Nat × Nat
def tb_dec (W : tb_Wt) (st : Nat → Nat) : Nat → Nat := fun e => if W.1 e = 0 then st e else W.1 e
def tb_decR (W : tb_Wt) (rd : Nat → Int32) (c : Nat) : Nat → Int32 := fun e => if W.1 e = 0 then rd e else nI c
def tb_decL (W : tb_Wt) (rl : Nat → Int32) : Nat → Int32 := fun e => if W.1 e = 0 then rl e else nI (W.2 e)
def tb_torn (w h : Nat) (W : tb_Wt) : Bool := (List.range (tb_ne w h)).any (fun e => W.1 e == 3)
def tb_more (w h : Nat) (W : tb_Wt) : Bool := (List.range (tb_ne w h)).any (fun e => !(W.1 e == 0))
def tb_go (w h : Nat) (num : Nat → Int32) : Nat → (Nat → Nat) → (Nat → Int32) → (Nat → Int32) → Nat → tb_Go
  | 0, st, rd, rl, c => (st, rd, rl, c, 0)
  | k + 1, st, rd, rl, c =>
    if tb_broken w h num st ≠ 0 then (st, rd, rl, c, tb_broken w h num st)
    else if tb_torn w h (tb_asks w h num st) = true then (st, rd, rl, c, 5)
    else if tb_more w h (tb_asks w h num st) = true then tb_go w h num k (tb_dec (tb_asks w h num st) st) (tb_decR (tb_asks w h num st) rd (c + 1)) (tb_decL (tb_asks w h num st) rl) (c + 1)
    else (st, rd, rl, c, 0)
def tb_rd0 (mk : Nat → Nat) : Nat → Int32 := fun e => if mk e = 0 then -1 else 0
def tb_follow (w h : Nat) (num : Nat → Int32) (mk : Nat → Nat) : tb_Go := tb_go w h num 41 mk (tb_rd0 mk) (fun _ => -1) 0
/-- only unknown edges want anything -/
def tb_wok (st : Nat → Nat) (W : tb_Wt) : Prop := ∀ e, st e ≠ 0 → W.1 e = 0
theorem tb_wok_w {st : Nat → Nat} {W : tb_Wt} (h : tb_wok st W) (e how b : Nat) : tb_wok st (tb_want st W e how b) := by
  intro j hj
  unfold tb_want
  split
  · rename_i h0
    show (if j = e then _ else _) = 0
    rw [if_neg (fun q => hj (by rw [q]; exact h0))]
    exact h j hj
  · exact h j hj
theorem tb_wok_A {w h : Nat} {st : Nat → Nat} {W : tb_Wt} (hk : tb_wok st W) (c how b : Nat) : ∀ k, tb_wok st (tb_wantA w h st W c how b k)
  | 0 => hk
  | k + 1 => tb_wok_w (tb_wok_A hk c how b k) _ _ _
theorem tb_wok_P {w h : Nat} {st : Nat → Nat} {W : tb_Wt} (hk : tb_wok st W) (p how b : Nat) : ∀ k, tb_wok st (tb_wantP w h st W p how b k)
  | 0 => hk
  | k + 1 => by
    rw [tb_wantP]
    split
    · exact tb_wok_w (tb_wok_P hk p how b k) _ _ _
    · exact tb_wok_P hk p how b k
theorem tb_wok_C {w h : Nat} {num : Nat → Int32} {st : Nat → Nat} : ∀ c, tb_wok st (tb_askC w h num st c)
  | 0 => fun _ _ => rfl
  | c + 1 => by
    have ih := tb_wok_C (w := w) (h := h) (num := num) (st := st) c
    rw [tb_askC]
    repeat' split
    all_goals first | exact tb_wok_A (tb_wok_A ih _ _ _ _) _ _ _ _ | exact tb_wok_A ih _ _ _ _ | exact ih
theorem tb_wok_Q {w h : Nat} {num : Nat → Int32} {st : Nat → Nat} : ∀ p, tb_wok st (tb_askP w h num st p)
  | 0 => tb_wok_C _
  | p + 1 => by
    have ih := tb_wok_Q (w := w) (h := h) (num := num) (st := st) p
    have a1 : tb_wok st (tb_askP1 w h st (tb_askP w h num st p) p) := by unfold tb_askP1; split; exact tb_wok_P ih _ _ _ _; exact ih
    have a2 : tb_wok st (tb_askP2 w h st (tb_askP1 w h st (tb_askP w h num st p) p) p) := by unfold tb_askP2; split; exact tb_wok_P a1 _ _ _ _; exact a1
    rw [tb_askP]
    unfold tb_askP3
    split
    · exact tb_wok_P a2 _ _ _ _
    · exact a2
theorem tb_wok_E {w h : Nat} {num : Nat → Int32} {st : Nat → Nat} : ∀ e, tb_wok st (tb_askE w h num st e)
  | 0 => tb_wok_Q _
  | e + 1 => by
    have ih := tb_wok_E (w := w) (h := h) (num := num) (st := st) e
    have a1 : tb_wok st (tb_askE6 w h num st (tb_askE w h num st e) e) := by unfold tb_askE6; split; exact tb_wok_w ih _ _ _; exact ih
    rw [tb_askE]
    unfold tb_askE7
    split
    · exact tb_wok_w a1 _ _ _
    · exact a1
theorem tb_wok_all {w h : Nat} {num : Nat → Int32} {st : Nat → Nat} : tb_wok st (tb_asks w h num st) := tb_wok_E _
def tb_unk (w h : Nat) (st : Nat → Nat) : Nat := fb_ct (fun e => st e == 0) (tb_ne w h)
theorem tb_unk_lt {w h : Nat} {st : Nat → Nat} {W : tb_Wt} (hk : tb_wok st W) (hm : tb_more w h W = true) : tb_unk w h (tb_dec W st) < tb_unk w h st := by
  obtain ⟨e, he, h1⟩ := List.any_eq_true.mp hm
  have he := List.mem_range.mp he
  have hW : W.1 e ≠ 0 := by simpa using h1
  have hs : st e = 0 := Classical.byContradiction (fun q => hW (hk e q))
  have h2 : tb_unk w h (tb_dec W st) ≤ fb_ct (fun k => if k = e then false else st k == 0) (tb_ne w h) := by
    refine fb_ct_sub (fun k hk2 h3 => ?_)
    have h3 : tb_dec W st k = 0 := by simpa using h3
    unfold tb_dec at h3
    by_cases q : W.1 k = 0
    · rw [if_pos q] at h3
      have : k ≠ e := fun z => hW (z ▸ q)
      rw [if_neg this, h3]; rfl
    · rw [if_neg q] at h3
      exact absurd h3 q
  have h4 := fb_ct_upd (fun k => st k == 0) false he
  rw [hs] at h4
  have h5 : fb_ct (fun k => if k = e then false else st k == 0) (tb_ne w h) + 1 = tb_unk w h st + 0 := h4
  omega
/-- the reference's record behind its rounds -/
def rf_G (w h : Nat) (g : tb_Go) (X : xs_T) : Prop := rf_S w h g.1 X ∧ (∀ e, e < tb_ne w h → X.2.2.1 32 e = g.2.1 e ∧ X.2.2.1 33 e = g.2.2.1 e) ∧ X.1 21 17 = nI g.2.2.2.1 ∧ X.1 21 18 = nI g.2.2.2.2
def rf_M (w h : Nat) (mk : Nat → Nat) (X : xs_T) : Prop := ∀ e, e < tb_ne w h → X.2.2.1 28 e = nI (mk e) ∧ mk e ≤ 2
theorem rf_mfr {w h : Nat} {mk : Nat → Nat} {S : List Nat} {F : List (Nat × Nat)} {X Y : xs_T} (hS : rf_M w h mk X) (hf : xs_fr S F X Y) (hq : decide (28 ∈ S) = false := by decide) : rf_M w h mk Y := by
  intro e he
  rw [xs_fa hf 28 hq]
  exact hS e he
theorem tb_range_any {p : Nat → Bool} {q : Nat} : (List.range (q + 1)).any p = ((List.range q).any p || p q) := by simp [List.range_succ]
