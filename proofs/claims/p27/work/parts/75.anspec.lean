/-! answers: the class's test and the reference's are one; what is told of all answers; the inside -/
def tb_mfit (mk : Nat → Nat) (S e : Nat) : Bool := mk e == 0 || (S.testBit e == (mk e == 1))
theorem tb_mf0 {mk : Nat → Nat} {S e : Nat} (h : mk e = 0) : tb_mfit mk S e = true := by simp [tb_mfit, h]
theorem tb_mf1 {mk : Nat → Nat} {S e : Nat} (h : mk e = 1) (hb : tb_b (S.testBit e) = 1) : tb_mfit mk S e = true := by
  have : S.testBit e = true := by revert hb; cases S.testBit e <;> decide
  simp [tb_mfit, h, this]
theorem tb_mf2 {mk : Nat → Nat} {S e : Nat} (h : mk e ≠ 1) (hb : tb_b (S.testBit e) = 0) : tb_mfit mk S e = true := by
  have : S.testBit e = false := tb_b0.mp hb
  simp [tb_mfit, h, this]
theorem tb_mfF1 {mk : Nat → Nat} {S e : Nat} (h : mk e = 1) (hb : ¬ tb_b (S.testBit e) = 1) : tb_mfit mk S e = false := by
  have : S.testBit e = false := by revert hb; cases S.testBit e <;> decide
  simp [tb_mfit, h, this]
theorem tb_mfF2 {mk : Nat → Nat} {S e : Nat} (h0 : mk e ≠ 0) (h : mk e ≠ 1) (hb : ¬ tb_b (S.testBit e) = 0) : tb_mfit mk S e = false := by
  have : S.testBit e = true := tb_b1.mp hb
  simp [tb_mfit, h, h0, this]
theorem dv_mfit {w h : Nat} {mk : Nat → Nat} (hmk : ∀ e, e < tb_ne w h → mk e ≤ 2) (S : Nat) : ((S &&& dv_S w h mk 1 == dv_S w h mk 1) && (S &&& dv_S w h mk 2 == 0)) = (List.range (tb_ne w h)).all (tb_mfit mk S) := by
  rw [Bool.eq_iff_iff, Bool.and_eq_true, beq_iff_eq, beq_iff_eq, tb_allI]
  have h3 : ∀ e, e < tb_ne w h → mk e = 0 ∨ mk e = 1 ∨ mk e = 2 := fun e he => by have := hmk e he; omega
  constructor
  · rintro ⟨a, b⟩ e he
    have a2 : (S &&& dv_S w h mk 1).testBit e = (dv_S w h mk 1).testBit e := by rw [a]
    have b2 : (S &&& dv_S w h mk 2).testBit e = false := by rw [b]; exact Nat.zero_testBit e
    rw [Nat.testBit_and, dv_S_bit he] at a2 b2
    unfold tb_mfit
    rcases h3 e he with z | z | z <;> rw [z] at a2 b2 ⊢ <;> revert a2 b2 <;> cases S.testBit e <;> decide
  · intro H
    refine ⟨bm_ext (fun e => ?_), bm_ext (fun e => ?_)⟩
    · rw [Nat.testBit_and]
      rcases Nat.lt_or_ge e (tb_ne w h) with he | he
      · have := H e he
        unfold tb_mfit at this
        rw [dv_S_bit he]
        rcases h3 e he with z | z | z <;> rw [z] at this ⊢ <;> revert this <;> cases S.testBit e <;> decide
      · rw [bm_hi dv_S_lt2 he, Bool.and_false]
    · rw [Nat.testBit_and, Nat.zero_testBit]
      rcases Nat.lt_or_ge e (tb_ne w h) with he | he
      · have := H e he
        unfold tb_mfit at this
        rw [dv_S_bit he]
        rcases h3 e he with z | z | z <;> rw [z] at this ⊢ <;> revert this <;> cases S.testBit e <;> decide
      · rw [bm_hi dv_S_lt2 he, Bool.and_false]
def tb_sct (w h S c : Nat) : Nat → Nat := fb_ct (fun s => S.testBit (tb_sid w h c s))
def tb_rtB (w h : Nat) (num : Nat → Int32) (S : Nat) (ig : Int32) (c : Nat) : Bool := nI c == ig || num c == -1 || nI (tb_sct w h S c 4) == num c
abbrev tb_fit (w h : Nat) (num : Nat → Int32) (mk : Nat → Nat) (ig : Int32) : Nat → Bool := dv_fits w h num (dv_S w h mk 1) (dv_S w h mk 2) ig
theorem tb_fit_ref {w h : Nat} (hW : tb_W w h) {num : Nat → Int32} {mk : Nat → Nat} (hmk : ∀ e, e < tb_ne w h → mk e ≤ 2) (ig : Int32) (S : Nat) : tb_fit w h num mk ig S = ((List.range (tb_ne w h)).all (tb_mfit mk S) && (List.range (tb_nc w h)).all (tb_rtB w h num S ig)) := by
  show (((S &&& dv_S w h mk 1 == dv_S w h mk 1) && (S &&& dv_S w h mk 2 == 0)) && dv_right w h num S ig) = _
  rw [dv_mfit hmk]
  have : dv_right w h num S ig = (List.range (tb_nc w h)).all (tb_rtB w h num S ig) := by
    unfold dv_right
    have hc : ∀ c, c < tb_nc w h → dv_rightB w h num S ig c = tb_rtB w h num S ig c := by
      intro c hc
      unfold dv_rightB tb_rtB tb_sct dv_arS
      rw [dv_around hW (fun e => S.testBit e) hc]
    rw [Bool.eq_iff_iff, tb_allI, tb_allI]
    exact ⟨fun H c q => by rw [← hc c q]; exact H c q, fun H c q => by rw [hc c q]; exact H c q⟩
  rw [this]
theorem dv_pick_neg {f : Nat → Bool} {a : Int32} (ha : a < 0) : ∀ (L : List Nat) (c : Nat), c + L.length < 2 ^ 31 → dv_pick f a L c = 0
  | [], c, _ => rfl
  | S :: t, c, h => by
    rw [List.length_cons] at h
    have hne : ¬ nI c = a := fun q => by rw [← q] at ha; exact nI_pos (by omega) ha
    rw [dv_pick, if_neg hne]
    split
    · exact dv_pick_neg ha t (c + 1) (by omega)
    · exact dv_pick_neg ha t c (by omega)
theorem dv_pick_in {f : Nat → Bool} {a : Int32} : ∀ (L : List Nat) (c : Nat), dv_pick f a L c ≠ 0 → dv_pick f a L c ∈ L
  | [], c, h => absurd rfl h
  | S :: t, c, h => by
    rw [dv_pick] at h ⊢
    split
    · rename_i q
      rw [if_pos q] at h
      split
      · exact List.mem_cons_self ..
      · rename_i q2
        rw [if_neg q2] at h
        exact List.mem_cons_of_mem _ (dv_pick_in t _ h)
    · rename_i q
      rw [if_neg q] at h
      exact List.mem_cons_of_mem _ (dv_pick_in t _ h)
theorem dv_pick_0 {f : Nat → Bool} : ∀ (L : List Nat), (∀ x, x ∈ L → x ≠ 0) → (dv_pick f (nI 0) L 0 = 0 ↔ (L.filter f).length = 0)
  | [], _ => by simp [dv_pick]
  | S :: t, h => by
    rw [dv_pick]
    by_cases q : f S = true
    · rw [if_pos q, if_pos rfl, List.filter_cons_of_pos q, List.length_cons]
      have := h S (List.mem_cons_self ..)
      constructor
      · intro z; exact absurd z this
      · intro z; omega
    · rw [if_neg q, List.filter_cons_of_neg q]
      exact dv_pick_0 t (fun x hx => h x (List.mem_cons_of_mem _ hx))
theorem ix_sub0 {a : Int32} {c : Nat} : a - nI c = 0 ↔ nI c = a := by
  constructor
  · intro h
    have := congrArg (fun z => z + nI c) h
    simp only [Int32.sub_add_cancel, Int32.zero_add] at this
    exact this.symm
  · intro h
    rw [h]; exact Int32.sub_self _
theorem ix_dec {a : Int32} {c : Nat} : a - nI c + Int32.ofInt (-1) = a - nI (c + 1) := by
  rw [← nI_add]
  show a - nI c + (-1) = a - (nI c + 1)
  rw [Int32.sub_eq_add_neg, Int32.sub_eq_add_neg, Int32.neg_add, Int32.add_assoc, Int32.sub_eq_add_neg]
theorem dv_gA_bit {f : Nat → Bool} {e : Nat} : ∀ (L : List Nat) (c : Nat), (L.foldl (dv_gA f) c).testBit e = (c.testBit e && (L.filter f).all (fun S => S.testBit e))
  | [], c => by simp
  | S :: t, c => by
    rw [List.foldl_cons, dv_gA_bit t]
    by_cases q : f S = true
    · rw [List.filter_cons_of_pos q, List.all_cons, show dv_gA f c S = c &&& S from if_pos q, Nat.testBit_and, Bool.and_assoc]
    · rw [List.filter_cons_of_neg q, show dv_gA f c S = c from if_neg q]
theorem dv_gS_bit {f : Nat → Bool} {e : Nat} : ∀ (L : List Nat) (c : Nat), (L.foldl (dv_gS f) c).testBit e = (c.testBit e || (L.filter f).any (fun S => S.testBit e))
  | [], c => by simp
  | S :: t, c => by
    rw [List.foldl_cons, dv_gS_bit t]
    by_cases q : f S = true
    · rw [List.filter_cons_of_pos q, List.any_cons, show dv_gS f c S = c ||| S from if_pos q, Nat.testBit_or, Bool.or_assoc]
    · rw [List.filter_cons_of_neg q, show dv_gS f c S = c from if_neg q]
/-- in how many of them an edge is a line -/
def tb_with (f : Nat → Bool) (L : List Nat) (e : Nat) : Nat := (L.filter (fun S => S.testBit e && f S)).length
theorem tb_with_f (f : Nat → Bool) (L : List Nat) (e : Nat) : tb_with f L e = ((L.filter f).filter (fun S => S.testBit e)).length := by
  unfold tb_with
  rw [List.filter_filter]
theorem tb_with_all {f : Nat → Bool} {L : List Nat} {e : Nat} : tb_with f L e = (L.filter f).length ↔ (L.filter f).all (fun S => S.testBit e) = true := by
  rw [tb_with_f, List.length_filter_eq_length_iff, List.all_eq_true]
theorem tb_with_0 {f : Nat → Bool} {L : List Nat} {e : Nat} : tb_with f L e = 0 ↔ (L.filter f).any (fun S => S.testBit e) = false := by
  rw [tb_with_f, List.length_eq_zero_iff, List.filter_eq_nil_iff, Bool.eq_false_iff, Ne, List.any_eq_true]
  exact ⟨fun H ⟨x, hx, hb⟩ => H x hx hb, fun H x hx hb => H ⟨x, hx, hb⟩⟩
theorem tb_with_le (f : Nat → Bool) (L : List Nat) (e : Nat) : tb_with f L e ≤ (L.filter f).length := by
  rw [tb_with_f]; exact List.length_filter_le ..
/-! the inside: along a row, and straight up -/
def tb_inr (w h S r : Nat) : Nat → Bool
  | 0 => false
  | k + 1 => tb_inr w h S r k != S.testBit (tb_sid w h (r * w + k) 2)
theorem tb_sid2 {w h r k : Nat} (hk : k < w) : tb_sid w h (r * w + k) 2 = tb_nf w h + (r * (w + 1) + k) := by
  obtain ⟨a, b⟩ := tb_div (r := r) hk
  show tb_nf w h + ((r * w + k) / w * (w + 1) + (r * w + k) % w) = _
  rw [a, b]
theorem tb_inr_eq {w h C r : Nat} (hC : C < 2 ^ tb_nc w h) (hr : r < h) : ∀ k, k < w → tb_inr w h (dv_bd w h C) r (k + 1) = C.testBit (r * w + k)
  | 0, hk => by
    obtain ⟨e1, e2, e3, e4, e5⟩ := tb_E2 (w := w) (h := h) hr (show 0 ≤ w by omega)
    show (false != (dv_bd w h C).testBit (tb_sid w h (r * w + 0) 2)) = _
    rw [tb_sid2 hk, dv_bd_bit e1, e4, e5, if_neg (Nat.lt_irrefl 0), if_pos hk, bm_hi hC (Nat.le_refl _)]
    cases C.testBit (r * w + 0) <;> rfl
  | k + 1, hk => by
    have ih := tb_inr_eq hC hr k (by omega)
    obtain ⟨e1, e2, e3, e4, e5⟩ := tb_E2 (w := w) (h := h) hr (show k + 1 ≤ w by omega)
    show (tb_inr w h (dv_bd w h C) r (k + 1) != (dv_bd w h C).testBit (tb_sid w h (r * w + (k + 1)) 2)) = _
    rw [ih, tb_sid2 hk, dv_bd_bit e1, e4, e5, if_pos (Nat.succ_pos k), if_pos hk, Nat.add_sub_cancel]
    cases C.testBit (r * w + k) <;> cases C.testBit (r * w + (k + 1)) <;> rfl
theorem dv_up_bit (w c e : Nat) : (dv_up w c).testBit e = (decide (e < 16) && (decide (e ≤ c) && ((c - e) % w == 0))) := bm_bit _ _ _
theorem dv_up_par {w h C : Nat} (hW : tb_W w h) (hC : C < 2 ^ tb_nc w h) : ∀ r k, r < h → k < w → fb_ct (fun e => (dv_up w (r * w + k)).testBit e && (dv_bd w h C).testBit e) 16 % 2 = if C.testBit (r * w + k) = true then 1 else 0 := by
  have hW2 := hW
  obtain ⟨hw1, hw2, hh1, hh2⟩ := hW2
  have hz := tb_sizes hW
  intro r
  induction r with
  | zero =>
    intro k hr hk
    obtain ⟨e1, e2, e3, e4, e5⟩ := tb_E1 (w := w) (h := h) (show 0 ≤ h by omega) hk
    have hs := dv_up_s (w := w) (r := 0) (c := k) ⟨hw1, hw2⟩ (by decide) hk
    rw [if_neg (Nat.lt_irrefl 0), Nat.or_zero] at hs
    have hp := dv_put_bit (fun _ => false) (fun e => (dv_bd w h C).testBit e) (n := 16) (e := 0 * w + k) (by omega) rfl
    rw [(fb_ct_zero (p := fun k => false && (dv_bd w h C).testBit k) (n := 16)).mpr (fun _ _ => rfl)] at hp
    have hc : fb_ct (fun e => (dv_up w (0 * w + k)).testBit e && (dv_bd w h C).testBit e) 16 = fb_ct (fun j => (false || decide (j = 0 * w + k)) && (dv_bd w h C).testBit j) 16 := fb_ct_cong (fun j _ => by
      show ((dv_up w (0 * w + k)).testBit j && (dv_bd w h C).testBit j) = ((false || decide (j = 0 * w + k)) && (dv_bd w h C).testBit j)
      rw [hs, Nat.testBit_two_pow, Bool.false_or]
      congr 1
      by_cases q : j = 0 * w + k
      · rw [decide_eq_true q, decide_eq_true q.symm]
      · rw [decide_eq_false q, decide_eq_false (Ne.symm q)])
    rw [hc, hp, dv_bd_bit (by omega), e4, e5, if_neg (Nat.lt_irrefl 0), if_pos hr, bm_hi hC (Nat.le_refl _)]
    cases C.testBit (0 * w + k) <;> rfl
  | succ r ih =>
    intro k hr hk
    have ihk := ih k (by omega) hk
    obtain ⟨e1, e2, e3, e4, e5⟩ := tb_E1 (w := w) (h := h) (show r + 1 ≤ h by omega) hk
    have hs := dv_up_s (w := w) (r := r + 1) (c := k) ⟨hw1, hw2⟩ (by omega) hk
    have hsub : (r + 1) * w + k - w = r * w + k := by rw [Nat.succ_mul]; omega
    rw [if_pos (Nat.succ_pos r), hsub] at hs
    have hlt16 : (r + 1) * w + k < 16 := by
      have := tb_mul_lt (H := h) hr hk
      have e : tb_nc w h = h * w := by unfold tb_nc; exact Nat.mul_comm w h
      omega
    have hno : (dv_up w (r * w + k)).testBit ((r + 1) * w + k) = false := by
      rw [dv_up_bit, decide_eq_false (by rw [Nat.succ_mul]; omega : ¬ (r + 1) * w + k ≤ r * w + k), Bool.false_and, Bool.and_false]
    have hp := dv_put_bit (fun e => (dv_up w (r * w + k)).testBit e) (fun e => (dv_bd w h C).testBit e) (n := 16) (e := (r + 1) * w + k) hlt16 hno
    have hc : fb_ct (fun e => (dv_up w ((r + 1) * w + k)).testBit e && (dv_bd w h C).testBit e) 16 = fb_ct (fun j => ((dv_up w (r * w + k)).testBit j || decide (j = (r + 1) * w + k)) && (dv_bd w h C).testBit j) 16 := fb_ct_cong (fun j _ => by
      show ((dv_up w ((r + 1) * w + k)).testBit j && (dv_bd w h C).testBit j) = (((dv_up w (r * w + k)).testBit j || decide (j = (r + 1) * w + k)) && (dv_bd w h C).testBit j)
      rw [hs, Nat.or_comm, fb_bit_set])
    rw [hc, hp, Nat.add_mod, ihk, dv_bd_bit (by omega), e4, e5, if_pos (Nat.succ_pos r), if_pos hr, Nat.add_sub_cancel]
    cases C.testBit (r * w + k) <;> cases C.testBit ((r + 1) * w + k) <;> rfl
theorem dv_up_in {w h C : Nat} (hW : tb_W w h) (hC : C < 2 ^ tb_nc w h) {c : Nat} (hc : c < tb_nc w h) : pc_n (dv_bd w h C &&& dv_up w c) % 2 = if C.testBit c = true then 1 else 0 := by
  have hW2 := hW
  obtain ⟨hw1, hw2, hh1, hh2⟩ := hW2
  have e0 : c / w * w + c % w = c := by rw [Nat.mul_comm]; exact Nat.div_add_mod c w
  have hcw : c % w < w := Nat.mod_lt _ (by omega)
  have hcr : c / w < h := (Nat.div_lt_iff_lt_mul (by omega)).mpr (by unfold tb_nc at hc; rw [Nat.mul_comm]; exact hc)
  have hp := dv_up_par hW hC (c / w) (c % w) hcr hcw
  rw [e0] at hp
  rw [← hp, Nat.and_comm]
  have : dv_up w c &&& dv_bd w h C = bm (fun e => (dv_up w c).testBit e && (dv_bd w h C).testBit e) 16 := by
    apply bm_ext
    intro e
    rw [Nat.testBit_and, bm_bit]
    rcases Nat.lt_or_ge e 16 with z | z
    · rw [decide_eq_true z, Bool.true_and]
    · rw [bm_hi (dv_up_lt w c) z, decide_eq_false (by omega)]; rfl
  rw [this, pc_bm _ (by decide)]
def rf_LD (w h : Nat) (X : xs_T) : Prop := X.1 21 25 = nI (10 * w + h) ∧ rf_Ls (dv_loops w h) X
theorem rf_LD_C {w h : Nat} {X : xs_T} (hW : tb_W w h) (H : rf_LD w h X) : rf_LC X := by
  obtain ⟨a, b⟩ := H
  obtain ⟨h1, h2, h3, h4⟩ := hW
  refine ⟨_, by omega, a, fun w2 k2 hW2 he => ?_⟩
  obtain ⟨g1, g2, g3, g4⟩ := hW2
  have e1 : w2 = w := by omega
  have e2 : k2 = h := by omega
  rw [e1, e2]; exact b
