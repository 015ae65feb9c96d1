/-! THE REFERENCE'S WALK along a border, in plain numbers -/
theorem dv_deg_le2 {w h V S p : Nat} (H : ∀ e, e < tb_ne w h → V.testBit e = true → S.testBit e = true) : dv_deg w h V p ≤ dv_deg w h S p := by
  unfold dv_deg
  apply fb_ct_sub
  intro k hk hp
  rw [Bool.and_eq_true] at hp ⊢
  exact ⟨H k hk hp.1, hp.2⟩
theorem dv_put_bit (P Q : Nat → Bool) {n e : Nat} (he : e < n) (hP : P e = false) : fb_ct (fun k => (P k || decide (k = e)) && Q k) n = fb_ct (fun k => P k && Q k) n + (if Q e = true then 1 else 0) := by
  have o := fb_ct_or (p := fun k => P k && Q k) (q := fun k => Q k && k == e) (n := n) (fun i _ ⟨a, b⟩ => by
    simp only [Bool.and_eq_true, beq_iff_eq] at a b
    rw [b.2, hP] at a; cases a.1)
  rw [fb_ct_one _ he] at o
  rw [← o]
  apply fb_ct_cong
  intro k _
  have : (k == e) = decide (k = e) := by by_cases q : k = e <;> simp [q]
  show ((P k || decide (k = e)) && Q k) = ((P k && Q k) || (Q k && k == e))
  rw [this]
  cases P k <;> cases Q k <;> cases decide (k = e) <;> rfl
theorem dv_deg_put {w h V e p : Nat} (he : e < tb_ne w h) (hV : V.testBit e = false) : dv_deg w h (V ||| 2 ^ e) p = dv_deg w h V p + (if dv_inc w h p e = true then 1 else 0) := by
  unfold dv_deg
  rw [← dv_put_bit (fun k => V.testBit k) (fun k => dv_inc w h p k) he hV]
  apply fb_ct_cong
  intro k _
  show ((V ||| 2 ^ e).testBit k && dv_inc w h p k) = ((V.testBit k || decide (k = e)) && dv_inc w h p k)
  rw [fb_bit_set]
theorem dv_ct_put {w h V e : Nat} (he : e < tb_ne w h) (hV : V.testBit e = false) : fb_ct (fun k => (V ||| 2 ^ e).testBit k) (tb_ne w h) = fb_ct (fun k => V.testBit k) (tb_ne w h) + 1 := by
  have a := dv_put_bit (fun k => V.testBit k) (fun _ => true) he hV
  rw [if_pos rfl] at a
  have b : fb_ct (fun k => (V ||| 2 ^ e).testBit k) (tb_ne w h) = fb_ct (fun k => (V.testBit k || decide (k = e)) && true) (tb_ne w h) := fb_ct_cong (fun k _ => by
    show (V ||| 2 ^ e).testBit k = ((V.testBit k || decide (k = e)) && true)
    rw [fb_bit_set, Bool.and_true])
  have c : fb_ct (fun k => V.testBit k && true) (tb_ne w h) = fb_ct (fun k => V.testBit k) (tb_ne w h) := fb_ct_cong (fun k _ => Bool.and_true _)
  rw [b, a, c]
theorem dv_deg_0 (w h p : Nat) : dv_deg w h 0 p = 0 := by
  unfold dv_deg
  apply fb_ct_zero.mpr
  intro k _
  rw [Nat.zero_testBit]; rfl
def dv_02 (w h S : Nat) : Prop := ∀ p, p < tb_np w h → dv_deg w h S p = 0 ∨ dv_deg w h S p = 2
/-- where the walk stands: V the lines gone, the last one, the point it came to, how many -/
def dv_Wk (w h S f V line point k : Nat) : Prop :=
  (∀ e, V.testBit e = true → e < tb_ne w h ∧ S.testBit e = true ∧ dv_L w h S (tb_one w h e) = dv_L w h S (tb_one w h f)) ∧
  (V.testBit f = true ∧ V.testBit line = true ∧ dv_inc w h point line = true ∧ point < tb_np w h) ∧
  fb_ct (fun e => V.testBit e) (tb_ne w h) = k ∧
  (∀ p, p < tb_np w h → p ≠ point → p ≠ tb_one w h f → dv_deg w h V p = 0 ∨ dv_deg w h V p = 2) ∧
  (point ≠ tb_one w h f → dv_deg w h V point = 1 ∧ dv_deg w h V (tb_one w h f) = 1) ∧
  (point = tb_one w h f → dv_deg w h V point = 2)
theorem dv_Wk_0 {w h S f : Nat} (hW : tb_W w h) (hf : f < tb_ne w h) (hs : S.testBit f = true) : dv_Wk w h S f (2 ^ f) f (tb_oth w h f) 1 := by
  have hb := tb_ends hW f hf
  have hz : (0 : Nat) ||| 2 ^ f = 2 ^ f := Nat.zero_or _
  have hd : ∀ p, dv_deg w h (2 ^ f) p = if dv_inc w h p f = true then 1 else 0 := by
    intro p
    have := dv_deg_put (w := w) (h := h) (V := 0) (p := p) hf (Nat.zero_testBit f)
    rw [hz, dv_deg_0, Nat.zero_add] at this
    exact this
  have hc : fb_ct (fun e => (2 ^ f).testBit e) (tb_ne w h) = 1 := by
    have := dv_ct_put (w := w) (h := h) (V := 0) hf (Nat.zero_testBit f)
    rw [hz] at this
    rw [this, fb_ct_zero.mpr (fun k _ => Nat.zero_testBit k)]
  have hbit : ∀ e, (2 ^ f).testBit e = true ↔ e = f := by
    intro e
    rw [Nat.testBit_two_pow, decide_eq_true_eq]
    exact ⟨Eq.symm, Eq.symm⟩
  refine ⟨fun e he => ?_, ⟨(hbit f).mpr rfl, (hbit f).mpr rfl, dv_inc_y.mpr (Or.inr rfl), hb.2.1⟩, hc, fun p hp h1 h2 => ?_, fun q => ?_, fun q => absurd q.symm hb.2.2.1⟩
  · rw [(hbit e).mp he]
    exact ⟨hf, hs, rfl⟩
  · left
    rw [hd, if_neg (fun z => (dv_inc_y.mp z).elim (fun y => h2 y.symm) (fun y => h1 y.symm))]
  · rw [hd, hd, if_pos (dv_inc_y.mpr (Or.inr rfl)), if_pos (dv_inc_y.mpr (Or.inl rfl))]
    exact ⟨rfl, rfl⟩
theorem dv_Wk_next {w h S f V line point k : Nat} (hS : dv_02 w h S) (H : dv_Wk w h S f V line point k) (hp : point ≠ tb_one w h f) : ∃ e, e < tb_ne w h ∧ (e ≠ line ∧ S.testBit e = true ∧ dv_inc w h point e = true) := by
  obtain ⟨h1, ⟨h2, h3, h4, h5⟩, h6, h7, h8, h9⟩ := H
  obtain ⟨d1, d2⟩ := h8 hp
  have hl := h1 line h3
  have hsub := dv_deg_le2 (w := w) (h := h) (V := V) (S := S) (p := point) (fun e _ he => (h1 e he).2.1)
  apply Decidable.byContradiction
  intro hno
  have hall : dv_deg w h S point ≤ fb_ct (fun e => true && e == line) (tb_ne w h) := by
    unfold dv_deg
    apply fb_ct_sub
    intro e he hq
    rw [Bool.and_eq_true] at hq
    rw [Bool.true_and, beq_iff_eq]
    exact Decidable.byContradiction (fun z => hno ⟨e, he, z, hq.1, hq.2⟩)
  rw [fb_ct_one _ hl.1, if_pos rfl] at hall
  have := hS point h5
  omega
theorem dv_Wk_step {w h S f V line point k e : Nat} (hW : tb_W w h) (hS : dv_02 w h S) (H : dv_Wk w h S f V line point k) (hp : point ≠ tb_one w h f) (he : e < tb_ne w h) (hne : e ≠ line) (hs : S.testBit e = true) (hi : dv_inc w h point e = true) : dv_Wk w h S f (V ||| 2 ^ e) e (if tb_one w h e = point then tb_oth w h e else tb_one w h e) (k + 1) := by
  obtain ⟨h1, ⟨h2, h3, h4, h5⟩, h6, h7, h8, h9⟩ := H
  obtain ⟨d1, d2⟩ := h8 hp
  have hl := h1 line h3
  have hVe : V.testBit e = false := by
    cases q : V.testBit e with
    | false => rfl
    | true =>
      exfalso
      have := fb_ct_more (p := fun k => (V.testBit k && dv_inc w h point k) && k == line) (q := fun k => V.testBit k && dv_inc w h point k) (n := tb_ne w h) (k := e) (fun i _ hi => by
        rw [Bool.and_eq_true] at hi; exact hi.1) he (by simp [hne]) (by rw [q, hi]; rfl)
      rw [fb_ct_one _ hl.1, if_pos (by rw [h3, h4]; rfl)] at this
      change 1 + 1 ≤ dv_deg w h V point at this
      omega
  have hb := tb_ends hW e he
  have hsub : ∀ j, j < tb_ne w h → (V ||| 2 ^ e).testBit j = true → S.testBit j = true := by
    intro j _ hj
    rw [fb_bit_set, Bool.or_eq_true, decide_eq_true_eq] at hj
    rcases hj with z | z
    · exact (h1 j z).2.1
    · rw [z]; exact hs
  generalize hP : (if tb_one w h e = point then tb_oth w h e else tb_one w h e) = P
  have hPp : P < tb_np w h ∧ P ≠ point ∧ ∀ p, dv_inc w h p e = true ↔ p = point ∨ p = P := by
    have hi2 := dv_inc_y.mp hi
    by_cases q : tb_one w h e = point
    · rw [if_pos q] at hP
      subst hP
      refine ⟨hb.2.1, fun z => hb.2.2.1 (q.trans z.symm), fun p => ?_⟩
      rw [dv_inc_y, q]
      exact ⟨fun z => z.imp Eq.symm Eq.symm, fun z => z.imp Eq.symm Eq.symm⟩
    · rw [if_neg q] at hP
      subst hP
      have q2 : tb_oth w h e = point := hi2.resolve_left q
      refine ⟨hb.1, q, fun p => ?_⟩
      rw [dv_inc_y, q2]
      exact ⟨fun z => (z.imp Eq.symm Eq.symm).symm, fun z => (z.imp Eq.symm Eq.symm).symm⟩
  obtain ⟨P1, P2, P3⟩ := hPp
  have hput : ∀ p, dv_deg w h (V ||| 2 ^ e) p = dv_deg w h V p + (if dv_inc w h p e = true then 1 else 0) := fun p => dv_deg_put he hVe
  have hP0 : P ≠ tb_one w h f → dv_deg w h V P = 0 := by
    intro q
    rcases h7 P P1 P2 q with z | z
    · exact z
    · exfalso
      have a := hput P
      rw [z, if_pos ((P3 P).mpr (Or.inr rfl))] at a
      have b := dv_deg_le2 (w := w) (h := h) (p := P) hsub
      have c := hS P P1
      omega
  refine ⟨?_, ⟨?_, ?_, ?_, P1⟩, ?_, ?_, ?_, ?_⟩
  · intro j hj
    rw [fb_bit_set, Bool.or_eq_true, decide_eq_true_eq] at hj
    rcases hj with z | z
    · exact h1 j z
    · rw [z]
      refine ⟨he, hs, ?_⟩
      rw [← dv_L_at he hs hi, dv_L_at hl.1 hl.2.1 h4]
      exact hl.2.2
  · rw [fb_bit_set, h2]; rfl
  · rw [fb_bit_set, decide_eq_true rfl, Bool.or_true]
  · exact (P3 P).mpr (Or.inr rfl)
  · rw [dv_ct_put he hVe, h6]
  · intro p q1 q2 q3
    by_cases z : p = point
    · right
      rw [hput, z, d1, if_pos hi]
    · rw [hput, if_neg (fun y => ((P3 p).mp y).elim z q2), Nat.add_zero]
      exact h7 p q1 z q3
  · intro q
    rw [hput P, hput (tb_one w h f), if_pos ((P3 P).mpr (Or.inr rfl)), hP0 q, if_neg (fun y => ((P3 _).mp y).elim (fun z => hp z.symm) (fun z => q z.symm)), d2]
    exact ⟨rfl, rfl⟩
  · intro q
    rw [hput P, if_pos ((P3 P).mpr (Or.inr rfl)), q, d2]
theorem dv_Wk_end {w h S f V line k : Nat} (hW : tb_W w h) (hS : dv_02 w h S) (hlt : S < 2 ^ tb_ne w h) (H : dv_Wk w h S f V line (tb_one w h f) k) : dv_isLoop w h S = decide (k = fb_ct (fun e => S.testBit e) (tb_ne w h)) := by
  obtain ⟨h1, ⟨h2, h3, h4, h5⟩, h6, h7, h8, h9⟩ := H
  have hsf := (h1 f h2).2.1
  have h02 : ∀ p, p < tb_np w h → dv_deg w h V p = 0 ∨ dv_deg w h V p = 2 := by
    intro p hp
    by_cases z : p = tb_one w h f
    · rw [z]; exact Or.inr (h9 rfl)
    · exact h7 p hp z z
  have hcl : ∀ p e, p < tb_np w h → e < tb_ne w h → S.testBit e = true → dv_inc w h p e = true → dv_deg w h V p ≠ 0 → V.testBit e = true := by
    intro p e hp he hs hi hd
    cases q : V.testBit e with
    | true => rfl
    | false =>
      exfalso
      have := fb_ct_more (p := fun k => V.testBit k && dv_inc w h p k) (q := fun k => S.testBit k && dv_inc w h p k) (n := tb_ne w h) (k := e) (fun i _ hi => by
        rw [Bool.and_eq_true] at hi ⊢; exact ⟨(h1 i hi.1).2.1, hi.2⟩) he (by rw [q]; rfl) (by rw [hs, hi]; rfl)
      change dv_deg w h V p + 1 ≤ dv_deg w h S p at this
      have a := h02 p hp
      have b := hS p hp
      omega
  have hV : ∀ e, V.testBit e = true ↔ e < tb_ne w h ∧ S.testBit e = true ∧ dv_L w h S (tb_one w h e) = dv_L w h S (tb_one w h f) := by
    intro e
    refine ⟨h1 e, fun ⟨a, b, c⟩ => ?_⟩
    have hb := tb_ends hW e a
    refine hcl (tb_one w h e) e hb.1 a b (dv_inc_y.mpr (Or.inl rfl)) ?_
    have hP := dv_L_ind (w := w) (h := h) (S := S) (P := fun q => dv_deg w h V q ≠ 0) (fun e2 he2 hs2 => by
      have hb2 := tb_ends hW e2 he2
      constructor
      · intro hd
        exact dv_deg_pos.mpr ⟨e2, he2, hcl _ e2 hb2.1 he2 hs2 (dv_inc_y.mpr (Or.inl rfl)) hd, dv_inc_y.mpr (Or.inr rfl)⟩
      · intro hd
        exact dv_deg_pos.mpr ⟨e2, he2, hcl _ e2 hb2.2.1 he2 hs2 (dv_inc_y.mpr (Or.inr rfl)) hd, dv_inc_y.mpr (Or.inl rfl)⟩) (p := tb_one w h e) (q := tb_one w h f) c
    exact hP.mpr (by rw [h9 rfl]; decide)
  have hall : (List.range (tb_np w h)).all (fun p => dv_deg w h S p == 0 || dv_deg w h S p == 2) = true := tb_allT (fun p hp => by rcases hS p hp with z | z <;> rw [z] <;> rfl)
  have hne : S ≠ 0 := by
    intro q
    rw [q, Nat.zero_testBit] at hsf; cases hsf
  obtain ⟨c, c1, -, c3⟩ := dv_fw_way hW (S := S) (T := fun _ => true) (by rw [dv_sub_all hlt]; exact hne)
  rw [dv_sub_all hlt] at c3
  have hL : dv_isLoop w h S = (dv_fw w h S == S) := by
    unfold dv_isLoop
    rw [hall]
    simp [hne]
  rw [hL, c3, Bool.eq_iff_iff, beq_iff_eq, decide_eq_true_eq]
  constructor
  · intro hs
    have hlab : ∀ e, S.testBit e = true → dv_L w h S (tb_one w h e) = c := fun e ze => by
      have ze2 : (dv_sub w h S (fun x => x == c)).testBit e = true := by rw [hs]; exact ze
      exact eq_of_beq (dv_sub_y.mp ze2).2.2
    rw [← h6]
    apply fb_ct_cong
    intro e he
    rw [Bool.eq_iff_iff]
    exact ⟨fun z => (h1 e z).2.1, fun z => (hV e).mpr ⟨he, z, (hlab e z).trans (hlab f hsf).symm⟩⟩
  · intro hk
    have hVS : ∀ e, e < tb_ne w h → S.testBit e = true → V.testBit e = true := by
      intro e he hs
      cases q : V.testBit e with
      | true => rfl
      | false =>
        exfalso
        have := fb_ct_more (p := fun k => V.testBit k) (q := fun k => S.testBit k) (n := tb_ne w h) (k := e) (fun i _ hi => (h1 i hi).2.1) he q hs
        omega
    obtain ⟨e0, a1, a2, a3, a4⟩ := dv_way_edge c1
    have hc : c = dv_L w h S (tb_one w h f) := a4.symm.trans (h1 e0 (hVS e0 a1 a2)).2.2
    apply bm_ext
    intro e
    rw [Bool.eq_iff_iff, dv_sub_y]
    constructor
    · exact fun z => z.2.1
    · intro z
      have he : e < tb_ne w h := by
        rcases Nat.lt_or_ge e (tb_ne w h) with y | y
        · exact y
        · rw [bm_hi hlt y] at z; cases z
      refine ⟨he, z, ?_⟩
      rw [beq_iff_eq, hc]
      exact (h1 e (hVS e he z)).2.2
/-! borders: even at each point, none but the empty one without a line, no two alike -/
theorem fb_ct_xor2 (p q : Nat → Bool) : ∀ n, fb_ct (fun k => p k ^^ q k) n % 2 = (fb_ct p n + fb_ct q n) % 2
  | 0 => rfl
  | n + 1 => by
    have ih := fb_ct_xor2 p q n
    rw [fb_ct_succ, fb_ct_succ, fb_ct_succ]
    cases p n <;> cases q n <;> simp <;> omega
theorem tb_even {w h : Nat} (hW : tb_W w h) : ∀ c, c < tb_nc w h → ∀ p, p < tb_np w h → fb_ct (fun e => dv_inA w h c e && dv_inc w h p e) (tb_ne w h) % 2 = 0 :=
  tb_all (P := fun w h => ∀ c, c < tb_nc w h → ∀ p, p < tb_np w h → fb_ct (fun e => dv_inA w h c e && dv_inc w h p e) (tb_ne w h) % 2 = 0) (by decide +kernel) hW
theorem dv_deg_flip2 {w h S c p : Nat} (hW : tb_W w h) (hc : c < tb_nc w h) (hp : p < tb_np w h) : dv_deg w h (S ^^^ dv_ea w h c) p % 2 = dv_deg w h S p % 2 := by
  have e1 : dv_deg w h (S ^^^ dv_ea w h c) p = fb_ct (fun k => (S.testBit k && dv_inc w h p k) ^^ (dv_inA w h c k && dv_inc w h p k)) (tb_ne w h) := by
    unfold dv_deg
    apply fb_ct_cong
    intro k hk
    show ((S ^^^ dv_ea w h c).testBit k && dv_inc w h p k) = ((S.testBit k && dv_inc w h p k) ^^ (dv_inA w h c k && dv_inc w h p k))
    rw [Nat.testBit_xor, dv_ea_bit, decide_eq_true hk, Bool.true_and]
    cases S.testBit k <;> cases dv_inc w h p k <;> cases dv_inA w h c k <;> rfl
  rw [e1, fb_ct_xor2]
  have := tb_even hW c hc p hp
  have e2 : dv_deg w h S p = fb_ct (fun k => S.testBit k && dv_inc w h p k) (tb_ne w h) := rfl
  rw [e2]
  omega
theorem dv_low_or {C c : Nat} (hC : C < 2 ^ (c + 1)) (hb : C.testBit c = true) : C = (C % 2 ^ c) ||| 2 ^ c := by
  apply bm_ext
  intro i
  rw [fb_bit_set, Nat.testBit_mod_two_pow]
  rcases Nat.lt_trichotomy i c with z | z | z
  · rw [decide_eq_true z, decide_eq_false (by omega), Bool.true_and, Bool.or_false]
  · rw [z, hb, decide_eq_true rfl, Bool.or_true]
  · rw [bm_hi hC (by omega), Bool.and_false, decide_eq_false (by omega)]; rfl
theorem dv_low_same {C c : Nat} (hC : C < 2 ^ (c + 1)) (hb : C.testBit c = false) : C = C % 2 ^ c := by
  apply bm_ext
  intro i
  rw [Nat.testBit_mod_two_pow]
  rcases Nat.lt_trichotomy i c with z | z | z
  · rw [decide_eq_true z, Bool.true_and]
  · rw [z, hb, Bool.and_false]
  · rw [bm_hi hC (by omega), Bool.and_false]
theorem dv_bd_par {w h : Nat} (hW : tb_W w h) {p : Nat} (hp : p < tb_np w h) : ∀ c C, c ≤ tb_nc w h → C < 2 ^ c → dv_deg w h (dv_bd w h C) p % 2 = 0
  | 0, C, _, hC => by
    have : C = 0 := by have : (2 : Nat) ^ 0 = 1 := rfl; omega
    rw [this, dv_bd_0, dv_deg_0]
  | c + 1, C, hc, hC => by
    have ih := dv_bd_par hW hp c (C % 2 ^ c) (by omega) (Nat.mod_lt _ (Nat.two_pow_pos c))
    cases hb : C.testBit c with
    | false => rw [dv_low_same hC hb]; exact ih
    | true =>
      have h0 : (C % 2 ^ c).testBit c = false := by rw [Nat.testBit_mod_two_pow, decide_eq_false (Nat.lt_irrefl c)]; rfl
      rw [dv_low_or hC hb, ← dv_bd_flip hW h0, dv_deg_flip2 hW (by omega) hp]
      exact ih
theorem dv_bd_first {w h C j : Nat} (hW : tb_W w h) (hC : C < 2 ^ tb_nc w h) (hj : C.testBit j = true) (h0 : ∀ i, i < j → C.testBit i = false) : j < tb_ne w h ∧ (dv_bd w h C).testBit j = true := by
  have hjn : j < tb_nc w h := by
    rcases Nat.lt_or_ge j (tb_nc w h) with z | z
    · exact z
    · rw [bm_hi hC z] at hj; cases hj
  obtain ⟨t1, t2, t3⟩ := tb_top hW j hjn
  refine ⟨t1, ?_⟩
  rw [dv_bd_bit t1, t2, hj]
  have : C.testBit (tb_are w h j) = false := by
    rcases t3 with z | z
    · exact h0 _ z
    · rw [z]; exact bm_hi hC (Nat.le_refl _)
  rw [this]; rfl
theorem dv_bd_pos {w h C : Nat} (hW : tb_W w h) (hC : C < 2 ^ tb_nc w h) (h0 : C ≠ 0) : dv_bd w h C ≠ 0 := by
  have h16 : C < 2 ^ 64 := Nat.lt_of_lt_of_le hC (Nat.pow_le_pow_right (by decide) (by have := tb_sizes hW; omega))
  obtain ⟨j, j1, -, j3⟩ := dv_low_y h16 h0
  have := (dv_bd_first hW hC j1 j3).2
  intro q
  rw [q, Nat.zero_testBit] at this; cases this
theorem dv_bd_inj {w h C D : Nat} (hW : tb_W w h) (hC : C < 2 ^ tb_nc w h) (hD : D < 2 ^ tb_nc w h) (he : dv_bd w h C = dv_bd w h D) : C = D := by
  apply Decidable.byContradiction
  intro hne
  have hx : C ^^^ D ≠ 0 := fun q => hne (by
    apply bm_ext
    intro i
    have : (C ^^^ D).testBit i = false := by rw [q]; exact Nat.zero_testBit i
    rw [Nat.testBit_xor] at this
    revert this
    cases C.testBit i <;> cases D.testBit i <;> decide)
  have hlt := Nat.xor_lt_two_pow hC hD
  obtain ⟨j, j1, -, j3⟩ := dv_low_y (Nat.lt_of_lt_of_le hlt (Nat.pow_le_pow_right (by decide) (by have := tb_sizes hW; omega))) hx
  have hjn : j < tb_nc w h := by
    rcases Nat.lt_or_ge j (tb_nc w h) with z | z
    · exact z
    · rw [bm_hi hlt z] at j1; cases j1
  obtain ⟨t1, t2, t3⟩ := tb_top hW j hjn
  have hb : (dv_bd w h C).testBit j = (dv_bd w h D).testBit j := by rw [he]
  rw [dv_bd_bit t1, dv_bd_bit t1, t2] at hb
  have hare : C.testBit (tb_are w h j) = D.testBit (tb_are w h j) := by
    rcases t3 with z | z
    · have := j3 _ z
      rw [Nat.testBit_xor] at this
      revert this
      cases C.testBit (tb_are w h j) <;> cases D.testBit (tb_are w h j) <;> decide
    · rw [z, bm_hi hC (Nat.le_refl _), bm_hi hD (Nat.le_refl _)]
  rw [hare] at hb
  rw [Nat.testBit_xor] at j1
  revert hb j1
  cases C.testBit j <;> cases D.testBit j <;> cases D.testBit (tb_are w h j) <;> decide
