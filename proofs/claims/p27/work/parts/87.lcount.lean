/-! the law's counts, and the points that it reaches -/
theorem lr_shl1 {k : Nat} (hk : k < 32) : nI 1 <<< (nI k &&& 31) = nI (2 ^ k) := by rw [lr_shl hk, Nat.one_mul]
def lr_rtB (w h : Nat) (num : Nat → Int32) (st : Nat → Nat) (ig : Int32) (c : Nat) : Bool := decide (num c < 0) || nI c == ig || nI (tb_ar w h st c 1) == num c
def lr_rt (w h : Nat) (num : Nat → Int32) (st : Nat → Nat) (ig : Int32) : Bool := (List.range (tb_nc w h)).all (lr_rtB w h num st ig)
/-- one sweep over the first edges: the lines T join their points to the set -/
def lr_st (w h : Nat) (T : Nat → Bool) : Nat → Nat → Nat
  | 0, S => S
  | k + 1, S => if T k = true ∧ lr_st w h T k S &&& (2 ^ tb_one w h k ||| 2 ^ tb_oth w h k) ≠ 0 then lr_st w h T k S ||| (2 ^ tb_one w h k ||| 2 ^ tb_oth w h k) else lr_st w h T k S
def lr_it (w h : Nat) (T : Nat → Bool) : Nat → Nat → Nat
  | 0, S => S
  | k + 1, S => lr_st w h T (tb_ne w h) (lr_it w h T k S)
def lr_rc (w h : Nat) (T : Nat → Bool) (p : Nat) : Nat := lr_it w h T 16 (2 ^ p)
def lr_T (st : Nat → Nat) (wo : Int32) (e : Nat) : Bool := st e == 1 && !(nI e == wo)
theorem lr_stN {w h : Nat} {T : Nat → Bool} {e S S0 : Nat} (hS : S = lr_st w h T e S0) (hT : T e = false) : S ||| 0 = lr_st w h T (e + 1) S0 := by
  rw [lr_st, if_neg (by rw [hT]; simp), ← hS, Nat.or_zero]
theorem lr_stZ {w h : Nat} {T : Nat → Bool} {e S S0 : Nat} (hS : S = lr_st w h T e S0) (hT : S &&& (2 ^ tb_one w h e ||| 2 ^ tb_oth w h e) = 0) : S ||| 0 = lr_st w h T (e + 1) S0 := by
  rw [lr_st, if_neg (by rw [← hS, hT]; simp), ← hS, Nat.or_zero]
theorem lr_stY {w h : Nat} {T : Nat → Bool} {e S S0 : Nat} (hS : S = lr_st w h T e S0) (h1 : T e = true) (h2 : S &&& (2 ^ tb_one w h e ||| 2 ^ tb_oth w h e) ≠ 0) : S ||| (2 ^ tb_one w h e ||| 2 ^ tb_oth w h e) = lr_st w h T (e + 1) S0 := by
  rw [lr_st, if_pos ⟨h1, by rw [← hS]; exact h2⟩, ← hS]
theorem lr_or_lt {a b n : Nat} (ha : a < 2 ^ n) (hb : b < 2 ^ n) : a ||| b < 2 ^ n := Nat.or_lt_two_pow ha hb
theorem lr_pw {a n : Nat} (h : a < n) : 2 ^ a < 2 ^ n := Nat.pow_lt_pow_right (by decide) h
theorem lr_ends {w h : Nat} (k : lr_k w h) {e : Nat} (he : e < tb_ne w h) : tb_one w h e < 16 ∧ tb_oth w h e < 16 ∧ tb_one w h e < tb_np w h ∧ tb_oth w h e < tb_np w h ∧ tb_are w h e ≤ tb_nc w h ∧ tb_bes w h e ≤ tb_nc w h := by
  have hz := lr_sz k
  have hq := lr_edge k e (by omega) he
  exact ⟨by omega, by omega, hq.2.2.1, hq.2.2.2.1, hq.2.2.2.2.1, hq.2.2.2.2.2.1⟩
theorem lr_st_lt {w h : Nat} (k : lr_k w h) {T : Nat → Bool} {S : Nat} (hS : S < 2 ^ 16) : ∀ e, e ≤ tb_ne w h → lr_st w h T e S < 2 ^ 16
  | 0, _ => hS
  | e + 1, he => by
    have ih := lr_st_lt k (T := T) hS e (by omega)
    have hq := lr_ends k (show e < tb_ne w h by omega)
    rw [lr_st]
    split
    · exact lr_or_lt ih (lr_or_lt (lr_pw hq.1) (lr_pw hq.2.1))
    · exact ih
theorem lr_it_lt {w h : Nat} (k : lr_k w h) {T : Nat → Bool} {S : Nat} (hS : S < 2 ^ 16) : ∀ m, lr_it w h T m S < 2 ^ 16
  | 0 => hS
  | m + 1 => lr_st_lt k (lr_it_lt k hS m) _ (Nat.le_refl _)
theorem lr_rc_lt {w h : Nat} (k : lr_k w h) {T : Nat → Bool} {p : Nat} (hp : p < 16) : lr_rc w h T p < 2 ^ 16 := lr_it_lt k (lr_pw hp) 16
theorem lr_st_up {w h : Nat} {T : Nat → Bool} {S i : Nat} (hi : S.testBit i = true) : ∀ e, (lr_st w h T e S).testBit i = true
  | 0 => hi
  | e + 1 => by
    rw [lr_st]
    split
    · rw [Nat.testBit_or, lr_st_up hi e]; rfl
    · exact lr_st_up hi e
theorem lr_it_up {w h : Nat} {T : Nat → Bool} {S i : Nat} (hi : S.testBit i = true) : ∀ m, (lr_it w h T m S).testBit i = true
  | 0 => hi
  | m + 1 => lr_st_up (lr_it_up hi m) _
theorem lr_rc_self {w h : Nat} {T : Nat → Bool} {p : Nat} : (lr_rc w h T p).testBit p = true := lr_it_up (Nat.testBit_two_pow_self) 16
theorem lr_rc_ne {w h : Nat} {T : Nat → Bool} {p : Nat} : lr_rc w h T p ≠ 0 := by
  intro q
  have := lr_rc_self (w := w) (h := h) (T := T) (p := p)
  rw [q] at this
  simp at this
set_option maxHeartbeats 4000000 in
theorem c_L_around {l : Launch} {G : jq_G} {n : Nat} {ad : Nat → Nat} {X : xs_T} {w h q : Nat} {st : Nat → Nat} (hB : lr_B n w h X) (hS : lr_S n w h q st X) {c how : Nat} (hc : c < tb_nc w h) (hh : how < 2 ^ 31) : xs_Ct l G mL_around 2 [.ref (ad 21), .ref (ad q), .int (nI (c)), .int (nI (how))] n ad X (xs_pd (some (.int (nI (tb_ar w h st c how)))) X) := by
  have hz := lr_sz hB.2.2.2
  have loop : ∀ k e cnt : Nat, e + k = 4 → cnt = fb_ct (fun s => st (tb_sid w h c s) == how) e → jq_J l G mL_around (jq_R 2 0 0) jq_E0 (xs_Ye G n ad (xs_pd (some (.int (nI (tb_ar w h st c how)))) X)) 6 [some (.ref (ad 21)), some (.ref (ad q)), some (.int (nI (c))), some (.int (nI (how))), some (.int (nI (cnt))), some (.int (nI (e)))] [] n ad (xs_mem G ad X) 0 0 := by
    intro k
    induction k with
    | zero =>
      intro e cnt hk hcn
      refine jq_iload dL_around_6 rfl ?_
      refine jq_iconst (v := (nI 4)) dL_around_8 (by decide) ?_
      refine jq_geN (tgt := 41) dL_around_9 (by decide) ⟨by omega, by omega⟩ (fun c9 => ?_) (fun c9 => ?_)
      · refine jq_iload dL_around_41 rfl ?_
        exact xq_ireturn dL_around_43 rfl rfl (⟨by rw [hcn, show e = 4 by omega]; rfl, rfl⟩)
      · exact absurd c9 (by omega)
    | succ k ih =>
      intro e cnt hk hcn
      have hsd := (lr_sid hB.2.2.2 c (by omega) e (by omega) hc).1
      have h3 := hS.2 _ hsd
      have hi : vp_in (nI (tb_sid w h c e)) 24 := vp_inN (by omega) (by decide)
      refine jq_iload dL_around_6 rfl ?_
      refine jq_iconst (v := (nI 4)) dL_around_8 (by decide) ?_
      refine jq_geN (tgt := 41) dL_around_9 (by decide) ⟨by omega, by omega⟩ (fun c9 => ?_) (fun c9 => ?_)
      · exact absurd c9 (by omega)
      · refine jq_iload dL_around_12 rfl ?_
        refine jq_aload_n dL_around_14 rfl rfl ?_
        refine jq_aload_n dL_around_15 rfl rfl ?_
        refine jq_iload_n dL_around_16 rfl rfl ?_
        refine jq_iload dL_around_17 rfl ?_
        refine xq_sI dL_around_19 kL_29 (c_L_side hB hc (by omega)) rfl rfl (Nat.le_of_ble_eq_true rfl) ⟨⟨by decide, by decide⟩, Nat.le_refl _, Nat.le_refl _⟩ ?_
        refine xq_iald dL_around_22 hS.1 hi h3.1 ?_
        refine jq_iload_n dL_around_23 rfl rfl ?_
        refine jq_neN (tgt := 31) dL_around_24 (by decide) ⟨by omega, hh⟩ (fun c24 => ?_) (fun c24 => ?_)
        · refine jq_iconst (v := (nI 0)) dL_around_31 (by decide) ?_
          refine jq_iaddN dL_around_32 ?_
          refine jq_istore dL_around_33 (by decide) rfl rfl ?_
          refine jq_iincN dL_around_35 (by decide) rfl rfl rfl ?_
          refine jq_goto (tgt := 6) dL_around_38 (by decide) ?_
          exact ih (e + 1) _ (by omega) (by rw [fb_ct_succ, ← hcn]; simp [*])
        · refine jq_iconst (v := (nI 1)) dL_around_27 (by decide) ?_
          refine jq_goto (tgt := 32) dL_around_28 (by decide) ?_
          refine jq_iaddN dL_around_32 ?_
          refine jq_istore dL_around_33 (by decide) rfl rfl ?_
          refine jq_iincN dL_around_35 (by decide) rfl rfl rfl ?_
          refine jq_goto (tgt := 6) dL_around_38 (by decide) ?_
          exact ih (e + 1) _ (by omega) (by rw [fb_ct_succ, ← hcn]; simp [*])
  refine xs_Ct_of (L := [some (.ref (ad 21)), some (.ref (ad q)), some (.int (nI (c))), some (.int (nI (how))), none, none]) rfl (Nat.le_of_ble_eq_true rfl) rfl ?_
  refine jq_iconst (v := (nI 0)) dL_around_0 (by decide) ?_
  refine jq_istore dL_around_1 (by decide) rfl rfl ?_
  refine jq_iconst (v := (nI 0)) dL_around_3 (by decide) ?_
  refine jq_istore dL_around_4 (by decide) rfl rfl ?_
  exact loop 4 0 0 rfl rfl
set_option maxHeartbeats 4000000 in
theorem c_L_at {l : Launch} {G : jq_G} {n : Nat} {ad : Nat → Nat} {X : xs_T} {w h q : Nat} {st : Nat → Nat} (hB : lr_B n w h X) (hS : lr_S n w h q st X) {p how : Nat} (hp : p < 2 ^ 31) (hh : how < 2 ^ 31) : xs_Ct l G mL_at 5 [.ref (ad 21), .ref (ad q), .int (nI (p)), .int (nI (how))] n ad X (xs_pd (some (.int (nI (tb_at w h st p how)))) X) := by
  have hz := lr_sz hB.2.2.2
  have loop : ∀ k e cnt : Nat, e + k = tb_ne w h → cnt = fb_ct (tb_atB w h st p how) e → jq_J l G mL_at (jq_R 5 0 0) jq_E0 (xs_Ye G n ad (xs_pd (some (.int (nI (tb_at w h st p how)))) X)) 6 [some (.ref (ad 21)), some (.ref (ad q)), some (.int (nI (p))), some (.int (nI (how))), some (.int (nI (cnt))), some (.int (nI (e)))] [] n ad (xs_mem G ad X) 0 0 := by
    intro k
    induction k with
    | zero =>
      intro e cnt hk hcn
      refine jq_iload dL_at_6 rfl ?_
      refine jq_aload_n dL_at_8 rfl rfl ?_
      refine xq_sI dL_at_9 kL_32 (c_L_edges hB) rfl rfl (Nat.le_of_ble_eq_true rfl) ⟨⟨by decide, by decide⟩, Nat.le_refl _, Nat.le_refl _⟩ ?_
      refine jq_geN (tgt := 59) dL_at_12 (by decide) ⟨by omega, by omega⟩ (fun c12 => ?_) (fun c12 => ?_)
      · refine jq_iload dL_at_59 rfl ?_
        exact xq_ireturn dL_at_61 rfl rfl (⟨by rw [hcn, show e = tb_ne w h by omega]; rfl, rfl⟩)
      · exact absurd c12 (by omega)
    | succ k ih =>
      intro e cnt hk hcn
      have he : e < tb_ne w h := by omega
      have hq := lr_ends hB.2.2.2 he
      have h3 := hS.2 _ he
      have hi : vp_in (nI e) 24 := vp_inN (by omega) (by decide)
      refine jq_iload dL_at_6 rfl ?_
      refine jq_aload_n dL_at_8 rfl rfl ?_
      refine xq_sI dL_at_9 kL_32 (c_L_edges hB) rfl rfl (Nat.le_of_ble_eq_true rfl) ⟨⟨by decide, by decide⟩, Nat.le_refl _, Nat.le_refl _⟩ ?_
      refine jq_geN (tgt := 59) dL_at_12 (by decide) ⟨by omega, by omega⟩ (fun c12 => ?_) (fun c12 => ?_)
      · exact absurd c12 (by omega)
      · refine jq_iload dL_at_15 rfl ?_
        refine jq_aload_n dL_at_17 rfl rfl ?_
        refine jq_iload dL_at_18 rfl ?_
        refine xq_iald dL_at_20 hS.1 hi h3.1 ?_
        refine jq_iload_n dL_at_21 rfl rfl ?_
        refine jq_neN (tgt := 49) dL_at_22 (by decide) ⟨by omega, hh⟩ (fun c22 => ?_) (fun c22 => ?_)
        · refine jq_iconst (v := (nI 0)) dL_at_49 (by decide) ?_
          refine jq_iaddN dL_at_50 ?_
          refine jq_istore dL_at_51 (by decide) rfl rfl ?_
          refine jq_iincN dL_at_53 (by decide) rfl rfl rfl ?_
          refine jq_goto (tgt := 6) dL_at_56 (by decide) ?_
          exact ih (e + 1) _ (by omega) (by rw [fb_ct_succ, ← hcn]; simp [tb_atB, *])
        · refine jq_aload_n dL_at_25 rfl rfl ?_
          refine jq_iload dL_at_26 rfl ?_
          refine xq_sI dL_at_28 kL_22 (c_L_from hB he) rfl rfl (Nat.le_of_ble_eq_true rfl) ⟨⟨by decide, by decide⟩, Nat.le_refl _, Nat.le_refl _⟩ ?_
          refine jq_iload_n dL_at_31 rfl rfl ?_
          refine jq_eqN (tgt := 45) dL_at_32 (by decide) ⟨by omega, hp⟩ (fun c32 => ?_) (fun c32 => ?_)
          · refine jq_iconst (v := (nI 1)) dL_at_45 (by decide) ?_
            refine jq_goto (tgt := 50) dL_at_46 (by decide) ?_
            refine jq_iaddN dL_at_50 ?_
            refine jq_istore dL_at_51 (by decide) rfl rfl ?_
            refine jq_iincN dL_at_53 (by decide) rfl rfl rfl ?_
            refine jq_goto (tgt := 6) dL_at_56 (by decide) ?_
            exact ih (e + 1) _ (by omega) (by rw [fb_ct_succ, ← hcn]; simp [tb_atB, *])
          · refine jq_aload_n dL_at_35 rfl rfl ?_
            refine jq_iload dL_at_36 rfl ?_
            refine xq_sI dL_at_38 kL_36 (c_L_to hB he) rfl rfl (Nat.le_of_ble_eq_true rfl) ⟨⟨by decide, by decide⟩, Nat.le_refl _, Nat.le_refl _⟩ ?_
            refine jq_iload_n dL_at_41 rfl rfl ?_
            refine jq_neN (tgt := 49) dL_at_42 (by decide) ⟨by omega, hp⟩ (fun c42 => ?_) (fun c42 => ?_)
            · refine jq_iconst (v := (nI 0)) dL_at_49 (by decide) ?_
              refine jq_iaddN dL_at_50 ?_
              refine jq_istore dL_at_51 (by decide) rfl rfl ?_
              refine jq_iincN dL_at_53 (by decide) rfl rfl rfl ?_
              refine jq_goto (tgt := 6) dL_at_56 (by decide) ?_
              exact ih (e + 1) _ (by omega) (by rw [fb_ct_succ, ← hcn]; simp [tb_atB, *])
            · refine jq_iconst (v := (nI 1)) dL_at_45 (by decide) ?_
              refine jq_goto (tgt := 50) dL_at_46 (by decide) ?_
              refine jq_iaddN dL_at_50 ?_
              refine jq_istore dL_at_51 (by decide) rfl rfl ?_
              refine jq_iincN dL_at_53 (by decide) rfl rfl rfl ?_
              refine jq_goto (tgt := 6) dL_at_56 (by decide) ?_
              exact ih (e + 1) _ (by omega) (by rw [fb_ct_succ, ← hcn]; simp [tb_atB, *])
  refine xs_Ct_of (L := [some (.ref (ad 21)), some (.ref (ad q)), some (.int (nI (p))), some (.int (nI (how))), none, none]) rfl (Nat.le_of_ble_eq_true rfl) rfl ?_
  refine jq_iconst (v := (nI 0)) dL_at_0 (by decide) ?_
  refine jq_istore dL_at_1 (by decide) rfl rfl ?_
  refine jq_iconst (v := (nI 0)) dL_at_3 (by decide) ?_
  refine jq_istore dL_at_4 (by decide) rfl rfl ?_
  exact loop (tb_ne w h) 0 0 (by omega) rfl
set_option maxHeartbeats 4000000 in
theorem c_L_areRight {l : Launch} {G : jq_G} {n : Nat} {ad : Nat → Nat} {X : xs_T} {w h q : Nat} {st : Nat → Nat} {num : Nat → Int32} (hB : lr_B n w h X) (hS : lr_S n w h q st X) (hN : lr_N n w h num X) (ig : Int32) : xs_Ct l G mL_areRight 3 [.ref (ad 21), .ref (ad q), .ref (ad 22), .int (ig)] n ad X (xs_pd (some (.int (tb_b (lr_rt w h num st ig)))) X) := by
  have hz := lr_sz hB.2.2.2
  have loop : ∀ k c : Nat, c + k = tb_nc w h → (∀ j, j < c → lr_rtB w h num st ig j = true) → jq_J l G mL_areRight (jq_R 3 0 0) jq_E0 (xs_Ye G n ad (xs_pd (some (.int (tb_b (lr_rt w h num st ig)))) X)) 3 [some (.ref (ad 21)), some (.ref (ad q)), some (.ref (ad 22)), some (.int (ig)), some (.int (nI (c)))] [] n ad (xs_mem G ad X) 0 0 := by
    intro k
    induction k with
    | zero =>
      intro c hk hc
      refine jq_iload dL_areRight_3 rfl ?_
      refine jq_aload_n dL_areRight_5 rfl rfl ?_
      refine jq_iconst (v := (nI 0)) dL_areRight_6 (by decide) ?_
      refine xq_iald dL_areRight_7 hB.1 lr_v0 hB.2.1 ?_
      refine jq_aload_n dL_areRight_8 rfl rfl ?_
      refine jq_iconst (v := (nI 1)) dL_areRight_9 (by decide) ?_
      refine xq_iald dL_areRight_10 hB.1 lr_v1 hB.2.2.1 ?_
      refine jq_imulN dL_areRight_11 ?_
      refine jq_geN (tgt := 51) dL_areRight_12 (by decide) ⟨by omega, by omega⟩ (fun c12 => ?_) (fun c12 => ?_)
      · refine jq_iconst (v := 1) dL_areRight_51 (by decide) ?_
        exact xq_ireturn dL_areRight_52 rfl rfl (⟨tb_vt (tb_allT (fun j hj => hc j (by omega))), rfl⟩)
      · exact absurd c12 (by omega)
    | succ k ih =>
      intro c hk hc
      have hcc : c < tb_nc w h := by omega
      have h3 := hN.2 _ hcc
      have hi : vp_in (nI c) 9 := vp_inN (by omega) (by decide)
      have next : lr_rtB w h num st ig c = true → ∀ j, j < c + 1 → lr_rtB w h num st ig j = true := by
        intro z j hj
        rcases Nat.lt_or_ge j c with q | q
        · exact hc j q
        · rw [show j = c by omega]; exact z
      refine jq_iload dL_areRight_3 rfl ?_
      refine jq_aload_n dL_areRight_5 rfl rfl ?_
      refine jq_iconst (v := (nI 0)) dL_areRight_6 (by decide) ?_
      refine xq_iald dL_areRight_7 hB.1 lr_v0 hB.2.1 ?_
      refine jq_aload_n dL_areRight_8 rfl rfl ?_
      refine jq_iconst (v := (nI 1)) dL_areRight_9 (by decide) ?_
      refine xq_iald dL_areRight_10 hB.1 lr_v1 hB.2.2.1 ?_
      refine jq_imulN dL_areRight_11 ?_
      refine jq_geN (tgt := 51) dL_areRight_12 (by decide) ⟨by omega, by omega⟩ (fun c12 => ?_) (fun c12 => ?_)
      · exact absurd c12 (by omega)
      · refine jq_aload_n dL_areRight_15 rfl rfl ?_
        refine jq_iload dL_areRight_16 rfl ?_
        refine xq_iald dL_areRight_18 hN.1 hi h3 ?_
        refine jq_if_lt (tgt := 45) dL_areRight_19 (by decide) (fun c19 => ?_) (fun c19 => ?_)
        · refine jq_iincN dL_areRight_45 (by decide) rfl rfl rfl ?_
          refine jq_goto (tgt := 3) dL_areRight_48 (by decide) ?_
          exact ih (c + 1) (by omega) (next (by simp [lr_rtB, *]))
        · refine jq_iload dL_areRight_22 rfl ?_
          refine jq_iload_n dL_areRight_24 rfl rfl ?_
          refine jq_icmp_eq (tgt := 45) dL_areRight_25 (by decide) (fun c25 => ?_) (fun c25 => ?_)
          · refine jq_iincN dL_areRight_45 (by decide) rfl rfl rfl ?_
            refine jq_goto (tgt := 3) dL_areRight_48 (by decide) ?_
            exact ih (c + 1) (by omega) (next (by simp [lr_rtB, *]))
          · refine jq_aload_n dL_areRight_28 rfl rfl ?_
            refine jq_aload_n dL_areRight_29 rfl rfl ?_
            refine jq_iload dL_areRight_30 rfl ?_
            refine jq_iconst (v := (nI 1)) dL_areRight_32 (by decide) ?_
            refine xq_sI dL_areRight_33 kL_45 (c_L_around hB hS hcc (by decide)) rfl rfl (Nat.le_of_ble_eq_true rfl) ⟨⟨by decide, by decide⟩, Nat.le_refl _, Nat.le_refl _⟩ ?_
            refine jq_aload_n dL_areRight_36 rfl rfl ?_
            refine jq_iload dL_areRight_37 rfl ?_
            refine xq_iald dL_areRight_39 hN.1 hi h3 ?_
            refine jq_icmp_eq (tgt := 45) dL_areRight_40 (by decide) (fun c40 => ?_) (fun c40 => ?_)
            · refine jq_iincN dL_areRight_45 (by decide) rfl rfl rfl ?_
              refine jq_goto (tgt := 3) dL_areRight_48 (by decide) ?_
              exact ih (c + 1) (by omega) (next (by simp [lr_rtB, *]))
            · refine jq_iconst (v := 0) dL_areRight_43 (by decide) ?_
              exact xq_ireturn dL_areRight_44 rfl rfl (⟨tb_vf (tb_allF hcc (by simp [lr_rtB, *])), rfl⟩)
  refine xs_Ct_of (L := [some (.ref (ad 21)), some (.ref (ad q)), some (.ref (ad 22)), some (.int (ig)), none]) rfl (Nat.le_of_ble_eq_true rfl) rfl ?_
  refine jq_iconst (v := (nI 0)) dL_areRight_0 (by decide) ?_
  refine jq_istore dL_areRight_1 (by decide) rfl rfl ?_
  exact loop (tb_nc w h) 0 (by omega) (fun j hj => absurd hj (Nat.not_lt_zero j))
set_option maxHeartbeats 4000000 in
theorem c_L_reached {l : Launch} {G : jq_G} {n : Nat} {ad : Nat → Nat} {X : xs_T} {w h q : Nat} {st : Nat → Nat} (hB : lr_B n w h X) (hS : lr_S n w h q st X) {p : Nat} (hp : p < 16) (wo : Int32) : xs_Ct l G mL_reached 5 [.ref (ad 21), .ref (ad q), .int (nI (p)), .int (wo)] n ad X (xs_pd (some (.int (nI (lr_rc w h (lr_T st wo) p)))) X) := by
  have hz := lr_sz hB.2.2.2
  have loop2 : ∀ (k2 e S S0 m : Nat) (o7 : Option Value), m < 16 → e + k2 = tb_ne w h → S0 < 2 ^ 16 → S = lr_st w h (lr_T st wo) e S0 → (∀ o6 o7, jq_J l G mL_reached (jq_R 5 0 0) jq_E0 (xs_Ye G n ad (xs_pd (some (.int (nI (lr_rc w h (lr_T st wo) p)))) X)) 8 [some (.ref (ad 21)), some (.ref (ad q)), some (.int (nI (p))), some (.int (wo)), some (.int (nI (lr_st w h (lr_T st wo) (tb_ne w h) S0))), some (.int (nI (m + 1))), o6, o7] [] n ad (xs_mem G ad X) 0 0) → jq_J l G mL_reached (jq_R 5 0 0) jq_E0 (xs_Ye G n ad (xs_pd (some (.int (nI (lr_rc w h (lr_T st wo) p)))) X)) 18 [some (.ref (ad 21)), some (.ref (ad q)), some (.int (nI (p))), some (.int (wo)), some (.int (nI (S))), some (.int (nI (m))), some (.int (nI (e))), o7] [] n ad (xs_mem G ad X) 0 0 := by
    intro k2
    induction k2 with
    | zero =>
      intro e S S0 m o7 hm hk hS0 hSe kk
      have e1 : e = tb_ne w h := by omega
      subst e1
      subst hSe
      refine jq_iload dL_reached_18 rfl ?_
      refine jq_aload_n dL_reached_20 rfl rfl ?_
      refine xq_sI dL_reached_21 kL_32 (c_L_edges hB) rfl rfl (Nat.le_of_ble_eq_true rfl) ⟨⟨by decide, by decide⟩, Nat.le_refl _, Nat.le_refl _⟩ ?_
      refine jq_geN (tgt := 85) dL_reached_24 (by decide) ⟨by omega, by omega⟩ (fun c24 => ?_) (fun c24 => ?_)
      · refine jq_iincN dL_reached_85 (by decide) rfl rfl rfl ?_
        refine jq_goto (tgt := 8) dL_reached_88 (by decide) ?_
        exact kk _ _
      · exact absurd c24 (by omega)
    | succ k2 ih =>
      intro e S S0 m o7 hm hk hS0 hSe kk
      have he : e < tb_ne w h := by omega
      have hq := lr_ends hB.2.2.2 he
      have h3 := hS.2 _ he
      have hi : vp_in (nI e) 24 := vp_inN (by omega) (by decide)
      have hSl : S < 2 ^ 16 := by rw [hSe]; exact lr_st_lt hB.2.2.2 hS0 e (by omega)
      have hand : S &&& (2 ^ tb_one w h e ||| 2 ^ tb_oth w h e) < 2 ^ 31 := Nat.lt_of_le_of_lt Nat.and_le_left (by omega)
      refine jq_iload dL_reached_18 rfl ?_
      refine jq_aload_n dL_reached_20 rfl rfl ?_
      refine xq_sI dL_reached_21 kL_32 (c_L_edges hB) rfl rfl (Nat.le_of_ble_eq_true rfl) ⟨⟨by decide, by decide⟩, Nat.le_refl _, Nat.le_refl _⟩ ?_
      refine jq_geN (tgt := 85) dL_reached_24 (by decide) ⟨by omega, by omega⟩ (fun c24 => ?_) (fun c24 => ?_)
      · exact absurd c24 (by omega)
      · refine jq_iconst (v := (nI 1)) dL_reached_27 (by decide) ?_
        refine jq_aload_n dL_reached_28 rfl rfl ?_
        refine jq_iload dL_reached_29 rfl ?_
        refine xq_sI dL_reached_31 kL_22 (c_L_from hB he) rfl rfl (Nat.le_of_ble_eq_true rfl) ⟨⟨by decide, by decide⟩, Nat.le_refl _, Nat.le_refl _⟩ ?_
        refine jq_ishl dL_reached_34 (lr_shl1 (by omega)) ?_
        refine jq_iconst (v := (nI 1)) dL_reached_35 (by decide) ?_
        refine jq_aload_n dL_reached_36 rfl rfl ?_
        refine jq_iload dL_reached_37 rfl ?_
        refine xq_sI dL_reached_39 kL_36 (c_L_to hB he) rfl rfl (Nat.le_of_ble_eq_true rfl) ⟨⟨by decide, by decide⟩, Nat.le_refl _, Nat.le_refl _⟩ ?_
        refine jq_ishl dL_reached_42 (lr_shl1 (by omega)) ?_
        refine jq_ior dL_reached_43 ?_
        rw [fa_or]
        refine jq_istore dL_reached_44 (by decide) rfl rfl ?_
        refine jq_iload dL_reached_46 rfl ?_
        refine jq_aload_n dL_reached_48 rfl rfl ?_
        refine jq_iload dL_reached_49 rfl ?_
        refine xq_iald dL_reached_51 hS.1 hi h3.1 ?_
        refine jq_iconst (v := (nI 1)) dL_reached_52 (by decide) ?_
        refine jq_neN (tgt := 75) dL_reached_53 (by decide) ⟨by omega, by omega⟩ (fun c53 => ?_) (fun c53 => ?_)
        · have hX := lr_stN hSe (show lr_T st wo e = false by simp [lr_T, c53])
          refine jq_iconst (v := (nI 0)) dL_reached_75 (by decide) ?_
          refine jq_ior dL_reached_76 ?_
          rw [fa_or]
          refine jq_istore dL_reached_77 (by decide) rfl rfl ?_
          refine jq_iincN dL_reached_79 (by decide) rfl rfl rfl ?_
          refine jq_goto (tgt := 18) dL_reached_82 (by decide) ?_
          exact ih (e + 1) _ S0 m _ hm (by omega) hS0 hX kk
        · refine jq_iload dL_reached_56 rfl ?_
          refine jq_iload_n dL_reached_58 rfl rfl ?_
          refine jq_icmp_eq (tgt := 75) dL_reached_59 (by decide) (fun c59 => ?_) (fun c59 => ?_)
          · have hX := lr_stN hSe (show lr_T st wo e = false by simp [lr_T, c59])
            refine jq_iconst (v := (nI 0)) dL_reached_75 (by decide) ?_
            refine jq_ior dL_reached_76 ?_
            rw [fa_or]
            refine jq_istore dL_reached_77 (by decide) rfl rfl ?_
            refine jq_iincN dL_reached_79 (by decide) rfl rfl rfl ?_
            refine jq_goto (tgt := 18) dL_reached_82 (by decide) ?_
            exact ih (e + 1) _ S0 m _ hm (by omega) hS0 hX kk
          · refine jq_iload dL_reached_62 rfl ?_
            refine jq_iload dL_reached_64 rfl ?_
            refine jq_iand dL_reached_66 ?_
            rw [fa_and]
            refine jq_eqZ (tgt := 75) dL_reached_67 (by decide) hand (fun c67 => ?_) (fun c67 => ?_)
            · have hX := lr_stZ hSe c67
              refine jq_iconst (v := (nI 0)) dL_reached_75 (by decide) ?_
              refine jq_ior dL_reached_76 ?_
              rw [fa_or]
              refine jq_istore dL_reached_77 (by decide) rfl rfl ?_
              refine jq_iincN dL_reached_79 (by decide) rfl rfl rfl ?_
              refine jq_goto (tgt := 18) dL_reached_82 (by decide) ?_
              exact ih (e + 1) _ S0 m _ hm (by omega) hS0 hX kk
            · have hX := lr_stY hSe (show lr_T st wo e = true by simp [lr_T, c53, c59]) c67
              refine jq_iload dL_reached_70 rfl ?_
              refine jq_goto (tgt := 76) dL_reached_72 (by decide) ?_
              refine jq_ior dL_reached_76 ?_
              rw [fa_or]
              refine jq_istore dL_reached_77 (by decide) rfl rfl ?_
              refine jq_iincN dL_reached_79 (by decide) rfl rfl rfl ?_
              refine jq_goto (tgt := 18) dL_reached_82 (by decide) ?_
              exact ih (e + 1) _ S0 m _ hm (by omega) hS0 hX kk
  have loop : ∀ (k m : Nat) (o6 o7 : Option Value), m + k = 16 → jq_J l G mL_reached (jq_R 5 0 0) jq_E0 (xs_Ye G n ad (xs_pd (some (.int (nI (lr_rc w h (lr_T st wo) p)))) X)) 8 [some (.ref (ad 21)), some (.ref (ad q)), some (.int (nI (p))), some (.int (wo)), some (.int (nI (lr_it w h (lr_T st wo) m (2 ^ p)))), some (.int (nI (m))), o6, o7] [] n ad (xs_mem G ad X) 0 0 := by
    intro k
    induction k with
    | zero =>
      intro m o6 o7 hk
      have e1 : m = 16 := by omega
      subst e1
      refine jq_iload dL_reached_8 rfl ?_
      refine jq_bipush (v := (nI 16)) dL_reached_10 (by decide) ?_
      refine jq_geN (tgt := 91) dL_reached_12 (by decide) ⟨by omega, by omega⟩ (fun c12 => ?_) (fun c12 => ?_)
      · refine jq_iload dL_reached_91 rfl ?_
        exact xq_ireturn dL_reached_93 rfl rfl (⟨rfl, rfl⟩)
      · exact absurd c12 (by omega)
    | succ k ih =>
      intro m o6 o7 hk
      refine jq_iload dL_reached_8 rfl ?_
      refine jq_bipush (v := (nI 16)) dL_reached_10 (by decide) ?_
      refine jq_geN (tgt := 91) dL_reached_12 (by decide) ⟨by omega, by omega⟩ (fun c12 => ?_) (fun c12 => ?_)
      · exact absurd c12 (by omega)
      · refine jq_iconst (v := (nI 0)) dL_reached_15 (by decide) ?_
        refine jq_istore dL_reached_16 (by decide) rfl rfl ?_
        exact loop2 (tb_ne w h) 0 _ _ m _ (by omega) (by omega) (lr_it_lt hB.2.2.2 (lr_pw hp) m) rfl (fun o6 o7 => ih (m + 1) o6 o7 (by omega))
  refine xs_Ct_of (L := [some (.ref (ad 21)), some (.ref (ad q)), some (.int (nI (p))), some (.int (wo)), none, none, none, none]) rfl (Nat.le_of_ble_eq_true rfl) rfl ?_
  refine jq_iconst (v := (nI 1)) dL_reached_0 (by decide) ?_
  refine jq_iload_n dL_reached_1 rfl rfl ?_
  refine jq_ishl dL_reached_2 (lr_shl1 (by omega)) ?_
  refine jq_istore dL_reached_3 (by decide) rfl rfl ?_
  refine jq_iconst (v := (nI 0)) dL_reached_5 (by decide) ?_
  refine jq_istore dL_reached_6 (by decide) rfl rfl ?_
  exact loop 16 0 _ _ (by omega)
/-- what the law's isLoop looks at: the first line's points, and that each line has its ends there, each at two lines -/
def lr_lpB (w h : Nat) (st : Nat → Nat) (S e : Nat) : Bool := !(st e == 1) || (S.testBit (tb_one w h e) && (tb_at w h st (tb_one w h e) 1 == 2 && tb_at w h st (tb_oth w h e) 1 == 2))
def lr_lp (w h : Nat) (st : Nat → Nat) : Bool := decide (fa_first (fun e => st e == 1) (tb_ne w h) < tb_ne w h) && (List.range (tb_ne w h)).all (lr_lpB w h st (lr_rc w h (lr_T st (-1)) (tb_one w h (fa_first (fun e => st e == 1) (tb_ne w h)))))
theorem lr_first {p : Nat → Bool} {n e : Nat} (he : e < n) (h1 : p e = true) (h2 : ∀ j, j < e → p j = false) : fa_first p n = e := by
  have a := fa_first_no p n
  have b := fa_first_yes p n
  have c : fa_first p n ≤ e := by
    rcases Nat.lt_or_ge e (fa_first p n) with q | q
    · rw [a e q] at h1; cases h1
    · exact q
  have d := b (by omega)
  rcases Nat.lt_or_ge (fa_first p n) e with q | q
  · rw [h2 _ q] at d; cases d
  · omega
theorem lr_first_none {p : Nat → Bool} {n : Nat} (h : ∀ j, j < n → p j = false) : fa_first p n = n := by
  have a := fa_first_le p n
  rcases Nat.lt_or_ge (fa_first p n) n with q | q
  · have := fa_first_yes p n q
    rw [h _ q] at this
    cases this
  · omega
theorem lr_tb1 {a k : Nat} : nI (a / 2 ^ k) &&& nI 1 = nI (if a.testBit k = true then 1 else 0) := lr_bit
theorem lr_tb0 {a k : Nat} (h : nI (if a.testBit k = true then 1 else 0) = 0) : a.testBit k = false := by
  rcases (Bool.eq_false_or_eq_true (a.testBit k)).symm with q | q
  · exact q
  · rw [q] at h; exact absurd h (by decide)
theorem lr_tbN {a k : Nat} (h : ¬ nI (if a.testBit k = true then 1 else 0) = 0) : a.testBit k = true := by
  rcases (Bool.eq_false_or_eq_true (a.testBit k)).symm with q | q
  · rw [q] at h; exact absurd rfl h
  · exact q
set_option maxHeartbeats 4000000 in
theorem c_L_isLoop {l : Launch} {G : jq_G} {n : Nat} {ad : Nat → Nat} {X : xs_T} {w h q : Nat} {st : Nat → Nat} (hB : lr_B n w h X) (hS : lr_S n w h q st X) : xs_Ct l G mL_isLoop 6 [.ref (ad 21), .ref (ad q)] n ad X (xs_pd (some (.int (tb_b (lr_lp w h st)))) X) := by
  have hz := lr_sz hB.2.2.2
  -- behind the first line
  have loop2 : ∀ k e f : Nat, e + k = tb_ne w h → f < e → fa_first (fun e => st e == 1) (tb_ne w h) = f → (∀ j, j < e → lr_lpB w h st (lr_rc w h (lr_T st (-1)) (tb_one w h f)) j = true) → jq_J l G mL_isLoop (jq_R 6 0 0) jq_E0 (xs_Ye G n ad (xs_pd (some (.int (tb_b (lr_lp w h st)))) X)) 4 [some (.ref (ad 21)), some (.ref (ad q)), some (.int (nI (lr_rc w h (lr_T st (-1)) (tb_one w h f)))), some (.int (nI (e)))] [] n ad (xs_mem G ad X) 0 0 := by
    intro k
    induction k with
    | zero =>
      intro e f hk hf hff hc
      have hq := lr_ends hB.2.2.2 (show f < tb_ne w h by omega)
      have hl := lr_rc_lt hB.2.2.2 (T := lr_T st (-1)) hq.1
      refine jq_iload_n dL_isLoop_4 rfl rfl ?_
      refine jq_aload_n dL_isLoop_5 rfl rfl ?_
      refine xq_sI dL_isLoop_6 kL_32 (c_L_edges hB) rfl rfl (Nat.le_of_ble_eq_true rfl) ⟨⟨by decide, by decide⟩, Nat.le_refl _, Nat.le_refl _⟩ ?_
      refine jq_geN (tgt := 89) dL_isLoop_9 (by decide) ⟨by omega, by omega⟩ (fun c9 => ?_) (fun c9 => ?_)
      · refine jq_iload_n dL_isLoop_89 rfl rfl ?_
        refine jq_eqZ (tgt := 97) dL_isLoop_90 (by decide) (by omega) (fun c90 => ?_) (fun c90 => ?_)
        · exact absurd c90 lr_rc_ne
        · refine jq_iconst (v := 1) dL_isLoop_93 (by decide) ?_
          refine jq_goto (tgt := 98) dL_isLoop_94 (by decide) ?_
          exact xq_ireturn dL_isLoop_98 rfl rfl (⟨tb_vt (by unfold lr_lp; rw [hff, decide_eq_true (by omega), Bool.true_and]; exact tb_allT (fun j hj => hc j (by omega))), rfl⟩)
      · exact absurd c9 (by omega)
    | succ k ih =>
      intro e f hk hf hff hc
      have he : e < tb_ne w h := by omega
      have hqf := lr_ends hB.2.2.2 (show f < tb_ne w h by omega)
      have hl := lr_rc_lt hB.2.2.2 (T := lr_T st (-1)) hqf.1
      have hq := lr_ends hB.2.2.2 he
      have h3 := hS.2 _ he
      have hi : vp_in (nI e) 24 := vp_inN (by omega) (by decide)
      have ha1 : tb_at w h st (tb_one w h e) 1 ≤ tb_ne w h := fb_ct_le _ _
      have ha2 : tb_at w h st (tb_oth w h e) 1 ≤ tb_ne w h := fb_ct_le _ _
      have next : lr_lpB w h st (lr_rc w h (lr_T st (-1)) (tb_one w h f)) e = true → ∀ j, j < e + 1 → lr_lpB w h st (lr_rc w h (lr_T st (-1)) (tb_one w h f)) j = true := by
        intro z j hj
        rcases Nat.lt_or_ge j e with q | q
        · exact hc j q
        · rw [show j = e by omega]; exact z
      have no : lr_lpB w h st (lr_rc w h (lr_T st (-1)) (tb_one w h f)) e = false → some (Value.int (nI 0)) = some (Value.int (tb_b (lr_lp w h st))) := by
        intro z
        refine tb_vf ?_
        unfold lr_lp
        rw [hff, tb_allF he z, Bool.and_false]
      refine jq_iload_n dL_isLoop_4 rfl rfl ?_
      refine jq_aload_n dL_isLoop_5 rfl rfl ?_
      refine xq_sI dL_isLoop_6 kL_32 (c_L_edges hB) rfl rfl (Nat.le_of_ble_eq_true rfl) ⟨⟨by decide, by decide⟩, Nat.le_refl _, Nat.le_refl _⟩ ?_
      refine jq_geN (tgt := 89) dL_isLoop_9 (by decide) ⟨by omega, by omega⟩ (fun c9 => ?_) (fun c9 => ?_)
      · exact absurd c9 (by omega)
      · refine jq_aload_n dL_isLoop_12 rfl rfl ?_
        refine jq_iload_n dL_isLoop_13 rfl rfl ?_
        refine xq_iald dL_isLoop_14 hS.1 hi h3.1 ?_
        refine jq_iconst (v := (nI 1)) dL_isLoop_15 (by decide) ?_
        refine jq_neN (tgt := 83) dL_isLoop_16 (by decide) ⟨by omega, by omega⟩ (fun c16 => ?_) (fun c16 => ?_)
        · refine jq_iincN dL_isLoop_83 (by decide) rfl rfl rfl ?_
          refine jq_goto (tgt := 4) dL_isLoop_86 (by decide) ?_
          exact ih (e + 1) f (by omega) (by omega) hff (next (by simp [lr_lpB, *]))
        · refine jq_iload_n dL_isLoop_19 rfl rfl ?_
          refine jq_neZ (tgt := 37) dL_isLoop_20 (by decide) (by omega) (fun c20 => ?_) (fun c20 => ?_)
          · refine jq_iload_n dL_isLoop_37 rfl rfl ?_
            refine jq_istore_n dL_isLoop_38 rfl (by decide) rfl rfl ?_
            refine jq_iload_n dL_isLoop_39 rfl rfl ?_
            refine jq_aload_n dL_isLoop_40 rfl rfl ?_
            refine jq_iload_n dL_isLoop_41 rfl rfl ?_
            refine xq_sI dL_isLoop_42 kL_22 (c_L_from hB he) rfl rfl (Nat.le_of_ble_eq_true rfl) ⟨⟨by decide, by decide⟩, Nat.le_refl _, Nat.le_refl _⟩ ?_
            refine jq_ishr dL_isLoop_45 (lr_shr (by omega) (by omega)) ?_
            refine jq_iconst (v := (nI 1)) dL_isLoop_46 (by decide) ?_
            refine jq_iand dL_isLoop_47 ?_
            rw [lr_tb1]
            refine jq_if_eq (tgt := 81) dL_isLoop_48 (by decide) (fun c48 => ?_) (fun c48 => ?_)
            · have d48 := lr_tb0 c48
              refine jq_iconst (v := (nI 0)) dL_isLoop_81 (by decide) ?_
              exact xq_ireturn dL_isLoop_82 rfl rfl (⟨no (by simp [lr_lpB, *]), rfl⟩)
            · have d48 := lr_tbN c48
              refine jq_aload_n dL_isLoop_51 rfl rfl ?_
              refine jq_aload_n dL_isLoop_52 rfl rfl ?_
              refine jq_aload_n dL_isLoop_53 rfl rfl ?_
              refine jq_iload_n dL_isLoop_54 rfl rfl ?_
              refine xq_sI dL_isLoop_55 kL_22 (c_L_from hB he) rfl rfl (Nat.le_of_ble_eq_true rfl) ⟨⟨by decide, by decide⟩, Nat.le_refl _, Nat.le_refl _⟩ ?_
              refine jq_iconst (v := (nI 1)) dL_isLoop_58 (by decide) ?_
              refine xq_sI dL_isLoop_59 kL_52 (c_L_at hB hS (by omega) (by decide)) rfl rfl (Nat.le_of_ble_eq_true rfl) ⟨⟨by decide, by decide⟩, Nat.le_refl _, Nat.le_refl _⟩ ?_
              refine jq_iconst (v := (nI 2)) dL_isLoop_62 (by decide) ?_
              refine jq_neN (tgt := 81) dL_isLoop_63 (by decide) ⟨by omega, by omega⟩ (fun c63 => ?_) (fun c63 => ?_)
              · refine jq_iconst (v := (nI 0)) dL_isLoop_81 (by decide) ?_
                exact xq_ireturn dL_isLoop_82 rfl rfl (⟨no (by simp [lr_lpB, *]), rfl⟩)
              · refine jq_aload_n dL_isLoop_66 rfl rfl ?_
                refine jq_aload_n dL_isLoop_67 rfl rfl ?_
                refine jq_aload_n dL_isLoop_68 rfl rfl ?_
                refine jq_iload_n dL_isLoop_69 rfl rfl ?_
                refine xq_sI dL_isLoop_70 kL_36 (c_L_to hB he) rfl rfl (Nat.le_of_ble_eq_true rfl) ⟨⟨by decide, by decide⟩, Nat.le_refl _, Nat.le_refl _⟩ ?_
                refine jq_iconst (v := (nI 1)) dL_isLoop_73 (by decide) ?_
                refine xq_sI dL_isLoop_74 kL_52 (c_L_at hB hS (by omega) (by decide)) rfl rfl (Nat.le_of_ble_eq_true rfl) ⟨⟨by decide, by decide⟩, Nat.le_refl _, Nat.le_refl _⟩ ?_
                refine jq_iconst (v := (nI 2)) dL_isLoop_77 (by decide) ?_
                refine jq_eqN (tgt := 83) dL_isLoop_78 (by decide) ⟨by omega, by omega⟩ (fun c78 => ?_) (fun c78 => ?_)
                · refine jq_iincN dL_isLoop_83 (by decide) rfl rfl rfl ?_
                  refine jq_goto (tgt := 4) dL_isLoop_86 (by decide) ?_
                  exact ih (e + 1) f (by omega) (by omega) hff (next (by simp [lr_lpB, *]))
                · refine jq_iconst (v := (nI 0)) dL_isLoop_81 (by decide) ?_
                  exact xq_ireturn dL_isLoop_82 rfl rfl (⟨no (by simp [lr_lpB, *]), rfl⟩)
          · exact absurd c20 lr_rc_ne
  have loop : ∀ k e : Nat, e + k = tb_ne w h → (∀ j, j < e → (st j == 1) = false) → jq_J l G mL_isLoop (jq_R 6 0 0) jq_E0 (xs_Ye G n ad (xs_pd (some (.int (tb_b (lr_lp w h st)))) X)) 4 [some (.ref (ad 21)), some (.ref (ad q)), some (.int (nI (0))), some (.int (nI (e)))] [] n ad (xs_mem G ad X) 0 0 := by
    intro k
    induction k with
    | zero =>
      intro e hk hc
      have hff := lr_first_none (p := fun e => st e == 1) (n := tb_ne w h) (fun j hj => hc j (by omega))
      refine jq_iload_n dL_isLoop_4 rfl rfl ?_
      refine jq_aload_n dL_isLoop_5 rfl rfl ?_
      refine xq_sI dL_isLoop_6 kL_32 (c_L_edges hB) rfl rfl (Nat.le_of_ble_eq_true rfl) ⟨⟨by decide, by decide⟩, Nat.le_refl _, Nat.le_refl _⟩ ?_
      refine jq_geN (tgt := 89) dL_isLoop_9 (by decide) ⟨by omega, by omega⟩ (fun c9 => ?_) (fun c9 => ?_)
      · refine jq_iload_n dL_isLoop_89 rfl rfl ?_
        refine jq_eqZ (tgt := 97) dL_isLoop_90 (by decide) (by omega) (fun c90 => ?_) (fun c90 => ?_)
        · refine jq_iconst (v := 0) dL_isLoop_97 (by decide) ?_
          exact xq_ireturn dL_isLoop_98 rfl rfl (⟨tb_vf (by unfold lr_lp; rw [hff, decide_eq_false (by omega), Bool.false_and]), rfl⟩)
        · exact absurd rfl c90
      · exact absurd c9 (by omega)
    | succ k ih =>
      intro e hk hc
      have he : e < tb_ne w h := by omega
      have hq := lr_ends hB.2.2.2 he
      have hl := lr_rc_lt hB.2.2.2 (T := lr_T st (-1)) hq.1
      have h3 := hS.2 _ he
      have hi : vp_in (nI e) 24 := vp_inN (by omega) (by decide)
      have ha1 : tb_at w h st (tb_one w h e) 1 ≤ tb_ne w h := fb_ct_le _ _
      have ha2 : tb_at w h st (tb_oth w h e) 1 ≤ tb_ne w h := fb_ct_le _ _
      have next : (st e == 1) = false → ∀ j, j < e + 1 → (st j == 1) = false := by
        intro z j hj
        rcases Nat.lt_or_ge j e with q | q
        · exact hc j q
        · rw [show j = e by omega]; exact z
      refine jq_iload_n dL_isLoop_4 rfl rfl ?_
      refine jq_aload_n dL_isLoop_5 rfl rfl ?_
      refine xq_sI dL_isLoop_6 kL_32 (c_L_edges hB) rfl rfl (Nat.le_of_ble_eq_true rfl) ⟨⟨by decide, by decide⟩, Nat.le_refl _, Nat.le_refl _⟩ ?_
      refine jq_geN (tgt := 89) dL_isLoop_9 (by decide) ⟨by omega, by omega⟩ (fun c9 => ?_) (fun c9 => ?_)
      · exact absurd c9 (by omega)
      · refine jq_aload_n dL_isLoop_12 rfl rfl ?_
        refine jq_iload_n dL_isLoop_13 rfl rfl ?_
        refine xq_iald dL_isLoop_14 hS.1 hi h3.1 ?_
        refine jq_iconst (v := (nI 1)) dL_isLoop_15 (by decide) ?_
        refine jq_neN (tgt := 83) dL_isLoop_16 (by decide) ⟨by omega, by omega⟩ (fun c16 => ?_) (fun c16 => ?_)
        · have hn := next (by simp [c16])
          refine jq_iincN dL_isLoop_83 (by decide) rfl rfl rfl ?_
          refine jq_goto (tgt := 4) dL_isLoop_86 (by decide) ?_
          first | exact ih (e + 1) (by omega) hn | exact loop2 k (e + 1) e (by omega) (by omega) hff hn2
        · have hff := lr_first (p := fun e => st e == 1) he (by simp [c16]) hc
          have hlp : lr_lpB w h st (lr_rc w h (lr_T st (-1)) (tb_one w h e)) e = (tb_at w h st (tb_one w h e) 1 == 2 && tb_at w h st (tb_oth w h e) 1 == 2) := by simp [lr_lpB, c16, lr_rc_self]
          have no : lr_lpB w h st (lr_rc w h (lr_T st (-1)) (tb_one w h e)) e = false → some (Value.int (nI 0)) = some (Value.int (tb_b (lr_lp w h st))) := fun z => tb_vf (by unfold lr_lp; rw [hff, tb_allF he z, Bool.and_false])
          have yes : lr_lpB w h st (lr_rc w h (lr_T st (-1)) (tb_one w h e)) e = true → ∀ j, j < e + 1 → lr_lpB w h st (lr_rc w h (lr_T st (-1)) (tb_one w h e)) j = true := fun z j hj => by rcases Nat.lt_or_ge j e with q | q; (· simp [lr_lpB, hc j q]); (· rw [show j = e by omega]; exact z)
          refine jq_iload_n dL_isLoop_19 rfl rfl ?_
          refine jq_neZ (tgt := 37) dL_isLoop_20 (by decide) (by omega) (fun c20 => ?_) (fun c20 => ?_)
          · exact absurd rfl c20
          · refine jq_aload_n dL_isLoop_23 rfl rfl ?_
            refine jq_aload_n dL_isLoop_24 rfl rfl ?_
            refine jq_aload_n dL_isLoop_25 rfl rfl ?_
            refine jq_iload_n dL_isLoop_26 rfl rfl ?_
            refine xq_sI dL_isLoop_27 kL_22 (c_L_from hB he) rfl rfl (Nat.le_of_ble_eq_true rfl) ⟨⟨by decide, by decide⟩, Nat.le_refl _, Nat.le_refl _⟩ ?_
            refine jq_iconst (v := (-1)) dL_isLoop_30 (by decide) ?_
            refine xq_sI dL_isLoop_31 kL_49 (c_L_reached hB hS hq.1 (-1)) rfl rfl (Nat.le_of_ble_eq_true rfl) ⟨⟨by decide, by decide⟩, Nat.le_refl _, Nat.le_refl _⟩ ?_
            refine jq_goto (tgt := 38) dL_isLoop_34 (by decide) ?_
            refine jq_istore_n dL_isLoop_38 rfl (by decide) rfl rfl ?_
            refine jq_iload_n dL_isLoop_39 rfl rfl ?_
            refine jq_aload_n dL_isLoop_40 rfl rfl ?_
            refine jq_iload_n dL_isLoop_41 rfl rfl ?_
            refine xq_sI dL_isLoop_42 kL_22 (c_L_from hB he) rfl rfl (Nat.le_of_ble_eq_true rfl) ⟨⟨by decide, by decide⟩, Nat.le_refl _, Nat.le_refl _⟩ ?_
            refine jq_ishr dL_isLoop_45 (lr_shr (by omega) (by omega)) ?_
            refine jq_iconst (v := (nI 1)) dL_isLoop_46 (by decide) ?_
            refine jq_iand dL_isLoop_47 ?_
            rw [lr_tb1]
            refine jq_if_eq (tgt := 81) dL_isLoop_48 (by decide) (fun c48 => ?_) (fun c48 => ?_)
            · exact absurd (lr_tb0 c48) (by rw [lr_rc_self]; decide)
            · refine jq_aload_n dL_isLoop_51 rfl rfl ?_
              refine jq_aload_n dL_isLoop_52 rfl rfl ?_
              refine jq_aload_n dL_isLoop_53 rfl rfl ?_
              refine jq_iload_n dL_isLoop_54 rfl rfl ?_
              refine xq_sI dL_isLoop_55 kL_22 (c_L_from hB he) rfl rfl (Nat.le_of_ble_eq_true rfl) ⟨⟨by decide, by decide⟩, Nat.le_refl _, Nat.le_refl _⟩ ?_
              refine jq_iconst (v := (nI 1)) dL_isLoop_58 (by decide) ?_
              refine xq_sI dL_isLoop_59 kL_52 (c_L_at hB hS (by omega) (by decide)) rfl rfl (Nat.le_of_ble_eq_true rfl) ⟨⟨by decide, by decide⟩, Nat.le_refl _, Nat.le_refl _⟩ ?_
              refine jq_iconst (v := (nI 2)) dL_isLoop_62 (by decide) ?_
              refine jq_neN (tgt := 81) dL_isLoop_63 (by decide) ⟨by omega, by omega⟩ (fun c63 => ?_) (fun c63 => ?_)
              · have hno := no (by rw [hlp]; simp [c63])
                refine jq_iconst (v := (nI 0)) dL_isLoop_81 (by decide) ?_
                exact xq_ireturn dL_isLoop_82 rfl rfl (⟨hno, rfl⟩)
              · refine jq_aload_n dL_isLoop_66 rfl rfl ?_
                refine jq_aload_n dL_isLoop_67 rfl rfl ?_
                refine jq_aload_n dL_isLoop_68 rfl rfl ?_
                refine jq_iload_n dL_isLoop_69 rfl rfl ?_
                refine xq_sI dL_isLoop_70 kL_36 (c_L_to hB he) rfl rfl (Nat.le_of_ble_eq_true rfl) ⟨⟨by decide, by decide⟩, Nat.le_refl _, Nat.le_refl _⟩ ?_
                refine jq_iconst (v := (nI 1)) dL_isLoop_73 (by decide) ?_
                refine xq_sI dL_isLoop_74 kL_52 (c_L_at hB hS (by omega) (by decide)) rfl rfl (Nat.le_of_ble_eq_true rfl) ⟨⟨by decide, by decide⟩, Nat.le_refl _, Nat.le_refl _⟩ ?_
                refine jq_iconst (v := (nI 2)) dL_isLoop_77 (by decide) ?_
                refine jq_eqN (tgt := 83) dL_isLoop_78 (by decide) ⟨by omega, by omega⟩ (fun c78 => ?_) (fun c78 => ?_)
                · have hn2 := yes (by rw [hlp]; simp [c63, c78])
                  refine jq_iincN dL_isLoop_83 (by decide) rfl rfl rfl ?_
                  refine jq_goto (tgt := 4) dL_isLoop_86 (by decide) ?_
                  first | exact ih (e + 1) (by omega) hn | exact loop2 k (e + 1) e (by omega) (by omega) hff hn2
                · have hno := no (by rw [hlp]; simp [c78])
                  refine jq_iconst (v := (nI 0)) dL_isLoop_81 (by decide) ?_
                  exact xq_ireturn dL_isLoop_82 rfl rfl (⟨hno, rfl⟩)
  refine xs_Ct_of (L := [some (.ref (ad 21)), some (.ref (ad q)), none, none]) rfl (Nat.le_of_ble_eq_true rfl) rfl ?_
  refine jq_iconst (v := (nI 0)) dL_isLoop_0 (by decide) ?_
  refine jq_istore_n dL_isLoop_1 rfl (by decide) rfl rfl ?_
  refine jq_iconst (v := (nI 0)) dL_isLoop_2 (by decide) ?_
  refine jq_istore_n dL_isLoop_3 rfl (by decide) rfl rfl ?_
  exact loop (tb_ne w h) 0 (by omega) (fun j hj => absurd hj (Nat.not_lt_zero j))
