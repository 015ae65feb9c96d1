/-! the reference's small methods -/
set_option maxHeartbeats 4000000 in
theorem c_X6_thrown {l : Launch} {G : jq_G} {n : Nat} {ad : Nat → Nat} {X : xs_T} (hn : 39 ≤ n) : xs_Ct l G mX6_thrown 1 [.ref (ad 21)] n ad X (xs_pd (some (.int (X.1 21 26))) X) := by
  refine xs_Ct_of (L := [some (.ref (ad 21))]) rfl (Nat.le_of_ble_eq_true rfl) rfl ?_
  refine jq_aload_n dX6_thrown_0 rfl rfl ?_
  refine xq_getI fX6_67 dX6_thrown_1 (xs_lt (by decide) hn) (by decide) rfl ?_
  exact xq_ireturn dX6_thrown_4 rfl rfl (⟨rfl, rfl⟩)
set_option maxHeartbeats 4000000 in
theorem c_X6_may {l : Launch} {G : jq_G} {n : Nat} {ad : Nat → Nat} {X : xs_T} (hn : 39 ≤ n) (b : Bool) : xs_Ct l G mX6_may 1 [.ref (ad 21), .int (if b then 1 else 0)] n ad X (xs_pd (some (.int (if b then 1 else 0))) (xs_si X 21 26 (if b then 0 else 1))) := by
  refine xs_Ct_of (L := [some (.ref (ad 21)), some (.int (if b then 1 else 0))]) rfl (Nat.le_of_ble_eq_true rfl) rfl ?_
  refine jq_aload_n dX6_may_0 rfl rfl ?_
  refine jq_iload_n dX6_may_1 rfl rfl ?_
  refine jq_if_eq (tgt := 9) dX6_may_2 (by decide) (fun c2 => ?_) (fun c2 => ?_)
  · have hb : b = false := by cases b <;> simp_all
    subst hb
    refine jq_iconst (v := 1) dX6_may_9 (by decide) ?_
    refine xq_putI pX6_67 dX6_may_10 (xs_lt (by decide) hn) (by decide) rfl rfl ?_
    refine jq_iload_n dX6_may_13 rfl rfl ?_
    exact xq_ireturn dX6_may_14 rfl rfl (⟨rfl, rfl⟩)
  · have hb : b = true := by cases b <;> simp_all
    subst hb
    refine jq_iconst (v := 0) dX6_may_5 (by decide) ?_
    refine jq_goto (tgt := 10) dX6_may_6 (by decide) ?_
    refine xq_putI pX6_67 dX6_may_10 (xs_lt (by decide) hn) (by decide) rfl rfl ?_
    refine jq_iload_n dX6_may_13 rfl rfl ?_
    exact xq_ireturn dX6_may_14 rfl rfl (⟨rfl, rfl⟩)
set_option maxHeartbeats 4000000 in
theorem c_X6_isCell {l : Launch} {G : jq_G} {n : Nat} {ad : Nat → Nat} {X : xs_T} (hn : 39 ≤ n) {w h : Nat} (hT : rf_T w h X) (x : Int32) : xs_Ct l G mX6_isCell 1 [.ref (ad 21), .int (x)] n ad X (xs_pd (some (.int (if 0 ≤ x ∧ x < nI (tb_nc w h) then 1 else 0))) X) := by
  refine xs_Ct_of (L := [some (.ref (ad 21)), some (.int (x))]) rfl (Nat.le_of_ble_eq_true rfl) rfl ?_
  refine jq_iload_n dX6_isCell_0 rfl rfl ?_
  refine jq_if_lt (tgt := 16) dX6_isCell_1 (by decide) (fun c1 => ?_) (fun c1 => ?_)
  · refine jq_iconst (v := 0) dX6_isCell_16 (by decide) ?_
    exact xq_ireturn dX6_isCell_17 rfl rfl (⟨by first | rw [if_neg (fun q => absurd c1 (Int32.not_lt.mpr q.1))] | rw [if_neg (fun q => absurd q.2 (Int32.not_lt.mpr c9))] | rw [if_pos ⟨Int32.not_lt.mp c1, Int32.not_le.mp c9⟩], rfl⟩)
  · refine jq_iload_n dX6_isCell_4 rfl rfl ?_
    refine jq_aload_n dX6_isCell_5 rfl rfl ?_
    refine xq_getI fX6_71 dX6_isCell_6 (xs_lt (by decide) hn) (by decide) hT.2.2.2.1 ?_
    refine jq_icmp_ge (tgt := 16) dX6_isCell_9 (by decide) (fun c9 => ?_) (fun c9 => ?_)
    · refine jq_iconst (v := 0) dX6_isCell_16 (by decide) ?_
      exact xq_ireturn dX6_isCell_17 rfl rfl (⟨by first | rw [if_neg (fun q => absurd c1 (Int32.not_lt.mpr q.1))] | rw [if_neg (fun q => absurd q.2 (Int32.not_lt.mpr c9))] | rw [if_pos ⟨Int32.not_lt.mp c1, Int32.not_le.mp c9⟩], rfl⟩)
    · refine jq_iconst (v := 1) dX6_isCell_12 (by decide) ?_
      refine jq_goto (tgt := 17) dX6_isCell_13 (by decide) ?_
      exact xq_ireturn dX6_isCell_17 rfl rfl (⟨by first | rw [if_neg (fun q => absurd c1 (Int32.not_lt.mpr q.1))] | rw [if_neg (fun q => absurd q.2 (Int32.not_lt.mpr c9))] | rw [if_pos ⟨Int32.not_lt.mp c1, Int32.not_le.mp c9⟩], rfl⟩)
set_option maxHeartbeats 4000000 in
theorem c_X6_at {l : Launch} {G : jq_G} {n : Nat} {ad : Nat → Nat} {X : xs_T} (hn : 39 ≤ n) {w h : Nat} {st : Nat → Nat} (hT : rf_T w h X) (hS : rf_S w h st X) {p how : Nat} (hp : p < 2 ^ 31) (hh : how < 2 ^ 31) : xs_Ct l G mX6_at 1 [.ref (ad 21), .int (nI (p)), .int (nI (how))] n ad X (xs_pd (some (.int (nI (tb_at w h st p how)))) X) := by
  have hz := tb_sizes hT.1
  have loop : ∀ k e cnt : Nat, e + k = tb_ne w h → cnt = fb_ct (tb_atB w h st p how) e → jq_J l G mX6_at (jq_R 1 0 0) jq_E0 (xs_Ye G n ad (xs_pd (some (.int (nI (tb_at w h st p how)))) X)) 5 [some (.ref (ad 21)), some (.int (nI (p))), some (.int (nI (how))), some (.int (nI (cnt))), some (.int (nI (e)))] [] n ad (xs_mem G ad X) 0 0 := by
    intro k
    induction k with
    | zero =>
      intro e cnt hk hc
      refine jq_iload dX6_at_5 rfl ?_
      refine jq_aload_n dX6_at_7 rfl rfl ?_
      refine xq_getI fX6_74 dX6_at_8 (xs_lt (by decide) hn) (by decide) hT.2.2.2.2.1 ?_
      refine jq_geN (tgt := 61) dX6_at_11 (by decide) ⟨by omega, by omega⟩ (fun c11 => ?_) (fun c11 => ?_)
      · refine jq_iload_n dX6_at_61 rfl rfl ?_
        exact xq_ireturn dX6_at_62 rfl rfl (⟨by rw [hc, show e = tb_ne w h by omega]; rfl, rfl⟩)
      · exact absurd c11 (by omega)
    | succ k ih =>
      intro e cnt hk hc
      have he : e < tb_ne w h := by omega
      have h1 := hT.2.2.2.2.2.2.1 e he
      have h2 := hT.2.2.2.2.2.2.2.1 e he
      have h3 := hS e he
      have hi : vp_in (nI e) 40 := vp_inN (by omega) (by decide)
      have hb := tb_ends hT.1 e he
      refine jq_iload dX6_at_5 rfl ?_
      refine jq_aload_n dX6_at_7 rfl rfl ?_
      refine xq_getI fX6_74 dX6_at_8 (xs_lt (by decide) hn) (by decide) hT.2.2.2.2.1 ?_
      refine jq_geN (tgt := 61) dX6_at_11 (by decide) ⟨by omega, by omega⟩ (fun c11 => ?_) (fun c11 => ?_)
      · exact absurd c11 (by omega)
      · refine jq_iload_n dX6_at_14 rfl rfl ?_
        refine jq_aload_n dX6_at_15 rfl rfl ?_
        refine xq_getR 22 fX6_7 dX6_at_16 (xs_lt (by decide) hn) (by decide) ?_
        refine jq_iload dX6_at_19 rfl ?_
        refine xq_iaload dX6_at_21 (xs_lt (by decide) hn) rfl hi (xs_rd h1 (by omega)) ?_
        refine jq_iload_n dX6_at_22 rfl rfl ?_
        refine jq_eqN (tgt := 37) dX6_at_23 (by decide) ⟨by omega, by omega⟩ (fun c23 => ?_) (fun c23 => ?_)
        · refine jq_aload_n dX6_at_37 rfl rfl ?_
          refine xq_getR 29 fX6_31 dX6_at_38 (xs_lt (by decide) hn) (by decide) ?_
          refine jq_iload dX6_at_41 rfl ?_
          refine xq_iaload dX6_at_43 (xs_lt (by decide) hn) rfl hi (xs_rd h3.1 (by omega)) ?_
          refine jq_iload_n dX6_at_44 rfl rfl ?_
          refine jq_neN (tgt := 52) dX6_at_45 (by decide) ⟨by omega, by omega⟩ (fun c45 => ?_) (fun c45 => ?_)
          · refine jq_iconst (v := (nI 0)) dX6_at_52 (by decide) ?_
            refine jq_iaddN dX6_at_53 ?_
            refine jq_istore_n dX6_at_54 rfl (by decide) rfl rfl ?_
            refine jq_iincN dX6_at_55 (by decide) rfl rfl rfl ?_
            refine jq_goto (tgt := 5) dX6_at_58 (by decide) ?_
            exact ih (e + 1) _ (by omega) (by rw [fb_ct_succ, ← hc]; simp [tb_atB, *])
          · refine jq_iconst (v := (nI 1)) dX6_at_48 (by decide) ?_
            refine jq_goto (tgt := 53) dX6_at_49 (by decide) ?_
            refine jq_iaddN dX6_at_53 ?_
            refine jq_istore_n dX6_at_54 rfl (by decide) rfl rfl ?_
            refine jq_iincN dX6_at_55 (by decide) rfl rfl rfl ?_
            refine jq_goto (tgt := 5) dX6_at_58 (by decide) ?_
            exact ih (e + 1) _ (by omega) (by rw [fb_ct_succ, ← hc]; simp [tb_atB, *])
        · refine jq_aload_n dX6_at_26 rfl rfl ?_
          refine xq_getR 23 fX6_13 dX6_at_27 (xs_lt (by decide) hn) (by decide) ?_
          refine jq_iload dX6_at_30 rfl ?_
          refine xq_iaload dX6_at_32 (xs_lt (by decide) hn) rfl hi (xs_rd h2 (by omega)) ?_
          refine jq_iload_n dX6_at_33 rfl rfl ?_
          refine jq_neN (tgt := 52) dX6_at_34 (by decide) ⟨by omega, by omega⟩ (fun c34 => ?_) (fun c34 => ?_)
          · refine jq_iconst (v := (nI 0)) dX6_at_52 (by decide) ?_
            refine jq_iaddN dX6_at_53 ?_
            refine jq_istore_n dX6_at_54 rfl (by decide) rfl rfl ?_
            refine jq_iincN dX6_at_55 (by decide) rfl rfl rfl ?_
            refine jq_goto (tgt := 5) dX6_at_58 (by decide) ?_
            exact ih (e + 1) _ (by omega) (by rw [fb_ct_succ, ← hc]; simp [tb_atB, *])
          · refine jq_aload_n dX6_at_37 rfl rfl ?_
            refine xq_getR 29 fX6_31 dX6_at_38 (xs_lt (by decide) hn) (by decide) ?_
            refine jq_iload dX6_at_41 rfl ?_
            refine xq_iaload dX6_at_43 (xs_lt (by decide) hn) rfl hi (xs_rd h3.1 (by omega)) ?_
            refine jq_iload_n dX6_at_44 rfl rfl ?_
            refine jq_neN (tgt := 52) dX6_at_45 (by decide) ⟨by omega, by omega⟩ (fun c45 => ?_) (fun c45 => ?_)
            · refine jq_iconst (v := (nI 0)) dX6_at_52 (by decide) ?_
              refine jq_iaddN dX6_at_53 ?_
              refine jq_istore_n dX6_at_54 rfl (by decide) rfl rfl ?_
              refine jq_iincN dX6_at_55 (by decide) rfl rfl rfl ?_
              refine jq_goto (tgt := 5) dX6_at_58 (by decide) ?_
              exact ih (e + 1) _ (by omega) (by rw [fb_ct_succ, ← hc]; simp [tb_atB, *])
            · refine jq_iconst (v := (nI 1)) dX6_at_48 (by decide) ?_
              refine jq_goto (tgt := 53) dX6_at_49 (by decide) ?_
              refine jq_iaddN dX6_at_53 ?_
              refine jq_istore_n dX6_at_54 rfl (by decide) rfl rfl ?_
              refine jq_iincN dX6_at_55 (by decide) rfl rfl rfl ?_
              refine jq_goto (tgt := 5) dX6_at_58 (by decide) ?_
              exact ih (e + 1) _ (by omega) (by rw [fb_ct_succ, ← hc]; simp [tb_atB, *])
  refine xs_Ct_of (L := [some (.ref (ad 21)), some (.int (nI (p))), some (.int (nI (how))), none, none]) rfl (Nat.le_of_ble_eq_true rfl) rfl ?_
  refine jq_iconst (v := (nI 0)) dX6_at_0 (by decide) ?_
  refine jq_istore_n dX6_at_1 rfl (by decide) rfl rfl ?_
  refine jq_iconst (v := (nI 0)) dX6_at_2 (by decide) ?_
  refine jq_istore dX6_at_3 (by decide) rfl rfl ?_
  exact loop (tb_ne w h) 0 0 (by omega) rfl
