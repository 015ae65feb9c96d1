/-! the law's chains of decided edges -/
def lr_ln (st : Nat → Nat) (e : Nat) : Nat := if st e = 1 then 1 else 0
def lr_ck (w h : Nat) (st : Nat → Nat) (e : Nat) : Nat → Nat → Nat
  | 0, S => S
  | k + 1, S => if (lr_ck w h st e k S).testBit (2 * (if k < 2 then tb_are w h e else tb_bes w h e) + k % 2) = true then lr_ck w h st e k S ||| 2 ^ (2 * (if k < 2 then tb_bes w h e else tb_are w h e) + (k % 2 + lr_ln st e) % 2) else lr_ck w h st e k S
def lr_ce (w h : Nat) (st : Nat → Nat) : Nat → Nat → Nat
  | 0, S => S
  | e + 1, S => if st e = 0 then lr_ce w h st e S else lr_ck w h st e 4 (lr_ce w h st e S)
def lr_ci (w h : Nat) (st : Nat → Nat) : Nat → Nat → Nat
  | 0, S => S
  | m + 1, S => lr_ce w h st (tb_ne w h) (lr_ci w h st m S)
def lr_ch (w h : Nat) (st : Nat → Nat) (a : Nat) : Nat := lr_ci w h st 20 (2 ^ (2 * a))
theorem lr_ln_le (st : Nat → Nat) (e : Nat) : lr_ln st e ≤ 1 := by unfold lr_ln; split <;> omega
theorem lr_ck_lt {w h : Nat} (k : lr_k w h) {st : Nat → Nat} {e : Nat} (he : e < tb_ne w h) {S : Nat} (hS : S < 2 ^ 20) : ∀ j, lr_ck w h st e j S < 2 ^ 20
  | 0 => hS
  | j + 1 => by
    have ih := lr_ck_lt k (st := st) he hS j
    have hq := lr_ends k he
    have hz := lr_sz k
    have hb : (2 * (if j < 2 then tb_bes w h e else tb_are w h e) + (j % 2 + lr_ln st e) % 2) < 20 := by split <;> omega
    rw [lr_ck]
    by_cases c : (lr_ck w h st e j S).testBit (2 * (if j < 2 then tb_are w h e else tb_bes w h e) + j % 2) = true
    · rw [if_pos c]; exact lr_or_lt ih (lr_pw hb)
    · rw [if_neg c]; exact ih
theorem lr_ce_lt {w h : Nat} (k : lr_k w h) {st : Nat → Nat} {S : Nat} (hS : S < 2 ^ 20) : ∀ e, e ≤ tb_ne w h → lr_ce w h st e S < 2 ^ 20
  | 0, _ => hS
  | e + 1, he => by
    have ih := lr_ce_lt k (st := st) hS e (by omega)
    rw [lr_ce]
    split
    · exact ih
    · exact lr_ck_lt k (by omega) ih 4
theorem lr_ci_lt {w h : Nat} (k : lr_k w h) {st : Nat → Nat} {S : Nat} (hS : S < 2 ^ 20) : ∀ m, lr_ci w h st m S < 2 ^ 20
  | 0 => hS
  | m + 1 => lr_ce_lt k (lr_ci_lt k hS m) _ (Nat.le_refl _)
theorem lr_ch_lt {w h : Nat} (k : lr_k w h) {st : Nat → Nat} {a : Nat} (ha : a ≤ tb_nc w h) : lr_ch w h st a < 2 ^ 20 := lr_ci_lt k (lr_pw (by have := lr_sz k; omega)) 20
theorem lr_ckN {w h : Nat} {st : Nat → Nat} {e k S S0 one odd : Nat} (hS : S = lr_ck w h st e k S0) (h1 : one = if k < 2 then tb_are w h e else tb_bes w h e) (h3 : S.testBit (2 * one + k % 2) = false) : S ||| 0 = lr_ck w h st e (k + 1) S0 := by
  rw [lr_ck, ← hS, ← h1, if_neg (by rw [h3]; simp), Nat.or_zero]
theorem lr_ckY {w h : Nat} {st : Nat → Nat} {e k S S0 one oth ln : Nat} (hS : S = lr_ck w h st e k S0) (h1 : one = if k < 2 then tb_are w h e else tb_bes w h e) (h2 : oth = if k < 2 then tb_bes w h e else tb_are w h e) (hl : ln = lr_ln st e) (h3 : S.testBit (2 * one + k % 2) = true) : S ||| 2 ^ (2 * oth + (k % 2 + ln) % 2) = lr_ck w h st e (k + 1) S0 := by
  rw [lr_ck, ← hS, ← h1, if_pos h3, ← h2, hl]
theorem lr_i0 {b : Bool} (h : (if b = true then 1 else 0) ≠ 1) : b = false := by cases b; rfl; simp at h
theorem lr_i1 {b : Bool} (h : (if b = true then 1 else 0) = 1) : b = true := by cases b; simp at h; rfl
theorem lr_ile {b : Bool} : (if b = true then 1 else 0) < 2 ^ 31 := by cases b <;> decide
set_option maxHeartbeats 4000000 in
theorem c_L_chained {l : Launch} {G : jq_G} {n : Nat} {ad : Nat → Nat} {X : xs_T} {w h q : Nat} {st : Nat → Nat} (hB : lr_B n w h X) (hS : lr_S n w h q st X) {a : Nat} (ha : a ≤ tb_nc w h) : xs_Ct l G mL_chained 4 [.ref (ad 21), .ref (ad q), .int (nI (a))] n ad X (xs_pd (some (.int (nI (lr_ch w h st a)))) X) := by
  have hz := lr_sz hB.2.2.2
  have loop3 : ∀ (k2 k S S0 m e ln : Nat) (o8 o9 o10 : Option Value), m < 20 → e < tb_ne w h → ln = lr_ln st e → k + k2 = 4 → S0 < 2 ^ 20 → (k = 0 ∨ st e ≠ 0) → S = lr_ck w h st e k S0 → (∀ o6 o7 o8 o9 o10, jq_J l G mL_chained (jq_R 4 0 0) jq_E0 (xs_Ye G n ad (xs_pd (some (.int (nI (lr_ch w h st a)))) X)) 153 [some (.ref (ad 21)), some (.ref (ad q)), some (.int (nI (a))), some (.int (nI (if st e = 0 then S0 else lr_ck w h st e 4 S0))), some (.int (nI (m))), some (.int (nI (e))), o6, o7, o8, o9, o10] [] n ad (xs_mem G ad X) 0 0) → jq_J l G mL_chained (jq_R 4 0 0) jq_E0 (xs_Ye G n ad (xs_pd (some (.int (nI (lr_ch w h st a)))) X)) 46 [some (.ref (ad 21)), some (.ref (ad q)), some (.int (nI (a))), some (.int (nI (S))), some (.int (nI (m))), some (.int (nI (e))), some (.int (nI (ln))), some (.int (nI (k))), o8, o9, o10] [] n ad (xs_mem G ad X) 0 0 := by
    intro k2
    induction k2 with
    | zero =>
      intro k S S0 m e ln o8 o9 o10 hm he hln hk hS0 h0 hSe kk
      have hres : S = if st e = 0 then S0 else lr_ck w h st e 4 S0 := by
        rw [if_neg (h0.resolve_left (by omega)), hSe, show k = 4 by omega]
      rw [hres]
      refine jq_iload dL_chained_46 rfl ?_
      refine jq_iconst (v := (nI 4)) dL_chained_48 (by decide) ?_
      refine jq_geN (tgt := 153) dL_chained_49 (by decide) ⟨by omega, by omega⟩ (fun c49 => ?_) (fun c49 => ?_)
      · exact kk _ _ _ _ _
      · exact absurd c49 (by omega)
    | succ k2 ih =>
      intro k S S0 m e ln o8 o9 o10 hm he hln hk hS0 h0 hSe kk
      have hq := lr_ends hB.2.2.2 he
      have h3 := hS.2 _ he
      have hi : vp_in (nI e) 24 := vp_inN (by omega) (by decide)
      have hSl : S < 2 ^ 20 := by rw [hSe]; exact lr_ck_lt hB.2.2.2 he hS0 k
      have hl1 := lr_ln_le st e
      refine jq_iload dL_chained_46 rfl ?_
      refine jq_iconst (v := (nI 4)) dL_chained_48 (by decide) ?_
      refine jq_geN (tgt := 153) dL_chained_49 (by decide) ⟨by omega, by omega⟩ (fun c49 => ?_) (fun c49 => ?_)
      · exact absurd c49 (by omega)
      · refine jq_aload_n dL_chained_52 rfl rfl ?_
        refine jq_iload dL_chained_53 rfl ?_
        refine xq_iald dL_chained_55 hS.1 hi h3.1 ?_
        refine jq_eqZ (tgt := 153) dL_chained_56 (by decide) (by omega) (fun c56 => ?_) (fun c56 => ?_)
        · have hres : S = if st e = 0 then S0 else lr_ck w h st e 4 S0 := by rw [if_pos c56, hSe, show k = 0 from h0.resolve_right (fun q => q c56)]; rfl
          rw [hres]
          exact kk _ _ _ _ _
        · refine jq_iload dL_chained_59 rfl ?_
          refine jq_iconst (v := (nI 2)) dL_chained_61 (by decide) ?_
          refine jq_geN (tgt := 74) dL_chained_62 (by decide) ⟨by omega, by omega⟩ (fun c62 => ?_) (fun c62 => ?_)
          · have h1 : tb_bes w h e = if k < 2 then tb_are w h e else tb_bes w h e := (if_neg (by omega)).symm
            refine jq_aload_n dL_chained_74 rfl rfl ?_
            refine jq_iload dL_chained_75 rfl ?_
            refine xq_sI dL_chained_77 kL_42 (c_L_behind hB he) rfl rfl (Nat.le_of_ble_eq_true rfl) ⟨⟨by decide, by decide⟩, Nat.le_refl _, Nat.le_refl _⟩ ?_
            refine jq_istore dL_chained_80 (by decide) rfl rfl ?_
            refine jq_iload dL_chained_82 rfl ?_
            refine jq_iconst (v := (nI 2)) dL_chained_84 (by decide) ?_
            refine jq_geN (tgt := 97) dL_chained_85 (by decide) ⟨by omega, by omega⟩ (fun c85 => ?_) (fun c85 => ?_)
            · have h2 : tb_are w h e = if k < 2 then tb_bes w h e else tb_are w h e := (if_neg (by omega)).symm
              refine jq_aload_n dL_chained_97 rfl rfl ?_
              refine jq_iload dL_chained_98 rfl ?_
              refine xq_sI dL_chained_100 kL_39 (c_L_ahead hB he) rfl rfl (Nat.le_of_ble_eq_true rfl) ⟨⟨by decide, by decide⟩, Nat.le_refl _, Nat.le_refl _⟩ ?_
              refine jq_istore dL_chained_103 (by decide) rfl rfl ?_
              refine jq_iload dL_chained_105 rfl ?_
              refine jq_iconst (v := (nI 2)) dL_chained_107 (by decide) ?_
              refine jq_iremN dL_chained_108 (⟨by omega, by omega, by omega⟩) ?_
              refine jq_istore dL_chained_109 (by decide) rfl rfl ?_
              refine jq_iload_n dL_chained_111 rfl rfl ?_
              refine jq_iload_n dL_chained_112 rfl rfl ?_
              refine jq_iconst (v := (nI 2)) dL_chained_113 (by decide) ?_
              refine jq_iload dL_chained_114 rfl ?_
              refine jq_imulN dL_chained_116 ?_
              refine jq_iload dL_chained_117 rfl ?_
              refine jq_iaddN dL_chained_119 ?_
              refine jq_ishr dL_chained_120 (lr_shr (by omega) (by omega)) ?_
              refine jq_iconst (v := (nI 1)) dL_chained_121 (by decide) ?_
              refine jq_iand dL_chained_122 ?_
              rw [lr_tb1]
              refine jq_iconst (v := (nI 1)) dL_chained_123 (by decide) ?_
              refine jq_neN (tgt := 144) dL_chained_124 (by decide) ⟨lr_ile, by omega⟩ (fun c124 => ?_) (fun c124 => ?_)
              · have hX := lr_ckN (odd := 0) hSe h1 (lr_i0 c124)
                refine jq_iconst (v := (nI 0)) dL_chained_144 (by decide) ?_
                refine jq_ior dL_chained_145 ?_
                rw [fa_or]
                refine jq_istore_n dL_chained_146 rfl (by decide) rfl rfl ?_
                refine jq_iincN dL_chained_147 (by decide) rfl rfl rfl ?_
                refine jq_goto (tgt := 46) dL_chained_150 (by decide) ?_
                exact ih (k + 1) _ S0 m e ln _ _ _ hm he hln (by omega) hS0 (Or.inr c56) hX kk
              · have hX := lr_ckY hSe h1 h2 hln (lr_i1 c124)
                refine jq_iconst (v := (nI 1)) dL_chained_127 (by decide) ?_
                refine jq_iconst (v := (nI 2)) dL_chained_128 (by decide) ?_
                refine jq_iload dL_chained_129 rfl ?_
                refine jq_imulN dL_chained_131 ?_
                refine jq_iload dL_chained_132 rfl ?_
                refine jq_iload dL_chained_134 rfl ?_
                refine jq_iaddN dL_chained_136 ?_
                refine jq_iconst (v := (nI 2)) dL_chained_137 (by decide) ?_
                refine jq_iremN dL_chained_138 (⟨by omega, by omega, by omega⟩) ?_
                refine jq_iaddN dL_chained_139 ?_
                refine jq_ishl dL_chained_140 (lr_shl1 (by omega)) ?_
                refine jq_goto (tgt := 145) dL_chained_141 (by decide) ?_
                refine jq_ior dL_chained_145 ?_
                rw [fa_or]
                refine jq_istore_n dL_chained_146 rfl (by decide) rfl rfl ?_
                refine jq_iincN dL_chained_147 (by decide) rfl rfl rfl ?_
                refine jq_goto (tgt := 46) dL_chained_150 (by decide) ?_
                exact ih (k + 1) _ S0 m e ln _ _ _ hm he hln (by omega) hS0 (Or.inr c56) hX kk
            · have h2 : tb_bes w h e = if k < 2 then tb_bes w h e else tb_are w h e := (if_pos (by omega)).symm
              refine jq_aload_n dL_chained_88 rfl rfl ?_
              refine jq_iload dL_chained_89 rfl ?_
              refine xq_sI dL_chained_91 kL_42 (c_L_behind hB he) rfl rfl (Nat.le_of_ble_eq_true rfl) ⟨⟨by decide, by decide⟩, Nat.le_refl _, Nat.le_refl _⟩ ?_
              refine jq_goto (tgt := 103) dL_chained_94 (by decide) ?_
              refine jq_istore dL_chained_103 (by decide) rfl rfl ?_
              refine jq_iload dL_chained_105 rfl ?_
              refine jq_iconst (v := (nI 2)) dL_chained_107 (by decide) ?_
              refine jq_iremN dL_chained_108 (⟨by omega, by omega, by omega⟩) ?_
              refine jq_istore dL_chained_109 (by decide) rfl rfl ?_
              refine jq_iload_n dL_chained_111 rfl rfl ?_
              refine jq_iload_n dL_chained_112 rfl rfl ?_
              refine jq_iconst (v := (nI 2)) dL_chained_113 (by decide) ?_
              refine jq_iload dL_chained_114 rfl ?_
              refine jq_imulN dL_chained_116 ?_
              refine jq_iload dL_chained_117 rfl ?_
              refine jq_iaddN dL_chained_119 ?_
              refine jq_ishr dL_chained_120 (lr_shr (by omega) (by omega)) ?_
              refine jq_iconst (v := (nI 1)) dL_chained_121 (by decide) ?_
              refine jq_iand dL_chained_122 ?_
              rw [lr_tb1]
              refine jq_iconst (v := (nI 1)) dL_chained_123 (by decide) ?_
              refine jq_neN (tgt := 144) dL_chained_124 (by decide) ⟨lr_ile, by omega⟩ (fun c124 => ?_) (fun c124 => ?_)
              · have hX := lr_ckN (odd := 0) hSe h1 (lr_i0 c124)
                refine jq_iconst (v := (nI 0)) dL_chained_144 (by decide) ?_
                refine jq_ior dL_chained_145 ?_
                rw [fa_or]
                refine jq_istore_n dL_chained_146 rfl (by decide) rfl rfl ?_
                refine jq_iincN dL_chained_147 (by decide) rfl rfl rfl ?_
                refine jq_goto (tgt := 46) dL_chained_150 (by decide) ?_
                exact ih (k + 1) _ S0 m e ln _ _ _ hm he hln (by omega) hS0 (Or.inr c56) hX kk
              · have hX := lr_ckY hSe h1 h2 hln (lr_i1 c124)
                refine jq_iconst (v := (nI 1)) dL_chained_127 (by decide) ?_
                refine jq_iconst (v := (nI 2)) dL_chained_128 (by decide) ?_
                refine jq_iload dL_chained_129 rfl ?_
                refine jq_imulN dL_chained_131 ?_
                refine jq_iload dL_chained_132 rfl ?_
                refine jq_iload dL_chained_134 rfl ?_
                refine jq_iaddN dL_chained_136 ?_
                refine jq_iconst (v := (nI 2)) dL_chained_137 (by decide) ?_
                refine jq_iremN dL_chained_138 (⟨by omega, by omega, by omega⟩) ?_
                refine jq_iaddN dL_chained_139 ?_
                refine jq_ishl dL_chained_140 (lr_shl1 (by omega)) ?_
                refine jq_goto (tgt := 145) dL_chained_141 (by decide) ?_
                refine jq_ior dL_chained_145 ?_
                rw [fa_or]
                refine jq_istore_n dL_chained_146 rfl (by decide) rfl rfl ?_
                refine jq_iincN dL_chained_147 (by decide) rfl rfl rfl ?_
                refine jq_goto (tgt := 46) dL_chained_150 (by decide) ?_
                exact ih (k + 1) _ S0 m e ln _ _ _ hm he hln (by omega) hS0 (Or.inr c56) hX kk
          · have h1 : tb_are w h e = if k < 2 then tb_are w h e else tb_bes w h e := (if_pos (by omega)).symm
            refine jq_aload_n dL_chained_65 rfl rfl ?_
            refine jq_iload dL_chained_66 rfl ?_
            refine xq_sI dL_chained_68 kL_39 (c_L_ahead hB he) rfl rfl (Nat.le_of_ble_eq_true rfl) ⟨⟨by decide, by decide⟩, Nat.le_refl _, Nat.le_refl _⟩ ?_
            refine jq_goto (tgt := 80) dL_chained_71 (by decide) ?_
            refine jq_istore dL_chained_80 (by decide) rfl rfl ?_
            refine jq_iload dL_chained_82 rfl ?_
            refine jq_iconst (v := (nI 2)) dL_chained_84 (by decide) ?_
            refine jq_geN (tgt := 97) dL_chained_85 (by decide) ⟨by omega, by omega⟩ (fun c85 => ?_) (fun c85 => ?_)
            · have h2 : tb_are w h e = if k < 2 then tb_bes w h e else tb_are w h e := (if_neg (by omega)).symm
              refine jq_aload_n dL_chained_97 rfl rfl ?_
              refine jq_iload dL_chained_98 rfl ?_
              refine xq_sI dL_chained_100 kL_39 (c_L_ahead hB he) rfl rfl (Nat.le_of_ble_eq_true rfl) ⟨⟨by decide, by decide⟩, Nat.le_refl _, Nat.le_refl _⟩ ?_
              refine jq_istore dL_chained_103 (by decide) rfl rfl ?_
              refine jq_iload dL_chained_105 rfl ?_
              refine jq_iconst (v := (nI 2)) dL_chained_107 (by decide) ?_
              refine jq_iremN dL_chained_108 (⟨by omega, by omega, by omega⟩) ?_
              refine jq_istore dL_chained_109 (by decide) rfl rfl ?_
              refine jq_iload_n dL_chained_111 rfl rfl ?_
              refine jq_iload_n dL_chained_112 rfl rfl ?_
              refine jq_iconst (v := (nI 2)) dL_chained_113 (by decide) ?_
              refine jq_iload dL_chained_114 rfl ?_
              refine jq_imulN dL_chained_116 ?_
              refine jq_iload dL_chained_117 rfl ?_
              refine jq_iaddN dL_chained_119 ?_
              refine jq_ishr dL_chained_120 (lr_shr (by omega) (by omega)) ?_
              refine jq_iconst (v := (nI 1)) dL_chained_121 (by decide) ?_
              refine jq_iand dL_chained_122 ?_
              rw [lr_tb1]
              refine jq_iconst (v := (nI 1)) dL_chained_123 (by decide) ?_
              refine jq_neN (tgt := 144) dL_chained_124 (by decide) ⟨lr_ile, by omega⟩ (fun c124 => ?_) (fun c124 => ?_)
              · have hX := lr_ckN (odd := 0) hSe h1 (lr_i0 c124)
                refine jq_iconst (v := (nI 0)) dL_chained_144 (by decide) ?_
                refine jq_ior dL_chained_145 ?_
                rw [fa_or]
                refine jq_istore_n dL_chained_146 rfl (by decide) rfl rfl ?_
                refine jq_iincN dL_chained_147 (by decide) rfl rfl rfl ?_
                refine jq_goto (tgt := 46) dL_chained_150 (by decide) ?_
                exact ih (k + 1) _ S0 m e ln _ _ _ hm he hln (by omega) hS0 (Or.inr c56) hX kk
              · have hX := lr_ckY hSe h1 h2 hln (lr_i1 c124)
                refine jq_iconst (v := (nI 1)) dL_chained_127 (by decide) ?_
                refine jq_iconst (v := (nI 2)) dL_chained_128 (by decide) ?_
                refine jq_iload dL_chained_129 rfl ?_
                refine jq_imulN dL_chained_131 ?_
                refine jq_iload dL_chained_132 rfl ?_
                refine jq_iload dL_chained_134 rfl ?_
                refine jq_iaddN dL_chained_136 ?_
                refine jq_iconst (v := (nI 2)) dL_chained_137 (by decide) ?_
                refine jq_iremN dL_chained_138 (⟨by omega, by omega, by omega⟩) ?_
                refine jq_iaddN dL_chained_139 ?_
                refine jq_ishl dL_chained_140 (lr_shl1 (by omega)) ?_
                refine jq_goto (tgt := 145) dL_chained_141 (by decide) ?_
                refine jq_ior dL_chained_145 ?_
                rw [fa_or]
                refine jq_istore_n dL_chained_146 rfl (by decide) rfl rfl ?_
                refine jq_iincN dL_chained_147 (by decide) rfl rfl rfl ?_
                refine jq_goto (tgt := 46) dL_chained_150 (by decide) ?_
                exact ih (k + 1) _ S0 m e ln _ _ _ hm he hln (by omega) hS0 (Or.inr c56) hX kk
            · have h2 : tb_bes w h e = if k < 2 then tb_bes w h e else tb_are w h e := (if_pos (by omega)).symm
              refine jq_aload_n dL_chained_88 rfl rfl ?_
              refine jq_iload dL_chained_89 rfl ?_
              refine xq_sI dL_chained_91 kL_42 (c_L_behind hB he) rfl rfl (Nat.le_of_ble_eq_true rfl) ⟨⟨by decide, by decide⟩, Nat.le_refl _, Nat.le_refl _⟩ ?_
              refine jq_goto (tgt := 103) dL_chained_94 (by decide) ?_
              refine jq_istore dL_chained_103 (by decide) rfl rfl ?_
              refine jq_iload dL_chained_105 rfl ?_
              refine jq_iconst (v := (nI 2)) dL_chained_107 (by decide) ?_
              refine jq_iremN dL_chained_108 (⟨by omega, by omega, by omega⟩) ?_
              refine jq_istore dL_chained_109 (by decide) rfl rfl ?_
              refine jq_iload_n dL_chained_111 rfl rfl ?_
              refine jq_iload_n dL_chained_112 rfl rfl ?_
              refine jq_iconst (v := (nI 2)) dL_chained_113 (by decide) ?_
              refine jq_iload dL_chained_114 rfl ?_
              refine jq_imulN dL_chained_116 ?_
              refine jq_iload dL_chained_117 rfl ?_
              refine jq_iaddN dL_chained_119 ?_
              refine jq_ishr dL_chained_120 (lr_shr (by omega) (by omega)) ?_
              refine jq_iconst (v := (nI 1)) dL_chained_121 (by decide) ?_
              refine jq_iand dL_chained_122 ?_
              rw [lr_tb1]
              refine jq_iconst (v := (nI 1)) dL_chained_123 (by decide) ?_
              refine jq_neN (tgt := 144) dL_chained_124 (by decide) ⟨lr_ile, by omega⟩ (fun c124 => ?_) (fun c124 => ?_)
              · have hX := lr_ckN (odd := 0) hSe h1 (lr_i0 c124)
                refine jq_iconst (v := (nI 0)) dL_chained_144 (by decide) ?_
                refine jq_ior dL_chained_145 ?_
                rw [fa_or]
                refine jq_istore_n dL_chained_146 rfl (by decide) rfl rfl ?_
                refine jq_iincN dL_chained_147 (by decide) rfl rfl rfl ?_
                refine jq_goto (tgt := 46) dL_chained_150 (by decide) ?_
                exact ih (k + 1) _ S0 m e ln _ _ _ hm he hln (by omega) hS0 (Or.inr c56) hX kk
              · have hX := lr_ckY hSe h1 h2 hln (lr_i1 c124)
                refine jq_iconst (v := (nI 1)) dL_chained_127 (by decide) ?_
                refine jq_iconst (v := (nI 2)) dL_chained_128 (by decide) ?_
                refine jq_iload dL_chained_129 rfl ?_
                refine jq_imulN dL_chained_131 ?_
                refine jq_iload dL_chained_132 rfl ?_
                refine jq_iload dL_chained_134 rfl ?_
                refine jq_iaddN dL_chained_136 ?_
                refine jq_iconst (v := (nI 2)) dL_chained_137 (by decide) ?_
                refine jq_iremN dL_chained_138 (⟨by omega, by omega, by omega⟩) ?_
                refine jq_iaddN dL_chained_139 ?_
                refine jq_ishl dL_chained_140 (lr_shl1 (by omega)) ?_
                refine jq_goto (tgt := 145) dL_chained_141 (by decide) ?_
                refine jq_ior dL_chained_145 ?_
                rw [fa_or]
                refine jq_istore_n dL_chained_146 rfl (by decide) rfl rfl ?_
                refine jq_iincN dL_chained_147 (by decide) rfl rfl rfl ?_
                refine jq_goto (tgt := 46) dL_chained_150 (by decide) ?_
                exact ih (k + 1) _ S0 m e ln _ _ _ hm he hln (by omega) hS0 (Or.inr c56) hX kk
  have loop2 : ∀ (k2 e S S0 m : Nat) (o6 o7 o8 o9 o10 : Option Value), m < 20 → e + k2 = tb_ne w h → S0 < 2 ^ 20 → S = lr_ce w h st e S0 → (∀ o5 o6 o7 o8 o9 o10, jq_J l G mL_chained (jq_R 4 0 0) jq_E0 (xs_Ye G n ad (xs_pd (some (.int (nI (lr_ch w h st a)))) X)) 9 [some (.ref (ad 21)), some (.ref (ad q)), some (.int (nI (a))), some (.int (nI (lr_ce w h st (tb_ne w h) S0))), some (.int (nI (m + 1))), o5, o6, o7, o8, o9, o10] [] n ad (xs_mem G ad X) 0 0) → jq_J l G mL_chained (jq_R 4 0 0) jq_E0 (xs_Ye G n ad (xs_pd (some (.int (nI (lr_ch w h st a)))) X)) 19 [some (.ref (ad 21)), some (.ref (ad q)), some (.int (nI (a))), some (.int (nI (S))), some (.int (nI (m))), some (.int (nI (e))), o6, o7, o8, o9, o10] [] n ad (xs_mem G ad X) 0 0 := by
    intro k2
    induction k2 with
    | zero =>
      intro e S S0 m o6 o7 o8 o9 o10 hm hk hS0 hSe kk
      have e1 : e = tb_ne w h := by omega
      subst e1
      subst hSe
      refine jq_iload dL_chained_19 rfl ?_
      refine jq_aload_n dL_chained_21 rfl rfl ?_
      refine xq_sI dL_chained_22 kL_32 (c_L_edges hB) rfl rfl (Nat.le_of_ble_eq_true rfl) ⟨⟨by decide, by decide⟩, Nat.le_refl _, Nat.le_refl _⟩ ?_
      refine jq_geN (tgt := 159) dL_chained_25 (by decide) ⟨by omega, by omega⟩ (fun c25 => ?_) (fun c25 => ?_)
      · refine jq_iincN dL_chained_159 (by decide) rfl rfl rfl ?_
        refine jq_goto (tgt := 9) dL_chained_162 (by decide) ?_
        exact kk _ _ _ _ _ _
      · exact absurd c25 (by omega)
    | succ k2 ih =>
      intro e S S0 m o6 o7 o8 o9 o10 hm hk hS0 hSe kk
      have he : e < tb_ne w h := by omega
      have h3 := hS.2 _ he
      have hi : vp_in (nI e) 24 := vp_inN (by omega) (by decide)
      have hSl : S < 2 ^ 20 := by rw [hSe]; exact lr_ce_lt hB.2.2.2 hS0 e (by omega)
      have next : ∀ o6 o7 o8 o9 o10, jq_J l G mL_chained (jq_R 4 0 0) jq_E0 (xs_Ye G n ad (xs_pd (some (.int (nI (lr_ch w h st a)))) X)) 153 [some (.ref (ad 21)), some (.ref (ad q)), some (.int (nI (a))), some (.int (nI (if st e = 0 then S else lr_ck w h st e 4 S))), some (.int (nI (m))), some (.int (nI (e))), o6, o7, o8, o9, o10] [] n ad (xs_mem G ad X) 0 0 := by
        intro o6 o7 o8 o9 o10
        refine jq_iincN dL_chained_153 (by decide) rfl rfl rfl ?_
        refine jq_goto (tgt := 19) dL_chained_156 (by decide) ?_
        exact ih (e + 1) _ S0 m _ _ _ _ _ hm (by omega) hS0 (by rw [lr_ce, ← hSe]) kk
      refine jq_iload dL_chained_19 rfl ?_
      refine jq_aload_n dL_chained_21 rfl rfl ?_
      refine xq_sI dL_chained_22 kL_32 (c_L_edges hB) rfl rfl (Nat.le_of_ble_eq_true rfl) ⟨⟨by decide, by decide⟩, Nat.le_refl _, Nat.le_refl _⟩ ?_
      refine jq_geN (tgt := 159) dL_chained_25 (by decide) ⟨by omega, by omega⟩ (fun c25 => ?_) (fun c25 => ?_)
      · exact absurd c25 (by omega)
      · refine jq_aload_n dL_chained_28 rfl rfl ?_
        refine jq_iload dL_chained_29 rfl ?_
        refine xq_iald dL_chained_31 hS.1 hi h3.1 ?_
        refine jq_iconst (v := (nI 1)) dL_chained_32 (by decide) ?_
        refine jq_neN (tgt := 40) dL_chained_33 (by decide) ⟨by omega, by omega⟩ (fun c33 => ?_) (fun c33 => ?_)
        · have hln : 0 = lr_ln st e := (if_neg c33).symm
          refine jq_iconst (v := (nI 0)) dL_chained_40 (by decide) ?_
          refine jq_istore dL_chained_41 (by decide) rfl rfl ?_
          refine jq_iconst (v := (nI 0)) dL_chained_43 (by decide) ?_
          refine jq_istore dL_chained_44 (by decide) rfl rfl ?_
          exact loop3 4 0 S S m e _ _ _ _ hm he hln rfl hSl (Or.inl rfl) rfl next
        · have hln : 1 = lr_ln st e := (if_pos c33).symm
          refine jq_iconst (v := (nI 1)) dL_chained_36 (by decide) ?_
          refine jq_goto (tgt := 41) dL_chained_37 (by decide) ?_
          refine jq_istore dL_chained_41 (by decide) rfl rfl ?_
          refine jq_iconst (v := (nI 0)) dL_chained_43 (by decide) ?_
          refine jq_istore dL_chained_44 (by decide) rfl rfl ?_
          exact loop3 4 0 S S m e _ _ _ _ hm he hln rfl hSl (Or.inl rfl) rfl next
  have loop : ∀ (k m : Nat) (o5 o6 o7 o8 o9 o10 : Option Value), m + k = 20 → jq_J l G mL_chained (jq_R 4 0 0) jq_E0 (xs_Ye G n ad (xs_pd (some (.int (nI (lr_ch w h st a)))) X)) 9 [some (.ref (ad 21)), some (.ref (ad q)), some (.int (nI (a))), some (.int (nI (lr_ci w h st m (2 ^ (2 * a))))), some (.int (nI (m))), o5, o6, o7, o8, o9, o10] [] n ad (xs_mem G ad X) 0 0 := by
    intro k
    induction k with
    | zero =>
      intro m o5 o6 o7 o8 o9 o10 hk
      have e1 : m = 20 := by omega
      subst e1
      refine jq_iload dL_chained_9 rfl ?_
      refine jq_bipush (v := (nI 20)) dL_chained_11 (by decide) ?_
      refine jq_geN (tgt := 165) dL_chained_13 (by decide) ⟨by omega, by omega⟩ (fun c13 => ?_) (fun c13 => ?_)
      · refine jq_iload_n dL_chained_165 rfl rfl ?_
        exact xq_ireturn dL_chained_166 rfl rfl (⟨rfl, rfl⟩)
      · exact absurd c13 (by omega)
    | succ k ih =>
      intro m o5 o6 o7 o8 o9 o10 hk
      refine jq_iload dL_chained_9 rfl ?_
      refine jq_bipush (v := (nI 20)) dL_chained_11 (by decide) ?_
      refine jq_geN (tgt := 165) dL_chained_13 (by decide) ⟨by omega, by omega⟩ (fun c13 => ?_) (fun c13 => ?_)
      · exact absurd c13 (by omega)
      · refine jq_iconst (v := (nI 0)) dL_chained_16 (by decide) ?_
        refine jq_istore dL_chained_17 (by decide) rfl rfl ?_
        exact loop2 (tb_ne w h) 0 _ _ m _ _ _ _ _ (by omega) (by omega) (lr_ci_lt hB.2.2.2 (lr_pw (by omega)) m) rfl (fun o5 o6 o7 o8 o9 o10 => ih (m + 1) o5 o6 o7 o8 o9 o10 (by omega))
  refine xs_Ct_of (L := [some (.ref (ad 21)), some (.ref (ad q)), some (.int (nI (a))), none, none, none, none, none, none, none, none]) rfl (Nat.le_of_ble_eq_true rfl) rfl ?_
  refine jq_iconst (v := (nI 1)) dL_chained_0 (by decide) ?_
  refine jq_iconst (v := (nI 2)) dL_chained_1 (by decide) ?_
  refine jq_iload_n dL_chained_2 rfl rfl ?_
  refine jq_imulN dL_chained_3 ?_
  refine jq_ishl dL_chained_4 (lr_shl1 (by omega)) ?_
  refine jq_istore_n dL_chained_5 rfl (by decide) rfl rfl ?_
  refine jq_iconst (v := (nI 0)) dL_chained_6 (by decide) ?_
  refine jq_istore dL_chained_7 (by decide) rfl rfl ?_
  exact loop 20 0 _ _ _ _ _ _ (by omega)
