/-! the law's choices: what is laid, numbered, marked, wiped -/
theorem xx_sI {l : Launch} {G : jq_G} {M M' : jq_M} {R : Room} {Ex : jq_E} {Y : jq_Y} {pc d' idx na : Nat} {L : jq_L} {st As rest : List Value} {n : Nat} {ad : Nat → Nat} {X : xs_T} {cells slots : Nat} {hh : List (Nat × Nat × Nat × Nat)} {P : Int32 → xs_T → Prop} (hOk : jx_Ok Ex) (hd : decode M.2.1 pc = .ok (.invokestatic idx, 3)) (F1 : Cond.methodLink M.1.cls idx M'.1 ∈ jq_big ∧ Cond.static M'.1 ∈ jq_big ∧ Cond.initialized M'.1.cls ∈ jq_big ∧ jx_cw M' hh ∈ jq_big) (F2 : M'.1.cls ≠ "java/lang/invoke/MethodHandle" ∧ M'.1.cls ≠ "java/lang/invoke/VarHandle" ∧ (parseMethodDescriptor M'.1.desc).map (fun d => d.parameters.length) = some na) (hCt : xx_Cw l G M' hh d' As n ad X (xs_pi P)) (hn : As.length = na) (hst : st = As.reverse ++ rest) (hw : (rest.map fun v => v.category).sum ≤ 8) (hf : jq_fit R M' d' 1 6 cells slots)
    (k : ∀ v X', P v X' → jq_J l G M R Ex Y (pc + 3) L (.int v :: rest) n ad (xs_mem G ad X') (cells + 1) (slots + 6)) : jq_J l G M R Ex Y pc L st n ad (xs_mem G ad X) cells slots :=
  xx_invS hOk hd F1 F2 hCt hn hst hw hf (fun r X' h => by obtain ⟨v, rfl, h⟩ := h; exact k v X' h)
theorem xx_sL {l : Launch} {G : jq_G} {M M' : jq_M} {R : Room} {Ex : jq_E} {Y : jq_Y} {pc d' idx na : Nat} {L : jq_L} {st As rest : List Value} {n : Nat} {ad : Nat → Nat} {X : xs_T} {cells slots : Nat} {hh : List (Nat × Nat × Nat × Nat)} {P : Int64 → xs_T → Prop} (hOk : jx_Ok Ex) (hd : decode M.2.1 pc = .ok (.invokestatic idx, 3)) (F1 : Cond.methodLink M.1.cls idx M'.1 ∈ jq_big ∧ Cond.static M'.1 ∈ jq_big ∧ Cond.initialized M'.1.cls ∈ jq_big ∧ jx_cw M' hh ∈ jq_big) (F2 : M'.1.cls ≠ "java/lang/invoke/MethodHandle" ∧ M'.1.cls ≠ "java/lang/invoke/VarHandle" ∧ (parseMethodDescriptor M'.1.desc).map (fun d => d.parameters.length) = some na) (hCt : xx_Cw l G M' hh d' As n ad X (xs_pl P)) (hn : As.length = na) (hst : st = As.reverse ++ rest) (hw : (rest.map fun v => v.category).sum ≤ 8) (hf : jq_fit R M' d' 1 6 cells slots)
    (k : ∀ v X', P v X' → jq_J l G M R Ex Y (pc + 3) L (.long v :: rest) n ad (xs_mem G ad X') (cells + 1) (slots + 6)) : jq_J l G M R Ex Y pc L st n ad (xs_mem G ad X) cells slots :=
  xx_invS hOk hd F1 F2 hCt hn hst hw hf (fun r X' h => by obtain ⟨v, rfl, h⟩ := h; exact k v X' h)
theorem xs_ai_same {X : xs_T} {q i : Nat} {v : Int32} (h : X.2.2.1 q i = v) : xs_ai X q (upd (X.2.2.1 q) i v) = X := by
  rw [fa_upd_same h]
  unfold xs_ai
  refine Prod.ext rfl (Prod.ext rfl (Prod.ext ?_ rfl))
  funext j
  by_cases hj : j = q
  · subst hj; simp [va_up]
  · simp [va_up, hj]
def lk_Lw (n w h : Nat) (num : Nat → Int32) (mk : Nat → Nat) (X : xs_T) : Prop := lr_B n w h X ∧ lr_N n w h num X ∧ lr_S n w h 23 mk X
/-- the class and the law hold one board, numbers, marks -/
def lk_I (w h : Nat) (num : Nat → Int32) (mk : Nat → Nat) (X : xs_T) : Prop := lk_Lw 24 w h num mk X ∧ dv_A w h num mk X ∧ dv_LC w h X ∧ ∀ c, c < tb_nc w h → tb_numOk (num c) = true
def lk_Z (X : xs_T) : Prop := ∃ w h num mk, lk_I w h num mk X
theorem lk_fr {n w h : Nat} {num : Nat → Int32} {mk : Nat → Nat} {S : List Nat} {F : List (Nat × Nat)} {X Y : xs_T} (hL : lk_Lw n w h num mk X) (hf : xs_fr S F X Y) (hq : (([21, 22, 23] : List Nat).all (fun q => !decide (q ∈ S)) && ([(21, 0), (22, 0), (23, 0)] : List (Nat × Nat)).all (fun q => !decide (q ∈ F))) = true := by decide) : lk_Lw n w h num mk Y := by
  simp only [List.all_cons, List.all_nil, Bool.and_true, Bool.and_eq_true, Bool.not_eq_true', decide_eq_false_iff_not] at hq
  obtain ⟨⟨a1, a2, a3⟩, b1, b2, b3⟩ := hq
  obtain ⟨hB, hN, hS⟩ := hL
  refine ⟨⟨⟨hB.1.1, hB.1.2.1, by rw [(hf.1 _ _ b1).1]; exact hB.1.2.2⟩, by rw [(hf.2 _ a1).1]; exact hB.2.1, by rw [(hf.2 _ a1).1]; exact hB.2.2.1, hB.2.2.2⟩, ⟨⟨hN.1.1, hN.1.2.1, by rw [(hf.1 _ _ b2).1]; exact hN.1.2.2⟩, fun c hc => by rw [(hf.2 _ a2).1]; exact hN.2 c hc⟩, ⟨⟨hS.1.1, hS.1.2.1, by rw [(hf.1 _ _ b3).1]; exact hS.1.2.2⟩, fun c hc => by rw [(hf.2 _ a3).1]; exact hS.2 c hc⟩⟩
theorem lk_up {n m w h : Nat} {num : Nat → Int32} {mk : Nat → Nat} {X : xs_T} (hL : lk_Lw n w h num mk X) (hm : n ≤ m) : lk_Lw m w h num mk X := by
  obtain ⟨hB, hN, hS⟩ := hL
  exact ⟨⟨⟨Nat.lt_of_lt_of_le hB.1.1 hm, hB.1.2⟩, hB.2⟩, ⟨⟨Nat.lt_of_lt_of_le hN.1.1 hm, hN.1.2⟩, hN.2⟩, ⟨⟨Nat.lt_of_lt_of_le hS.1.1 hm, hS.1.2⟩, hS.2⟩⟩
theorem lk_num {v : Int32} (h : tb_numOk v = true) : (v < 0 ↔ v = -1) ∧ ¬ v ≤ -101 ∧ -1 ≤ v ∧ v ≤ 3 := by
  unfold tb_numOk at h
  rw [Bool.and_eq_true, decide_eq_true_eq, decide_eq_true_eq] at h
  obtain ⟨h1, h2⟩ := h
  have a1 := (fa_le _ _).mp h1
  have a2 := (fa_le _ _).mp h2
  rw [show (-1 : Int32).toInt = -1 by decide] at a1
  rw [show (3 : Int32).toInt = 3 by decide] at a2
  refine ⟨?_, ?_, h1, h2⟩
  · rw [fa_lt, fa_eq, show (0 : Int32).toInt = 0 by decide, show (-1 : Int32).toInt = -1 by decide]
    omega
  · rw [fa_le, show (-101 : Int32).toInt = -101 by decide]
    omega
theorem lk_nums {w h : Nat} {num : Nat → Int32} (h0 : ∀ c, c < tb_nc w h → tb_numOk (num c) = true) : ∀ c, c < tb_nc w h → (num c < 0 ↔ num c = -1) := fun c hc => (lk_num (h0 c hc)).1
theorem lk_w4 {a : Nat} (ha : a < 100) : tb_w4 (nI a) = (decide (1 ≤ a) && decide (a ≤ 4)) := by
  unfold tb_w4
  rw [Bool.eq_iff_iff, Bool.and_eq_true, Bool.and_eq_true, decide_eq_true_eq, decide_eq_true_eq, decide_eq_true_eq, decide_eq_true_eq]
  exact and_congr (nI_leI (by decide) (by omega)) (nI_leI (by omega) (by decide))
theorem lk_up1 {X : xs_T} {q e j : Nat} {v : Int32} (he : e < 2 ^ 31) : (xs_ai X q (upd (X.2.2.1 q) (nI e).toNatClampNeg v)).2.2.1 q j = if j = e then v else X.2.2.1 q j := by
  rw [xs_ai_at]
  by_cases z : j = e
  · subst z; rw [if_pos rfl, xs_upd_at he]
  · rw [if_neg z, xs_upd_ne he z]
set_option maxHeartbeats 16000000 in
theorem la_lay {l : Launch} {G : jq_G} {ad : Nat → Nat} {X : xs_T} {w h : Nat} {num : Nat → Int32} {mk : Nat → Nat} (hl : l.stackTraces = false) (hI : lk_I w h num mk X) (v1 y : Int32) (o6 o7 o8 o9 o10 o11 : Option Value) : jq_J l G mL_acts (jq_R 26 100 700) (jx_E []) (xj_Ye G 24 ad (xs_pi (fun r X' => r = nI 1 ∧ lk_Z X')) 100 700) 4 [some (.ref (ad 0)), some (.int (v1)), some (.int (y)), some (.ref (ad 21)), some (.ref (ad 22)), some (.ref (ad 23)), o6, o7, o8, o9, o10, o11] [] (24) ad (xs_mem G ad X) (0) (0) := by
  obtain ⟨hL, hA, hC, hn0⟩ := id hI
  obtain ⟨hB, hN, hS⟩ := id hL
  have hk := hB.2.2.2
  have hn2 : 21 ≤ 24 := by decide
  -- it is refused
  have s70f : ∀ (wd ht : Nat) (o9 : Option Value), wd < 100 → ht < 100 → (tb_w4 (nI wd) && tb_w4 (nI ht)) = false → jq_J l G mL_acts (jq_R 26 100 700) (jx_E []) (xj_Ye G 24 ad (xs_pi (fun r X' => r = nI 1 ∧ lk_Z X')) 100 700) 70 [some (.ref (ad 0)), some (.int (v1)), some (.int (y)), some (.ref (ad 21)), some (.ref (ad 22)), some (.ref (ad 23)), some (.int (nI (wd))), some (.int (nI (ht))), some (.int (nI (0))), o9, o10, o11] [] (24) ad (xs_mem G ad X) (0) (0) := by
    intro wd ht o9 hwd hht hno
    refine jq_iconst (v := (nI 0)) dL_acts_70 (by decide) ?_
    refine jq_istore dL_acts_71 (by decide) rfl rfl ?_
    refine jq_iload dL_acts_73 rfl ?_
    refine jq_bipush (v := (nI 24)) dL_acts_75 (by decide) ?_
    refine jq_geN (tgt := 106) dL_acts_77 (by decide) ⟨by omega, by omega⟩ (fun c77 => ?_) (fun c77 => ?_)
    · exact absurd c77 (by decide)
    · refine jq_iload dL_acts_80 rfl ?_
      refine jq_eqZ (tgt := 106) dL_acts_82 (by decide) (by decide) (fun c82 => ?_) (fun c82 => ?_)
      · refine jq_aload_n dL_acts_106 rfl rfl ?_
        refine jq_iconst (v := (nI 0)) dL_acts_107 (by decide) ?_
        refine jq_iload dL_acts_108 rfl ?_
        refine jq_eqZ (tgt := 118) dL_acts_110 (by decide) (by decide) (fun c110 => ?_) (fun c110 => ?_)
        · refine jq_aload_n dL_acts_118 rfl rfl ?_
          refine jq_iconst (v := (nI 0)) dL_acts_119 (by decide) ?_
          refine xq_iald dL_acts_120 hB.1 lr_v0 hB.2.1 ?_
          refine xq_iast dL_acts_121 (hB.1) (lr_v0) ?_
          rw [xs_ai_same hB.2.1]
          refine jq_aload_n dL_acts_122 rfl rfl ?_
          refine jq_iconst (v := (nI 1)) dL_acts_123 (by decide) ?_
          refine jq_iload dL_acts_124 rfl ?_
          refine jq_eqZ (tgt := 134) dL_acts_126 (by decide) (by decide) (fun c126 => ?_) (fun c126 => ?_)
          · refine jq_aload_n dL_acts_134 rfl rfl ?_
            refine jq_iconst (v := (nI 1)) dL_acts_135 (by decide) ?_
            refine xq_iald dL_acts_136 hB.1 lr_v1 hB.2.2.1 ?_
            refine xq_iast dL_acts_137 (hB.1) (lr_v1) ?_
            rw [xs_ai_same hB.2.2.1]
            refine jq_aload_n dL_acts_138 rfl rfl ?_
            refine jq_iload dL_acts_139 rfl ?_
            refine jq_iload dL_acts_141 rfl ?_
            refine xx_sI (M' := mL_laid) (hh := hL_laid) (na := 3) jx_E_ok dL_acts_143 gL_138 ⟨by decide, by decide, by decide +kernel⟩ (c_L_laid_no hl hn2 (nI wd) (nI ht) hno) rfl rfl (Nat.le_of_ble_eq_true rfl) ⟨⟨by decide, by decide⟩, by decide, by decide⟩ (fun v143 X143 h143 => ?_)
            refine jq_iload dL_acts_146 rfl ?_
            refine jq_eqZ (tgt := 155) dL_acts_148 (by decide) (by decide) (fun c148 => ?_) (fun c148 => ?_)
            · refine jq_bipush (v := (-101)) dL_acts_155 (by decide) ?_
              refine jq_icmp_ne (tgt := 164) dL_acts_157 (by decide) (fun c157 => ?_) (fun c157 => ?_)
              · exact absurd h143.1 c157
              · refine jq_iconst (v := (nI 1)) dL_acts_160 (by decide) ?_
                refine jq_goto (tgt := 165) dL_acts_161 (by decide) ?_
                exact xj_ireturn dL_acts_165 rfl rfl (⟨by decide, by decide⟩) (by omega) (by omega) (fun _ _ => rfl) (⟨_, rfl, rfl, by rw [h143.2]; exact ⟨w, h, num, mk, hI⟩⟩)
            · exact absurd rfl c148
          · exact absurd rfl c126
        · exact absurd rfl c110
      · exact absurd rfl c82
  have s70y : ∀ (wd ht : Nat) (o9 : Option Value), lr_k wd ht → jq_J l G mL_acts (jq_R 26 100 700) (jx_E []) (xj_Ye G 24 ad (xs_pi (fun r X' => r = nI 1 ∧ lk_Z X')) 100 700) 70 [some (.ref (ad 0)), some (.int (v1)), some (.int (y)), some (.ref (ad 21)), some (.ref (ad 22)), some (.ref (ad 23)), some (.int (nI (wd))), some (.int (nI (ht))), some (.int (nI (1))), o9, o10, o11] [] (24) ad (xs_mem G ad X) (0) (0) := by
    intro wd ht o9 hk2
    have hW := lr_W hk2
    have hz2 := lr_sz hk2
    have loop : ∀ (k e : Nat) (Y : xs_T), e + k = 24 → xs_fr [22, 23] [] X Y → (∀ j, j < e → Y.2.2.1 23 j = nI 0) → (∀ j, j < e → j < 9 → Y.2.2.1 22 j = -1) → jq_J l G mL_acts (jq_R 26 100 700) (jx_E []) (xj_Ye G 24 ad (xs_pi (fun r X' => r = nI 1 ∧ lk_Z X')) 100 700) 73 [some (.ref (ad 0)), some (.int (v1)), some (.int (y)), some (.ref (ad 21)), some (.ref (ad 22)), some (.ref (ad 23)), some (.int (nI (wd))), some (.int (nI (ht))), some (.int (nI (1))), some (.int (nI (e))), o10, o11] [] (24) ad (xs_mem G ad Y) (0) (0) := by
      intro k
      induction k with
      | zero =>
        intro e Y he hf h3 h2
        have hzb : 21 < 24 ∧ 21 ≤ 21 ∧ (Y.1 21 0).toNatClampNeg = 2 := ⟨by decide, by decide, by rw [(hf.1 21 0 (by simp)).1]; exact hB.1.2.2⟩
        have fin : ∀ (Z : xs_T), xs_fr [21, 22, 23] [] X Z → Z.2.2.1 21 0 = nI wd → Z.2.2.1 21 1 = nI ht → Z.2.2.1 22 = Y.2.2.1 22 → Z.2.2.1 23 = Y.2.2.1 23 → jq_J l G mL_acts (jq_R 26 100 700) (jx_E []) (xj_Ye G 24 ad (xs_pi (fun r X' => r = nI 1 ∧ lk_Z X')) 100 700) 138 [some (.ref (ad 0)), some (.int (v1)), some (.int (y)), some (.ref (ad 21)), some (.ref (ad 22)), some (.ref (ad 23)), some (.int (nI (wd))), some (.int (nI (ht))), some (.int (nI (1))), some (.int (nI (e))), o10, o11] [] (24) ad (xs_mem G ad Z) (0) (0) := by
          intro Z hfz b0 b1 z2 z3
          refine jq_aload_n dL_acts_138 rfl rfl ?_
          refine jq_iload dL_acts_139 rfl ?_
          refine jq_iload dL_acts_141 rfl ?_
          refine xx_sI (M' := mL_laid) (hh := hL_laid) (na := 3) jx_E_ok dL_acts_143 gL_138 ⟨by decide, by decide, by decide +kernel⟩ (c_L_laid_ok hn2 hW) rfl rfl (Nat.le_of_ble_eq_true rfl) ⟨⟨by decide, by decide⟩, by decide, by decide⟩ (fun v143 X143 h143 => ?_)
          refine jq_iload dL_acts_146 rfl ?_
          refine jq_eqZ (tgt := 155) dL_acts_148 (by decide) (by decide) (fun c148 => ?_) (fun c148 => ?_)
          · exact absurd c148 (by decide)
          · refine jq_iconst (v := (nI 0)) dL_acts_151 (by decide) ?_
            refine jq_goto (tgt := 157) dL_acts_152 (by decide) ?_
            refine jq_icmp_ne (tgt := 164) dL_acts_157 (by decide) (fun c157 => ?_) (fun c157 => ?_)
            · exact absurd h143.1 c157
            · refine jq_iconst (v := (nI 1)) dL_acts_160 (by decide) ?_
              refine jq_goto (tgt := 165) dL_acts_161 (by decide) ?_
              exact xj_ireturn dL_acts_165 rfl rfl (⟨by decide, by decide⟩) (by omega) (by omega) (fun _ _ => rfl) (⟨_, rfl, rfl, wd, ht, fun _ => -1, fun _ => 0, lk_fr (S := dv_SY) (F := dv_FY) ⟨⟨⟨by decide, by decide, by rw [(hfz.1 21 0 (by simp)).1]; exact hB.1.2.2⟩, by rw [nI_clamp (by decide)]; exact b0, by rw [nI_clamp (by decide)]; exact b1, hk2⟩, ⟨⟨by decide, by decide, by rw [(hfz.1 22 0 (by simp)).1]; exact hN.1.2.2⟩, fun c hc => by rw [nI_clamp (by omega), z2]; exact h2 c (by omega) (by omega)⟩, ⟨⟨by decide, by decide, by rw [(hfz.1 23 0 (by simp)).1]; exact hS.1.2.2⟩, fun c hc => by rw [nI_clamp (by omega), z3]; exact ⟨h3 c (by omega), Nat.zero_le _⟩⟩⟩ h143.2.1, h143.2.2.1, h143.2.2.2, fun _ _ => (show tb_numOk (-1) = true by decide)⟩)
        refine jq_iload dL_acts_73 rfl ?_
        refine jq_bipush (v := (nI 24)) dL_acts_75 (by decide) ?_
        refine jq_geN (tgt := 106) dL_acts_77 (by decide) ⟨by omega, by omega⟩ (fun c77 => ?_) (fun c77 => ?_)
        · refine jq_aload_n dL_acts_106 rfl rfl ?_
          refine jq_iconst (v := (nI 0)) dL_acts_107 (by decide) ?_
          refine jq_iload dL_acts_108 rfl ?_
          refine jq_eqZ (tgt := 118) dL_acts_110 (by decide) (by decide) (fun c110 => ?_) (fun c110 => ?_)
          · exact absurd c110 (by decide)
          · refine jq_iload dL_acts_113 rfl ?_
            refine jq_goto (tgt := 121) dL_acts_115 (by decide) ?_
            refine xq_iast dL_acts_121 (hzb) (lr_v0) ?_
            refine jq_aload_n dL_acts_122 rfl rfl ?_
            refine jq_iconst (v := (nI 1)) dL_acts_123 (by decide) ?_
            refine jq_iload dL_acts_124 rfl ?_
            refine jq_eqZ (tgt := 134) dL_acts_126 (by decide) (by decide) (fun c126 => ?_) (fun c126 => ?_)
            · exact absurd c126 (by decide)
            · refine jq_iload dL_acts_129 rfl ?_
              refine jq_goto (tgt := 137) dL_acts_131 (by decide) ?_
              refine xq_iast dL_acts_137 (hzb) (lr_v1) ?_
              exact fin _ (xs_fr_ai (xs_fr_ai (xs_fr_mo hf (by decide)) (by decide)) (by decide)) (by rw [lk_up1 (by decide), if_neg (by decide), lk_up1 (by decide), if_pos rfl]) (by rw [lk_up1 (by decide), if_pos rfl]) (by rw [xs_ai_ne (by decide), xs_ai_ne (by decide)]) (by rw [xs_ai_ne (by decide), xs_ai_ne (by decide)])
        · exact absurd c77 (by omega)
      | succ k ih =>
        intro e Y he hf h3 h2
        have hie : vp_in (nI e) 24 := vp_inN (by omega) (by decide)
        have hi9 : vp_in (nI (e % 9)) 9 := vp_inN (Nat.mod_lt _ (by decide)) (by decide)
        have hm9 : e % 9 < 9 := Nat.mod_lt _ (by decide)
        have g2 : ∀ j, j < e + 1 → j < 9 → ¬ j = e % 9 → Y.2.2.1 22 j = -1 := fun j hj hj9 z => h2 j (by
          rcases Nat.lt_or_ge j e with q | q
          · exact q
          · exact absurd (by rw [show e = j by omega, Nat.mod_eq_of_lt hj9]) z) hj9
        have hzm : 23 < 24 ∧ 21 ≤ 23 ∧ (Y.1 23 0).toNatClampNeg = 24 := ⟨by decide, by decide, by rw [(hf.1 23 0 (by simp)).1]; exact hS.1.2.2⟩
        have hzn : 22 < 24 ∧ 21 ≤ 22 ∧ (Y.1 22 0).toNatClampNeg = 9 := ⟨by decide, by decide, by rw [(hf.1 22 0 (by simp)).1]; exact hN.1.2.2⟩
        refine jq_iload dL_acts_73 rfl ?_
        refine jq_bipush (v := (nI 24)) dL_acts_75 (by decide) ?_
        refine jq_geN (tgt := 106) dL_acts_77 (by decide) ⟨by omega, by omega⟩ (fun c77 => ?_) (fun c77 => ?_)
        · exact absurd c77 (by omega)
        · refine jq_iload dL_acts_80 rfl ?_
          refine jq_eqZ (tgt := 106) dL_acts_82 (by decide) (by decide) (fun c82 => ?_) (fun c82 => ?_)
          · exact absurd c82 (by decide)
          · refine jq_aload dL_acts_85 rfl ?_
            refine jq_iload dL_acts_87 rfl ?_
            refine jq_iconst (v := (nI 0)) dL_acts_89 (by decide) ?_
            refine xq_iast dL_acts_90 (hzm) (hie) ?_
            refine jq_aload dL_acts_91 rfl ?_
            refine jq_iload dL_acts_93 rfl ?_
            refine jq_bipush (v := (nI 9)) dL_acts_95 (by decide) ?_
            refine jq_iremN dL_acts_97 (⟨by omega, by omega, by omega⟩) ?_
            refine jq_iconst (v := (-1)) dL_acts_98 (by decide) ?_
            refine xq_iast dL_acts_99 (hzn) (hi9) ?_
            refine jq_iincN dL_acts_100 (by decide) rfl rfl rfl ?_
            refine jq_goto (tgt := 73) dL_acts_103 (by decide) ?_
            refine ih (e + 1) _ (by omega) (xs_fr_ai (xs_fr_ai hf (by decide)) (by decide)) (fun j hj => ?_) (fun j hj hj9 => ?_)
            · rw [xs_ai_ne (by decide), lk_up1 (by omega)]; by_cases z : j = e; (· rw [if_pos z]); (· rw [if_neg z]; exact h3 j (by omega))
            · rw [lk_up1 (by omega), xs_ai_ne (by decide)]; by_cases z : j = e % 9; (· rw [if_pos z]); (· rw [if_neg z]; exact g2 j hj hj9 z)
    refine jq_iconst (v := (nI 0)) dL_acts_70 (by decide) ?_
    refine jq_istore dL_acts_71 (by decide) rfl rfl ?_
    exact loop 24 0 X (by omega) xs_fr_rf (fun j hj => absurd hj (Nat.not_lt_zero j)) (fun j hj => absurd hj (Nat.not_lt_zero j))
  have s52 : ∀ (wd ht : Nat) (o8 o9 : Option Value), (wd = 5 ∨ (1 ≤ wd ∧ wd ≤ 3)) → (ht = 0 ∨ (1 ≤ ht ∧ ht ≤ 3)) → jq_J l G mL_acts (jq_R 26 100 700) (jx_E []) (xj_Ye G 24 ad (xs_pi (fun r X' => r = nI 1 ∧ lk_Z X')) 100 700) 52 [some (.ref (ad 0)), some (.int (v1)), some (.int (y)), some (.ref (ad 21)), some (.ref (ad 22)), some (.ref (ad 23)), some (.int (nI (wd))), some (.int (nI (ht))), o8, o9, o10, o11] [] (24) ad (xs_mem G ad X) (0) (0) := by
    intro wd ht o8 o9 hwd hht
    refine jq_iload dL_acts_52 rfl ?_
    refine jq_iconst (v := (nI 5)) dL_acts_54 (by decide) ?_
    refine jq_geN (tgt := 67) dL_acts_55 (by decide) ⟨by omega, by omega⟩ (fun c55 => ?_) (fun c55 => ?_)
    · have hgo := s70f wd ht o9 (by omega) (by omega) (by rw [lk_w4 (by omega), decide_eq_false (show ¬ wd ≤ 4 by omega), Bool.and_false, Bool.false_and])
      refine jq_iconst (v := (nI 0)) dL_acts_67 (by decide) ?_
      refine jq_istore dL_acts_68 (by decide) rfl rfl ?_
      exact hgo
    · refine jq_iload dL_acts_58 rfl ?_
      refine jq_leZ (tgt := 67) dL_acts_60 (by decide) (by omega) (fun c60 => ?_) (fun c60 => ?_)
      · have hgo := s70f wd ht o9 (by omega) (by omega) (by rw [lk_w4 (a := ht) (by omega), decide_eq_false (show ¬ 1 ≤ ht by omega), Bool.false_and, Bool.and_false])
        refine jq_iconst (v := (nI 0)) dL_acts_67 (by decide) ?_
        refine jq_istore dL_acts_68 (by decide) rfl rfl ?_
        exact hgo
      · have hgo := s70y wd ht o9 ⟨by omega, by omega, by omega, by omega⟩
        refine jq_iconst (v := (nI 1)) dL_acts_63 (by decide) ?_
        refine jq_goto (tgt := 68) dL_acts_64 (by decide) ?_
        refine jq_istore dL_acts_68 (by decide) rfl rfl ?_
        exact hgo
  have s26 : ∀ (wd : Nat) (o7 o8 o9 : Option Value), (wd = 5 ∨ (1 ≤ wd ∧ wd ≤ 3)) → jq_J l G mL_acts (jq_R 26 100 700) (jx_E []) (xj_Ye G 24 ad (xs_pi (fun r X' => r = nI 1 ∧ lk_Z X')) 100 700) 26 [some (.ref (ad 0)), some (.int (v1)), some (.int (y)), some (.ref (ad 21)), some (.ref (ad 22)), some (.ref (ad 23)), some (.int (nI (wd))), o7, o8, o9, o10, o11] [] (24) ad (xs_mem G ad X) (0) (0) := by
    intro wd o7 o8 o9 hwd
    have h3 := lr_sm_lt (y >>> (nI 3 &&& 31)) (show 0 < 3 by decide)
    have h30 := lr_sm_lt (y >>> (nI 3 &&& 31)) (show 0 < 30 by decide)
    refine jq_iload_n dL_acts_26 rfl rfl ?_
    refine jq_iconst (v := (nI 3)) dL_acts_27 (by decide) ?_
    refine jq_ishr dL_acts_28 rfl ?_
    refine jq_bipush (v := (nI 30)) dL_acts_29 (by decide) ?_
    refine xq_sI dL_acts_31 kL_135 (c_L_some _ (by decide) (by decide)) rfl rfl (Nat.le_of_ble_eq_true rfl) ⟨⟨by decide, by decide⟩, by decide, by decide⟩ ?_
    refine jq_neZ (tgt := 41) dL_acts_34 (by decide) (by omega) (fun c34 => ?_) (fun c34 => ?_)
    · refine jq_iconst (v := (nI 1)) dL_acts_41 (by decide) ?_
      refine jq_iload_n dL_acts_42 rfl rfl ?_
      refine jq_iconst (v := (nI 3)) dL_acts_43 (by decide) ?_
      refine jq_ishr dL_acts_44 rfl ?_
      refine jq_iconst (v := (nI 3)) dL_acts_45 (by decide) ?_
      refine xq_sI dL_acts_46 kL_135 (c_L_some _ (by decide) (by decide)) rfl rfl (Nat.le_of_ble_eq_true rfl) ⟨⟨by decide, by decide⟩, by decide, by decide⟩ ?_
      refine jq_iaddN dL_acts_49 ?_
      refine jq_istore dL_acts_50 (by decide) rfl rfl ?_
      first | exact s52 wd 0 _ _ hwd (Or.inl rfl) | exact s52 wd _ _ _ hwd (Or.inr ⟨by omega, by omega⟩)
    · refine jq_iconst (v := (nI 0)) dL_acts_37 (by decide) ?_
      refine jq_goto (tgt := 50) dL_acts_38 (by decide) ?_
      refine jq_istore dL_acts_50 (by decide) rfl rfl ?_
      first | exact s52 wd 0 _ _ hwd (Or.inl rfl) | exact s52 wd _ _ _ hwd (Or.inr ⟨by omega, by omega⟩)
  have h3 := lr_sm_lt y (show 0 < 3 by decide)
  have h30 := lr_sm_lt y (show 0 < 30 by decide)
  refine jq_iload_n dL_acts_4 rfl rfl ?_
  refine jq_bipush (v := (nI 30)) dL_acts_5 (by decide) ?_
  refine xq_sI dL_acts_7 kL_135 (c_L_some _ (by decide) (by decide)) rfl rfl (Nat.le_of_ble_eq_true rfl) ⟨⟨by decide, by decide⟩, by decide, by decide⟩ ?_
  refine jq_neZ (tgt := 17) dL_acts_10 (by decide) (by omega) (fun c10 => ?_) (fun c10 => ?_)
  · refine jq_iconst (v := (nI 1)) dL_acts_17 (by decide) ?_
    refine jq_iload_n dL_acts_18 rfl rfl ?_
    refine jq_iconst (v := (nI 3)) dL_acts_19 (by decide) ?_
    refine xq_sI dL_acts_20 kL_135 (c_L_some _ (by decide) (by decide)) rfl rfl (Nat.le_of_ble_eq_true rfl) ⟨⟨by decide, by decide⟩, by decide, by decide⟩ ?_
    refine jq_iaddN dL_acts_23 ?_
    refine jq_istore dL_acts_24 (by decide) rfl rfl ?_
    first | exact s26 5 _ _ _ (Or.inl rfl) | exact s26 _ _ _ _ (Or.inr ⟨by omega, by omega⟩)
  · refine jq_iconst (v := (nI 5)) dL_acts_13 (by decide) ?_
    refine jq_goto (tgt := 24) dL_acts_14 (by decide) ?_
    refine jq_istore dL_acts_24 (by decide) rfl rfl ?_
    first | exact s26 5 _ _ _ (Or.inl rfl) | exact s26 _ _ _ _ (Or.inr ⟨by omega, by omega⟩)
