/-! the law's count of the answers, walked -/
def lr_ok (w h : Nat) (num : Nat → Int32) (mk : Nat → Nat) (ig : Int32) (S : Nat) : Bool := !(lr_li w h num mk S ig == 0) && lr_ar w h S
def lr_fd (L T : Nat) : Nat := fa_first (fun e => !(L.testBit e == T.testBit e)) 24
def lr_ah (L T : Nat) : Bool := decide (lr_fd L T < 24) && L.testBit (lr_fd L T)
/-- over the sets 1 to i -/
def lr_cn (P : Nat → Bool) (i : Nat) : Nat := fb_ct (fun S => P (S + 1)) i
theorem lr_l2i {b : Bool} : (lN (if b = true then 1 else 0)).toInt32 = nI (if b = true then 1 else 0) := by cases b <;> decide
theorem lr_ilt {b : Bool} : (if b = true then 1 else 0) < 2 ^ 63 := by cases b <;> decide
theorem lr_li_lt {w h : Nat} (k : lr_k w h) (num : Nat → Int32) (mk : Nat → Nat) (S : Nat) (ig : Int32) : lr_li w h num mk S ig < 2 ^ 24 := by
  have hz := lr_sz k
  unfold lr_li
  split
  · exact Nat.lt_of_lt_of_le dv_bd_lt (Nat.pow_le_pow_right (by decide) hz.2.1)
  · decide
def lr_FA (qw qt : Nat) (X Y : xs_T) (wf : Nat → Nat) (a : Nat) : Prop := xs_fr [qw, qt] [] X Y ∧ (∀ j, j < 24 → Y.2.2.1 qw j = nI (wf j)) ∧ Y.2.2.1 qt 3 = nI a
theorem lr_t3 : vp_in (nI 3) 4 := vp_inN (by decide) (by decide)
theorem lr_cn_s (P : Nat → Bool) (i : Nat) : lr_cn P (i + 1) = lr_cn P i + (if P (i + 1) = true then 1 else 0) := rfl
theorem lr_cn_le (P : Nat → Bool) (i : Nat) : lr_cn P i ≤ i := fb_ct_le _ _
set_option maxHeartbeats 16000000 in
theorem c_L_answers {l : Launch} {G : jq_G} {n : Nat} {ad : Nat → Nat} {X : xs_T} {w h qw qt : Nat} {num : Nat → Int32} {mk : Nat → Nat} (hB : lr_B n w h X) (hM : lr_S n w h 23 mk X) (hN : lr_N n w h num X) (hqw : 24 ≤ qw ∧ qw < n ∧ (X.1 qw 0).toNatClampNeg = 24) (hqt : 24 ≤ qt ∧ qt < n ∧ (X.1 qt 0).toNatClampNeg = 4) (hne : qw ≠ qt) (ig : Int32) {T : Nat} (hT : T < 2 ^ 40) : xm_Ct l G mL_answers 5 511 12264 [.ref (ad 21), .ref (ad 23), .ref (ad 22), .int (ig), .long (lN T), .ref (ad qw), .ref (ad qt)] n ad X (xs_pi (fun v X' => v = nI (lr_cn (lr_ok w h num mk ig) (2 ^ tb_nc w h - 1)) ∧ lr_FA qw qt X X' (fun e => lr_cn (fun S => lr_ok w h num mk ig S && (lr_li w h num mk S ig).testBit e) (2 ^ tb_nc w h - 1)) (lr_cn (fun S => lr_ok w h num mk ig S && lr_ah (lr_li w h num mk S ig) T) (2 ^ tb_nc w h - 1)))) := by
  have hk := hB.2.2.2
  have hz := lr_sz hk
  have hn23 : 23 < n := hM.1.1
  have hpow : 2 ^ tb_nc w h ≤ 2 ^ 9 := Nat.pow_le_pow_right (by decide) (by omega)
  have hpow2 : 2 ≤ 2 ^ tb_nc w h := by
    have : 2 ^ 1 ≤ 2 ^ tb_nc w h := Nat.pow_le_pow_right (by decide) (by omega)
    omega
  have facts : ∀ Y : xs_T, xs_fr [qw, qt] [] X Y → lr_B n w h Y ∧ lr_S n w h 23 mk Y ∧ lr_N n w h num Y ∧ (qw < n ∧ 21 ≤ qw ∧ (Y.1 qw 0).toNatClampNeg = 24) ∧ (qt < n ∧ 21 ≤ qt ∧ (Y.1 qt 0).toNatClampNeg = 4) := by
    intro Y hf
    have e1 : ∀ q, q < 24 → Y.2.2.1 q = X.2.2.1 q := fun q hq => (hf.2 q (fun z => by simp at z; omega)).1
    have e2 : ∀ q, Y.1 q 0 = X.1 q 0 := fun q => (hf.1 q 0 (fun z => by simp at z)).1
    refine ⟨⟨⟨by omega, by decide, by rw [e2 21]; exact hB.1.2.2⟩, by rw [e1 21 (by omega)]; exact hB.2.1, by rw [e1 21 (by omega)]; exact hB.2.2.1, hk⟩, ⟨⟨by omega, by decide, by rw [e2 23]; exact hM.1.2.2⟩, fun c hc => by rw [e1 23 (by omega)]; exact hM.2 c hc⟩, ⟨⟨by omega, by decide, by rw [e2 22]; exact hN.1.2.2⟩, fun c hc => by rw [e1 22 (by omega)]; exact hN.2 c hc⟩, ⟨by omega, by omega, by rw [e2 qw]; exact hqw.2.2⟩, by omega, by omega, by rw [e2 qt]; exact hqt.2.2⟩
  have loop : ∀ (k i : Nat) (Y : xs_T) (wf : Nat → Nat) (a all : Nat) (o10 o11 o12 o13 : Option Value), i + k = 2 ^ tb_nc w h - 1 → lr_FA qw qt X Y wf a → all = lr_cn (lr_ok w h num mk ig) i → (∀ e, e < 24 → wf e = lr_cn (fun S => lr_ok w h num mk ig S && (lr_li w h num mk S ig).testBit e) i) → a = lr_cn (fun S => lr_ok w h num mk ig S && lr_ah (lr_li w h num mk S ig) T) i → jq_J l G mL_answers (jq_R 5 511 12264) jq_E0 (xm_Ye G n ad (xs_pi (fun v X' => v = nI (lr_cn (lr_ok w h num mk ig) (2 ^ tb_nc w h - 1)) ∧ lr_FA qw qt X X' (fun e => lr_cn (fun S => lr_ok w h num mk ig S && (lr_li w h num mk S ig).testBit e) (2 ^ tb_nc w h - 1)) (lr_cn (fun S => lr_ok w h num mk ig S && lr_ah (lr_li w h num mk S ig) T) (2 ^ tb_nc w h - 1)))) 511 12264) 33 [some (.ref (ad 21)), some (.ref (ad 23)), some (.ref (ad 22)), some (.int (ig)), some (.long (lN T)), none, some (.ref (ad qw)), some (.ref (ad qt)), some (.int (nI (all))), some (.int (nI (i + 1))), o10, o11, o12, o13] [] (n) ad (xs_mem G ad Y) (i) (24 * i) := by
    intro k
    induction k with
    | zero =>
      intro i Y wf a all o10 o11 o12 o13 hi hF hall hwf ha
      obtain ⟨hBY, hMY, hNY, hzw, hzt⟩ := facts Y hF.1
      have e1 : i = 2 ^ tb_nc w h - 1 := by omega
      have hB := hBY
      refine jq_iload dL_answers_33 rfl ?_
      refine jq_iconst (v := (nI 1)) dL_answers_35 (by decide) ?_
      refine jq_aload_n dL_answers_36 rfl rfl ?_
      refine jq_iconst (v := (nI 0)) dL_answers_37 (by decide) ?_
      refine xq_iald dL_answers_38 hB.1 lr_v0 hB.2.1 ?_
      refine jq_aload_n dL_answers_39 rfl rfl ?_
      refine jq_iconst (v := (nI 1)) dL_answers_40 (by decide) ?_
      refine xq_iald dL_answers_41 hB.1 lr_v1 hB.2.2.1 ?_
      refine jq_imulN dL_answers_42 ?_
      refine jq_ishl dL_answers_43 (lr_shl1 (by omega)) ?_
      refine jq_geN (tgt := 180) dL_answers_44 (by decide) ⟨by omega, by rw [show w * h = tb_nc w h from rfl]; omega⟩ (fun c44 => ?_) (fun c44 => ?_)
      · refine jq_iload dL_answers_180 rfl ?_
        exact xm_ireturn dL_answers_182 rfl rfl ⟨by omega, by omega⟩ (Nat.le_refl _) (by omega) (fun _ _ => rfl) ⟨_, rfl, by rw [hall, e1], hF.1, fun j hj => by rw [hF.2.1 j hj, hwf j hj, e1], by rw [hF.2.2, ha, e1]⟩
      · exact absurd c44 (by rw [show w * h = tb_nc w h from rfl]; omega)
    | succ k ih =>
      intro i Y wf a all o10 o11 o12 o13 hi hF hall hwf ha
      obtain ⟨hBY, hMY, hNY, hzw, hzt⟩ := facts Y hF.1
      have hSl : i + 1 < 2 ^ tb_nc w h := by omega
      have hL := lr_li_lt hk num mk (i + 1) ig
      generalize hLL : lr_li w h num mk (i + 1) ig = L at *
      have hale := lr_cn_le (fun S => lr_ok w h num mk ig S && lr_ah (lr_li w h num mk S ig) T) i
      have hwle : ∀ e, lr_cn (fun S => lr_ok w h num mk ig S && (lr_li w h num mk S ig).testBit e) i ≤ i := fun e => lr_cn_le _ i
      have hallle := lr_cn_le (lr_ok w h num mk ig) i
      -- it is no answer
      have sN : lr_ok w h num mk ig (i + 1) = false → ∀ (o12 o13 : Option Value), jq_J l G mL_answers (jq_R 5 511 12264) jq_E0 (xm_Ye G n ad (xs_pi (fun v X' => v = nI (lr_cn (lr_ok w h num mk ig) (2 ^ tb_nc w h - 1)) ∧ lr_FA qw qt X X' (fun e => lr_cn (fun S => lr_ok w h num mk ig S && (lr_li w h num mk S ig).testBit e) (2 ^ tb_nc w h - 1)) (lr_cn (fun S => lr_ok w h num mk ig S && lr_ah (lr_li w h num mk S ig) T) (2 ^ tb_nc w h - 1)))) 511 12264) 174 [some (.ref (ad 21)), some (.ref (ad 23)), some (.ref (ad 22)), some (.int (ig)), some (.long (lN T)), none, some (.ref (ad qw)), some (.ref (ad qt)), some (.int (nI (all))), some (.int (nI (i + 1))), some (.long (lN L)), none, o12, o13] [] (n) ad (xs_mem G ad Y) (i + 1) (24 * i + 24) := by
        intro hno o12 o13
        have hn2 := ih (i + 1) Y wf a all (some (.long (lN L))) none o12 o13 (by omega) hF (by rw [hall, lr_cn_s, hno]; rfl) (fun e he => by rw [hwf e he, lr_cn_s, hno]; rfl) (by rw [ha, lr_cn_s, hno]; rfl)
        refine jq_iincN dL_answers_174 (by decide) rfl rfl rfl ?_
        refine jq_goto (tgt := 33) dL_answers_177 (by decide) ?_
        exact hn2
      -- each edge is counted
      have sK : lr_ok w h num mk ig (i + 1) = true → ∀ (k e : Nat) (Y : xs_T) (wf2 : Nat → Nat) (v12 : Int32), e + k = 24 → lr_FA qw qt X Y wf2 (lr_cn (fun S => lr_ok w h num mk ig S && lr_ah (lr_li w h num mk S ig) T) (i + 1)) → (∀ j, j < 24 → wf2 j = wf j + (if j < e ∧ L.testBit j = true then 1 else 0)) → jq_J l G mL_answers (jq_R 5 511 12264) jq_E0 (xm_Ye G n ad (xs_pi (fun v X' => v = nI (lr_cn (lr_ok w h num mk ig) (2 ^ tb_nc w h - 1)) ∧ lr_FA qw qt X X' (fun e => lr_cn (fun S => lr_ok w h num mk ig S && (lr_li w h num mk S ig).testBit e) (2 ^ tb_nc w h - 1)) (lr_cn (fun S => lr_ok w h num mk ig S && lr_ah (lr_li w h num mk S ig) T) (2 ^ tb_nc w h - 1)))) 511 12264) 145 [some (.ref (ad 21)), some (.ref (ad 23)), some (.ref (ad 22)), some (.int (ig)), some (.long (lN T)), none, some (.ref (ad qw)), some (.ref (ad qt)), some (.int (nI (all + 1))), some (.int (nI (i + 1))), some (.long (lN L)), none, some (.int (v12)), some (.int (nI (e)))] [] (n) ad (xs_mem G ad Y) (i + 1) (24 * i + 24) := by
        intro hyes k
        induction k with
        | zero =>
          intro e Y wf2 v12 he hF2 hw2
          have hn2 := ih (i + 1) Y wf2 _ (all + 1) (some (.long (lN L))) none (some (.int v12)) (some (.int (nI e))) (by omega) hF2 (by rw [hall, lr_cn_s, hyes]; rfl) (fun j hj => by
            rw [hw2 j hj, hwf j hj, lr_cn_s, hyes, hLL, Bool.true_and]
            congr 1
            by_cases z : L.testBit j = true
            · rw [if_pos ⟨by omega, z⟩, if_pos z]
            · rw [if_neg (fun q => z q.2), if_neg z]) rfl
          refine jq_iload dL_answers_145 rfl ?_
          refine jq_bipush (v := (nI 24)) dL_answers_147 (by decide) ?_
          refine jq_geN (tgt := 174) dL_answers_149 (by decide) ⟨by omega, by omega⟩ (fun c149 => ?_) (fun c149 => ?_)
          · refine jq_iincN dL_answers_174 (by decide) rfl rfl rfl ?_
            refine jq_goto (tgt := 33) dL_answers_177 (by decide) ?_
            exact hn2
          · exact absurd c149 (by omega)
        | succ k ihk =>
          intro e Y wf2 v12 he hF2 hw2
          obtain ⟨hBY, hMY, hNY, hzw, hzt⟩ := facts Y hF2.1
          have hie : vp_in (nI e) 24 := vp_inN (by omega) (by decide)
          refine jq_iload dL_answers_145 rfl ?_
          refine jq_bipush (v := (nI 24)) dL_answers_147 (by decide) ?_
          refine jq_geN (tgt := 174) dL_answers_149 (by decide) ⟨by omega, by omega⟩ (fun c149 => ?_) (fun c149 => ?_)
          · exact absurd c149 (by omega)
          · refine jq_aload dL_answers_152 rfl ?_
            refine jq_iload dL_answers_154 rfl ?_
            refine jq_dup2 dL_answers_156 rfl rfl ?_
            refine xq_iald dL_answers_157 (hzw) (hie) ((xs_rd (hF2.2.1 e (by omega)) (by omega))) ?_
            refine jq_lload dL_answers_158 rfl ?_
            refine jq_iload dL_answers_160 rfl ?_
            refine jq_lshr dL_answers_162 (lr_lsh (by omega) (by omega)) ?_
            refine jq_lconst (v := (lN 1)) dL_answers_163 (by decide) ?_
            refine jq_land dL_answers_164 ?_
            rw [lr_lb1 (by omega)]
            refine jq_l2i dL_answers_165 lr_l2i ?_
            refine jq_iaddN dL_answers_166 ?_
            refine xq_iast dL_answers_167 (hzw) (hie) ?_
            refine jq_iincN dL_answers_168 (by decide) rfl rfl rfl ?_
            refine jq_goto (tgt := 145) dL_answers_171 (by decide) ?_
            refine ihk (e + 1) _ (fun j => if j = e then wf2 e + (if L.testBit e = true then 1 else 0) else wf2 j) _ (by omega) ⟨xs_fr_ai hF2.1 (by simp), fun j hj => ?_, ?_⟩ (fun j hj => ?_)
            · rw [xs_ai_at]; show _ = nI (if j = e then wf2 e + (if L.testBit e = true then 1 else 0) else wf2 j); by_cases z : j = e
              · rw [if_pos z, z, xs_upd_at (by omega)]
              · rw [if_neg z, xs_upd_ne (by omega) z]; exact hF2.2.1 j hj
            · rw [xs_ai_ne (fun q => hne q.symm)]; exact hF2.2.2
            · by_cases z : j = e
              · rw [if_pos z, hw2 e (by omega), z, if_neg (fun q => by omega), Nat.add_zero]; congr 1; by_cases y : L.testBit e = true
                · rw [if_pos y, if_pos ⟨by omega, y⟩]
                · rw [if_neg y, if_neg (fun q => y q.2)]
              · rw [if_neg z, hw2 j hj]; congr 1; by_cases y : j < e ∧ L.testBit j = true
                · rw [if_pos y, if_pos ⟨by omega, y.2⟩]
                · rw [if_neg y, if_neg (fun q => y ⟨by omega, q.2⟩)]
      -- is it ahead?
      have s111 : lr_ok w h num mk ig (i + 1) = true → ∀ (o13 : Option Value), jq_J l G mL_answers (jq_R 5 511 12264) jq_E0 (xm_Ye G n ad (xs_pi (fun v X' => v = nI (lr_cn (lr_ok w h num mk ig) (2 ^ tb_nc w h - 1)) ∧ lr_FA qw qt X X' (fun e => lr_cn (fun S => lr_ok w h num mk ig S && (lr_li w h num mk S ig).testBit e) (2 ^ tb_nc w h - 1)) (lr_cn (fun S => lr_ok w h num mk ig S && lr_ah (lr_li w h num mk S ig) T) (2 ^ tb_nc w h - 1)))) 511 12264) 111 [some (.ref (ad 21)), some (.ref (ad 23)), some (.ref (ad 22)), some (.int (ig)), some (.long (lN T)), none, some (.ref (ad qw)), some (.ref (ad qt)), some (.int (nI (all + 1))), some (.int (nI (i + 1))), some (.long (lN L)), none, some (.int (nI (lr_fd L T))), o13] [] (n) ad (xs_mem G ad Y) (i + 1) (24 * i + 24) := by
        intro hyes o13
        have hfd : lr_fd L T ≤ 24 := fa_first_le _ _
        have s140 : ∀ (v : Nat), v = (if lr_ah L T = true then 1 else 0) → jq_J l G mL_answers (jq_R 5 511 12264) jq_E0 (xm_Ye G n ad (xs_pi (fun v X' => v = nI (lr_cn (lr_ok w h num mk ig) (2 ^ tb_nc w h - 1)) ∧ lr_FA qw qt X X' (fun e => lr_cn (fun S => lr_ok w h num mk ig S && (lr_li w h num mk S ig).testBit e) (2 ^ tb_nc w h - 1)) (lr_cn (fun S => lr_ok w h num mk ig S && lr_ah (lr_li w h num mk S ig) T) (2 ^ tb_nc w h - 1)))) 511 12264) 140 [some (.ref (ad 21)), some (.ref (ad 23)), some (.ref (ad 22)), some (.int (ig)), some (.long (lN T)), none, some (.ref (ad qw)), some (.ref (ad qt)), some (.int (nI (all + 1))), some (.int (nI (i + 1))), some (.long (lN L)), none, some (.int (nI (lr_fd L T))), o13] [.int (nI (v)), .int (nI (a)), .int (nI (3)), .ref (ad qt)] (n) ad (xs_mem G ad Y) (i + 1) (24 * i + 24) := by
          intro v hv
          refine jq_iaddN dL_answers_140 ?_
          refine xq_iast dL_answers_141 (hzt) (lr_t3) ?_
          refine jq_iconst (v := (nI 0)) dL_answers_142 (by decide) ?_
          refine jq_istore dL_answers_143 (by decide) rfl rfl ?_
          refine sK hyes 24 0 _ wf _ (by omega) ⟨xs_fr_ai hF.1 (by simp), fun j hj => ?_, ?_⟩ (fun j hj => by rw [if_neg (fun q => absurd q.1 (Nat.not_lt_zero j))]; rfl)
          · rw [xs_ai_ne hne]; exact hF.2.1 j hj
          · rw [xs_ai_at, xs_upd_at (by decide), lr_cn_s, hyes, Bool.true_and, hLL, ← ha, hv]
        refine jq_aload dL_answers_111 rfl ?_
        refine jq_iconst (v := (nI 3)) dL_answers_113 (by decide) ?_
        refine jq_dup2 dL_answers_114 rfl rfl ?_
        refine xq_iald dL_answers_115 (hzt) (lr_t3) ((xs_rd hF.2.2 (by decide))) ?_
        refine jq_iload dL_answers_116 rfl ?_
        refine jq_bipush (v := (nI 24)) dL_answers_118 (by decide) ?_
        refine jq_geN (tgt := 139) dL_answers_120 (by decide) ⟨by omega, by omega⟩ (fun c120 => ?_) (fun c120 => ?_)
        · have hv : 0 = (if lr_ah L T = true then 1 else 0) := by unfold lr_ah; rw [decide_eq_false (show ¬ lr_fd L T < 24 by omega)]; rfl
          refine jq_iconst (v := (nI 0)) dL_answers_139 (by decide) ?_
          exact s140 _ hv
        · refine jq_lload dL_answers_123 rfl ?_
          refine jq_iload dL_answers_125 rfl ?_
          refine jq_lshr dL_answers_127 (lr_lsh (by omega) (by omega)) ?_
          refine jq_lconst (v := (lN 1)) dL_answers_128 (by decide) ?_
          refine jq_land dL_answers_129 ?_
          rw [lr_lb1 (by omega)]
          refine jq_lconst (v := (lN 1)) dL_answers_130 (by decide) ?_
          refine jq_lcmp dL_answers_131 ?_
          refine jq_if_ne (tgt := 139) dL_answers_132 (by decide) (fun c132 => ?_) (fun c132 => ?_)
          · have hc := fun q => c132 ((dv_cmp lr_ilt (by decide)).mpr q)
            have hv : 0 = (if lr_ah L T = true then 1 else 0) := by unfold lr_ah; rw [lr_i0 hc, Bool.and_false]; rfl
            refine jq_iconst (v := (nI 0)) dL_answers_139 (by decide) ?_
            exact s140 _ hv
          · have hc := (dv_cmp lr_ilt (by decide)).mp c132
            have hv : 1 = (if lr_ah L T = true then 1 else 0) := by unfold lr_ah; rw [lr_i1 hc, decide_eq_true (show lr_fd L T < 24 by omega)]; rfl
            refine jq_iconst (v := (nI 1)) dL_answers_135 (by decide) ?_
            refine jq_goto (tgt := 140) dL_answers_136 (by decide) ?_
            exact s140 _ hv
      have sE : lr_ok w h num mk ig (i + 1) = true → ∀ (k e : Nat) (o13 : Option Value), e + k = 24 → (∀ j, j < e → L.testBit j = T.testBit j) → jq_J l G mL_answers (jq_R 5 511 12264) jq_E0 (xm_Ye G n ad (xs_pi (fun v X' => v = nI (lr_cn (lr_ok w h num mk ig) (2 ^ tb_nc w h - 1)) ∧ lr_FA qw qt X X' (fun e => lr_cn (fun S => lr_ok w h num mk ig S && (lr_li w h num mk S ig).testBit e) (2 ^ tb_nc w h - 1)) (lr_cn (fun S => lr_ok w h num mk ig S && lr_ah (lr_li w h num mk S ig) T) (2 ^ tb_nc w h - 1)))) 511 12264) 80 [some (.ref (ad 21)), some (.ref (ad 23)), some (.ref (ad 22)), some (.int (ig)), some (.long (lN T)), none, some (.ref (ad qw)), some (.ref (ad qt)), some (.int (nI (all + 1))), some (.int (nI (i + 1))), some (.long (lN L)), none, some (.int (nI (e))), o13] [] (n) ad (xs_mem G ad Y) (i + 1) (24 * i + 24) := by
        intro hyes k
        induction k with
        | zero =>
          intro e o13 he hs
          have hfd : lr_fd L T = e := by rw [show e = 24 by omega]; exact lr_first_none (fun j hj => by simp [hs j (by omega)])
          have hgo := s111 hyes o13
          rw [hfd] at hgo
          refine jq_iload dL_answers_80 rfl ?_
          refine jq_bipush (v := (nI 24)) dL_answers_82 (by decide) ?_
          refine jq_geN (tgt := 111) dL_answers_84 (by decide) ⟨by omega, by omega⟩ (fun c84 => ?_) (fun c84 => ?_)
          · exact hgo
          · exact absurd c84 (by omega)
        | succ k ihk =>
          intro e o13 he hs
          have next : L.testBit e = T.testBit e → ∀ j, j < e + 1 → L.testBit j = T.testBit j := by
            intro z j hj
            rcases Nat.lt_or_ge j e with q | q
            · exact hs j q
            · rw [show j = e by omega]; exact z
          have diff : L.testBit e ≠ T.testBit e → jq_J l G mL_answers (jq_R 5 511 12264) jq_E0 (xm_Ye G n ad (xs_pi (fun v X' => v = nI (lr_cn (lr_ok w h num mk ig) (2 ^ tb_nc w h - 1)) ∧ lr_FA qw qt X X' (fun e => lr_cn (fun S => lr_ok w h num mk ig S && (lr_li w h num mk S ig).testBit e) (2 ^ tb_nc w h - 1)) (lr_cn (fun S => lr_ok w h num mk ig S && lr_ah (lr_li w h num mk S ig) T) (2 ^ tb_nc w h - 1)))) 511 12264) 111 [some (.ref (ad 21)), some (.ref (ad 23)), some (.ref (ad 22)), some (.int (ig)), some (.long (lN T)), none, some (.ref (ad qw)), some (.ref (ad qt)), some (.int (nI (all + 1))), some (.int (nI (i + 1))), some (.long (lN L)), none, some (.int (nI (e))), o13] [] (n) ad (xs_mem G ad Y) (i + 1) (24 * i + 24) := by
            intro z
            have hfd : lr_fd L T = e := lr_first (by omega) (by simp [z]) (fun j hj => by simp [hs j hj])
            have hgo := s111 hyes o13
            rw [hfd] at hgo
            exact hgo
          refine jq_iload dL_answers_80 rfl ?_
          refine jq_bipush (v := (nI 24)) dL_answers_82 (by decide) ?_
          refine jq_geN (tgt := 111) dL_answers_84 (by decide) ⟨by omega, by omega⟩ (fun c84 => ?_) (fun c84 => ?_)
          · exact absurd c84 (by omega)
          · refine jq_lload dL_answers_87 rfl ?_
            refine jq_iload dL_answers_89 rfl ?_
            refine jq_lshr dL_answers_91 (lr_lsh (by omega) (by omega)) ?_
            refine jq_lconst (v := (lN 1)) dL_answers_92 (by decide) ?_
            refine jq_land dL_answers_93 ?_
            rw [lr_lb1 (by omega)]
            refine jq_lload dL_answers_94 rfl ?_
            refine jq_iload dL_answers_96 rfl ?_
            refine jq_lshr dL_answers_98 (lr_lsh (by omega) (by omega)) ?_
            refine jq_lconst (v := (lN 1)) dL_answers_99 (by decide) ?_
            refine jq_land dL_answers_100 ?_
            rw [lr_lb1 (by omega)]
            refine jq_lcmp dL_answers_101 ?_
            refine jq_if_ne (tgt := 111) dL_answers_102 (by decide) (fun c102 => ?_) (fun c102 => ?_)
            · have hd2 := diff (fun q => c102 ((dv_cmp lr_ilt lr_ilt).mpr (lr_ieq.mpr q)))
              exact hd2
            · have hn2 := next (lr_ieq.mp ((dv_cmp lr_ilt lr_ilt).mp c102))
              refine jq_iincN dL_answers_105 (by decide) rfl rfl rfl ?_
              refine jq_goto (tgt := 80) dL_answers_108 (by decide) ?_
              exact ihk (e + 1) _ (by omega) hn2
      have hB := hBY
      refine jq_iload dL_answers_33 rfl ?_
      refine jq_iconst (v := (nI 1)) dL_answers_35 (by decide) ?_
      refine jq_aload_n dL_answers_36 rfl rfl ?_
      refine jq_iconst (v := (nI 0)) dL_answers_37 (by decide) ?_
      refine xq_iald dL_answers_38 hB.1 lr_v0 hB.2.1 ?_
      refine jq_aload_n dL_answers_39 rfl rfl ?_
      refine jq_iconst (v := (nI 1)) dL_answers_40 (by decide) ?_
      refine xq_iald dL_answers_41 hB.1 lr_v1 hB.2.2.1 ?_
      refine jq_imulN dL_answers_42 ?_
      refine jq_ishl dL_answers_43 (lr_shl1 (by omega)) ?_
      refine jq_geN (tgt := 180) dL_answers_44 (by decide) ⟨by omega, by rw [show w * h = tb_nc w h from rfl]; omega⟩ (fun c44 => ?_) (fun c44 => ?_)
      · exact absurd c44 (by rw [show w * h = tb_nc w h from rfl]; omega)
      · refine jq_aload_n dL_answers_47 rfl rfl ?_
        refine jq_aload_n dL_answers_48 rfl rfl ?_
        refine jq_aload_n dL_answers_49 rfl rfl ?_
        refine jq_iload dL_answers_50 rfl ?_
        refine jq_iload_n dL_answers_52 rfl rfl ?_
        refine xm_dL dL_answers_53 kL_75 (hLL ▸ c_L_lines hBY hMY hNY hSl ig) rfl rfl (Nat.le_of_ble_eq_true rfl) (⟨⟨by decide, by decide⟩, by show i + 1 ≤ 511; omega, by show 24 * i + 24 ≤ 12264; omega⟩) ?_
        refine jq_lstore dL_answers_56 (by decide) rfl rfl ?_
        refine jq_lload dL_answers_58 rfl ?_
        refine jq_lconst (v := (lN 0)) dL_answers_60 (by decide) ?_
        refine jq_lcmp dL_answers_61 ?_
        refine jq_if_eq (tgt := 174) dL_answers_62 (by decide) (fun c62 => ?_) (fun c62 => ?_)
        · have hL0 := (dv_cmp (by omega) (by decide)).mp c62
          have hno : lr_ok w h num mk ig (i + 1) = false := by unfold lr_ok; rw [hLL, hL0]; rfl
          exact sN hno _ _
        · have hL0 : ¬ L = 0 := fun q => c62 ((dv_cmp (by omega) (by decide)).mpr q)
          refine jq_aload_n dL_answers_65 rfl rfl ?_
          refine jq_iload dL_answers_66 rfl ?_
          refine xq_sI dL_answers_68 kL_79 (c_L_isArea hBY hSl) rfl rfl (Nat.le_of_ble_eq_true rfl) (⟨⟨by decide, by decide⟩, by show i + 1 ≤ 511; omega, by show 24 * i + 24 ≤ 12264; omega⟩) ?_
          refine jq_if_eq (tgt := 174) dL_answers_71 (by decide) (fun c71 => ?_) (fun c71 => ?_)
          · have hno : lr_ok w h num mk ig (i + 1) = false := by unfold lr_ok; rw [tb_b0.mp c71, Bool.and_false]
            exact sN hno _ _
          · have hyes : lr_ok w h num mk ig (i + 1) = true := by unfold lr_ok; rw [tb_b1.mp c71, hLL, show (L == 0) = false from beq_eq_false_iff_ne.mpr hL0]; rfl
            refine jq_iincN dL_answers_74 (by decide) rfl rfl rfl ?_
            refine jq_iconst (v := (nI 0)) dL_answers_77 (by decide) ?_
            refine jq_istore dL_answers_78 (by decide) rfl rfl ?_
            exact sE hyes 24 0 _ (by omega) (fun j hj => absurd hj (Nat.not_lt_zero j))
  have loop0 : ∀ (k e : Nat) (Y : xs_T) (g : Nat → Nat) (o10 o11 o12 o13 : Option Value), e + k = 24 → xs_fr [qw, qt] [] X Y → Y.2.2.1 qt 3 = nI 0 → (∀ j, j < e → Y.2.2.1 qw j = nI 0) → jq_J l G mL_answers (jq_R 5 511 12264) jq_E0 (xm_Ye G n ad (xs_pi (fun v X' => v = nI (lr_cn (lr_ok w h num mk ig) (2 ^ tb_nc w h - 1)) ∧ lr_FA qw qt X X' (fun e => lr_cn (fun S => lr_ok w h num mk ig S && (lr_li w h num mk S ig).testBit e) (2 ^ tb_nc w h - 1)) (lr_cn (fun S => lr_ok w h num mk ig S && lr_ah (lr_li w h num mk S ig) T) (2 ^ tb_nc w h - 1)))) 511 12264) 11 [some (.ref (ad 21)), some (.ref (ad 23)), some (.ref (ad 22)), some (.int (ig)), some (.long (lN T)), none, some (.ref (ad qw)), some (.ref (ad qt)), some (.int (nI (0))), some (.int (nI (e))), o10, o11, o12, o13] [] (n) ad (xs_mem G ad Y) (0) (0) := by
    intro k
    induction k with
    | zero =>
      intro e Y g o10 o11 o12 o13 he hf h3 hw0
      refine jq_iload dL_answers_11 rfl ?_
      refine jq_bipush (v := (nI 24)) dL_answers_13 (by decide) ?_
      refine jq_geN (tgt := 30) dL_answers_15 (by decide) ⟨by omega, by omega⟩ (fun c15 => ?_) (fun c15 => ?_)
      · refine jq_iconst (v := (nI 1)) dL_answers_30 (by decide) ?_
        refine jq_istore dL_answers_31 (by decide) rfl rfl ?_
        exact loop (2 ^ tb_nc w h - 1) 0 Y (fun _ => 0) 0 0 _ _ _ _ (by omega) ⟨hf, fun j hj => hw0 j (by omega), h3⟩ rfl (fun e he => rfl) rfl
      · exact absurd c15 (by omega)
    | succ k ih =>
      intro e Y g o10 o11 o12 o13 he hf h3 hw0
      obtain ⟨hBY, hMY, hNY, hzw, hzt⟩ := facts Y hf
      have hie : vp_in (nI e) 24 := vp_inN (by omega) (by decide)
      refine jq_iload dL_answers_11 rfl ?_
      refine jq_bipush (v := (nI 24)) dL_answers_13 (by decide) ?_
      refine jq_geN (tgt := 30) dL_answers_15 (by decide) ⟨by omega, by omega⟩ (fun c15 => ?_) (fun c15 => ?_)
      · exact absurd c15 (by omega)
      · refine jq_aload dL_answers_18 rfl ?_
        refine jq_iload dL_answers_20 rfl ?_
        refine jq_iconst (v := (nI 0)) dL_answers_22 (by decide) ?_
        refine xq_iast dL_answers_23 (hzw) (hie) ?_
        refine jq_iincN dL_answers_24 (by decide) rfl rfl rfl ?_
        refine jq_goto (tgt := 11) dL_answers_27 (by decide) ?_
        refine ih (e + 1) _ g _ _ _ _ (by omega) (xs_fr_ai hf (by simp)) (by rw [xs_ai_ne (fun q => hne q.symm)]; exact h3) (fun j hj => ?_)
        rw [xs_ai_at]
        rcases Nat.lt_or_ge j e with q | q
        · rw [xs_upd_ne (by omega) (by omega)]; exact hw0 j q
        · rw [show j = e by omega, xs_upd_at (by omega)]
  obtain ⟨hBX, hMX, hNX, hzw, hzt⟩ := facts X xs_fr_rf
  refine xm_Ct_of (L := [some (.ref (ad 21)), some (.ref (ad 23)), some (.ref (ad 22)), some (.int ig), some (.long (lN T)), none, some (.ref (ad qw)), some (.ref (ad qt)), none, none, none, none, none, none]) rfl (Nat.le_of_ble_eq_true rfl) rfl ?_
  refine jq_iconst (v := (nI 0)) dL_answers_0 (by decide) ?_
  refine jq_istore dL_answers_1 (by decide) rfl rfl ?_
  refine jq_aload dL_answers_3 rfl ?_
  refine jq_iconst (v := (nI 3)) dL_answers_5 (by decide) ?_
  refine jq_iconst (v := (nI 0)) dL_answers_6 (by decide) ?_
  refine xq_iast dL_answers_7 (hzt) (lr_t3) ?_
  refine jq_iconst (v := (nI 0)) dL_answers_8 (by decide) ?_
  refine jq_istore dL_answers_9 (by decide) rfl rfl ?_
  exact loop0 24 0 _ (fun _ => 0) _ _ _ _ (by omega) (xs_fr_ai xs_fr_rf (by simp)) (by rw [xs_ai_at, xs_upd_at (by decide)]) (fun j hj => absurd hj (Nat.not_lt_zero j))
