/-! the law's lines around a set, and its answers, walked -/
theorem lr_lsh {L e : Nat} (hL : L < 2 ^ 63) (he : e < 64) : lN L >>> ((nI e).toInt64 &&& 63) = lN (L / 2 ^ e) := by
  rw [wb_c e he]
  apply Int64.toBitVec_inj.mp
  rw [Int64.toBitVec_shiftRight]
  show (BitVec.ofNat 64 L).sshiftRight' ((BitVec.ofNat 64 e).smod 64) = BitVec.ofNat 64 (L / 2 ^ e)
  have h3 : (BitVec.ofNat 64 L).toNat = L := by rw [BitVec.toNat_ofNat, Nat.mod_eq_of_lt (by omega)]
  have h4 : (BitVec.ofNat 64 e).toNat = e := by rw [BitVec.toNat_ofNat, Nat.mod_eq_of_lt (by omega)]
  have h5 : (BitVec.ofNat 64 L).msb = false := by
    rw [BitVec.msb_eq_false_iff_two_mul_lt, h3]
    omega
  rw [wb_sm e he, BitVec.sshiftRight_eq', h4, BitVec.sshiftRight_eq_of_msb_false h5]
  apply BitVec.eq_of_toNat_eq
  rw [BitVec.toNat_ushiftRight, h3, BitVec.toNat_ofNat, Nat.shiftRight_eq_div_pow, Nat.mod_eq_of_lt (Nat.lt_of_le_of_lt (Nat.div_le_self _ _) (by omega))]
theorem lr_lb1 {L e : Nat} (hL : L < 2 ^ 63) : lN (L / 2 ^ e) &&& lN 1 = lN (if L.testBit e = true then 1 else 0) := by
  have h := wb_mask (n := L / 2 ^ e) (k := 1) (Nat.lt_of_le_of_lt (Nat.div_le_self _ _) (by omega)) (by decide)
  rw [show lN 1 = lN (2 ^ 1 - 1) from rfl, h]
  congr 1
  rw [Nat.testBit_eq_decide_div_mod_eq]
  have : L / 2 ^ e % 2 < 2 := Nat.mod_lt _ (by decide)
  by_cases q : L / 2 ^ e % 2 = 1
  · simp [q]
  · simp [q]; omega
theorem lr_ieq {a b : Bool} : (if a = true then 1 else 0) = (if b = true then 1 else 0) ↔ a = b := by cases a <;> cases b <;> simp
theorem lr_bm_s (p : Nat → Bool) (e : Nat) : bm p (e + 1) = bm p e ||| (if p e = true then 2 ^ e else 0) := by
  apply Nat.eq_of_testBit_eq
  intro i
  rw [Nat.testBit_or, bm_bit, bm_bit]
  by_cases z : i = e
  · subst z
    cases hp : p i <;> simp [hp]
  · have h1 : decide (i < e + 1) = decide (i < e) := by rw [Bool.eq_iff_iff, decide_eq_true_eq, decide_eq_true_eq]; omega
    rw [h1]
    split
    · rw [Nat.testBit_two_pow, show decide (e = i) = false from decide_eq_false (fun q => z q.symm), Bool.or_false]
    · simp
theorem lr_cut_id {X Y : xs_T} {n : Nat} (h : xs_fr [n] [(n, 0)] X Y) : lr_cut X Y n = X := by
  have a1 : ∀ q k, q < n → Y.1 q k = X.1 q k ∧ Y.2.1 q k = X.2.1 q k := fun q k hq => h.1 q k (fun z => by simp at z; omega)
  have a2 : ∀ q, q < n → Y.2.2.1 q = X.2.2.1 q ∧ Y.2.2.2 q = X.2.2.2 q := fun q hq => h.2 q (fun z => by simp at z; omega)
  unfold lr_cut
  refine Prod.ext ?_ (Prod.ext ?_ (Prod.ext ?_ ?_))
  · funext q k
    show (if q < n then _ else _) = _
    split
    · rename_i z; exact (a1 q k z).1
    · rfl
  · funext q k
    show (if q < n then _ else _) = _
    split
    · rename_i z; exact (a1 q k z).2
    · rfl
  · funext q
    show (if q < n then _ else _) = _
    split
    · rename_i z; exact (a2 q z).1
    · rfl
  · funext q
    show (if q < n then _ else _) = _
    split
    · rename_i z; exact (a2 q z).2
    · rfl
def lr_li (w h : Nat) (num : Nat → Int32) (mk : Nat → Nat) (S : Nat) (ig : Int32) : Nat := if ((List.range (tb_ne w h)).all (fun e => mk e == 0 || mk e == lr_sS (dv_bd w h S) e) && lr_rt w h num (lr_sS (dv_bd w h S)) ig) = true then dv_bd w h S else 0
theorem lr_sS_le (S e : Nat) : lr_sS S e ≤ 2 := by unfold lr_sS; split <;> omega
section XD
variable {l : Launch} {G : jq_G} {M M' : jq_M} {R : Room} {Ex : jq_E} {Y : jq_Y} {pc d d' idx na mc ms mc' ms' : Nat} {L : jq_L} {st As rest av : List Value} {n : Nat} {ad : Nat → Nat} {X X2 : xs_T} {cells slots : Nat}
theorem xm_dL (hd : decode M.2.1 pc = .ok (.invokestatic idx, 3)) (F : jq_LS M.1.cls idx M' na) {v : Int64} (hCt : xm_Ct l G M' d' mc' ms' As n ad X (xs_pd (some (.long v)) X2)) (hn : As.length = na) (hst : st = As.reverse ++ rest) (hw : (rest.map fun v => v.category).sum ≤ 8) (hf : jq_fit R M' d' mc' ms' cells slots)
    (k : jq_J l G M R Ex Y (pc + 3) L (.long v :: rest) n ad (xs_mem G ad X2) (cells + mc') (slots + ms')) : jq_J l G M R Ex Y pc L st n ad (xs_mem G ad X) cells slots :=
  xm_invS hd F hCt hn hst hw hf (fun r X' h => by obtain ⟨rfl, rfl⟩ := h; exact k)
end XD
set_option maxHeartbeats 16000000 in
theorem c_L_lines {l : Launch} {G : jq_G} {n : Nat} {ad : Nat → Nat} {X : xs_T} {w h : Nat} {num : Nat → Int32} {mk : Nat → Nat} (hB : lr_B n w h X) (hM : lr_S n w h 23 mk X) (hN : lr_N n w h num X) {S : Nat} (hS : S < 2 ^ tb_nc w h) (ig : Int32) : xm_Ct l G mL_lines 4 1 24 [.ref (ad 21), .ref (ad 23), .ref (ad 22), .int (nI (S)), .int (ig)] n ad X (xs_pd (some (.long (lN (lr_li w h num mk S ig)))) X) := by
  have hk := hB.2.2.2
  have hz := lr_sz hk
  have hSl : S < 2 ^ 9 := Nat.lt_of_lt_of_le hS (Nat.pow_le_pow_right (by decide) (by omega))
  have hn23 : 23 < n := hM.1.1
  refine xm_Ct_of (L := [some (.ref (ad 21)), some (.ref (ad 23)), some (.ref (ad 22)), some (.int (nI S)), some (.int ig), none, none, none, none, none]) rfl (Nat.le_of_ble_eq_true rfl) rfl ?_
  refine jq_bipush (v := (nI 24)) dL_lines_0 (by decide) ?_
  refine xm_newI dL_lines_2 (by omega) (by decide) ⟨by decide, by decide⟩ (fun ad1 ha1 => ?_)
  rw [← ha1 21 (by omega), ← ha1 23 (by omega), ← ha1 22 (by omega)]
  have hbd : dv_bd w h S = bm (fun e => S.testBit (tb_are w h e) != S.testBit (tb_bes w h e)) (tb_ne w h) := rfl
  have hbl : ∀ e, e ≤ 24 → bm (fun e => S.testBit (tb_are w h e) != S.testBit (tb_bes w h e)) e < 2 ^ 24 := fun e he => Nat.lt_of_lt_of_le (bm_lt _ _) (Nat.pow_le_pow_right (by decide) he)
  have facts : ∀ Y : xs_T, xs_fr [n] [(n, 0)] X Y → Y.1 n 0 = nI 24 → lr_B (n + 1) w h Y ∧ lr_S (n + 1) w h 23 mk Y ∧ lr_N (n + 1) w h num Y ∧ (n < n + 1 ∧ 21 ≤ n ∧ (Y.1 n 0).toNatClampNeg = 24) := by
    intro Y hf hz24
    have e1 : ∀ q, q < n → Y.2.2.1 q = X.2.2.1 q := fun q hq => (hf.2 q (fun z => by simp at z; omega)).1
    have e2 : ∀ q, q < n → Y.1 q 0 = X.1 q 0 := fun q hq => (hf.1 q 0 (fun z => by simp at z; omega)).1
    refine ⟨⟨⟨by omega, by decide, by rw [e2 21 (by omega)]; exact hB.1.2.2⟩, by rw [e1 21 (by omega)]; exact hB.2.1, by rw [e1 21 (by omega)]; exact hB.2.2.1, hk⟩, ⟨⟨by omega, by decide, by rw [e2 23 (by omega)]; exact hM.1.2.2⟩, fun c hc => by rw [e1 23 (by omega)]; exact hM.2 c hc⟩, ⟨⟨by omega, by decide, by rw [e2 22 (by omega)]; exact hN.1.2.2⟩, fun c hc => by rw [e1 22 (by omega)]; exact hN.2 c hc⟩, by omega, by omega, by rw [hz24]; decide⟩
  have loop : ∀ (k e : Nat) (Y : xs_T) (o9 : Option Value), e + k = tb_ne w h → xs_fr [n] [(n, 0)] X Y → Y.1 n 0 = nI 24 → (∀ j, j < e → Y.2.2.1 n j = nI (lr_sS (dv_bd w h S) j)) → (∀ j, j < e → (mk j == 0 || mk j == lr_sS (dv_bd w h S) j) = true) → jq_J l G mL_lines (jq_R 4 1 24) jq_E0 (xm_Ye G n ad (xs_pd (some (.long (lN (lr_li w h num mk S ig)))) X) 1 24) 12 [some (.ref (ad1 21)), some (.ref (ad1 23)), some (.ref (ad1 22)), some (.int (nI (S))), some (.int (ig)), some (.ref (ad1 n)), some (.long (lN (bm (fun e => S.testBit (tb_are w h e) != S.testBit (tb_bes w h e)) e))), none, some (.int (nI (e))), o9] [] (n + 1) ad1 (xs_mem G ad1 Y) (1) (24) := by
    intro k
    induction k with
    | zero =>
      intro e Y o9 he hf hz24 hst hc
      obtain ⟨hBY, hMY, hNY, hzn⟩ := facts Y hf hz24
      have e1 : e = tb_ne w h := by omega
      subst e1
      have hSY : lr_S (n + 1) w h n (lr_sS (dv_bd w h S)) Y := ⟨hzn, fun j hj => ⟨xs_rd (hst j hj) (by omega), lr_sS_le _ _⟩⟩
      have hall : (List.range (tb_ne w h)).all (fun e => mk e == 0 || mk e == lr_sS (dv_bd w h S) e) = true := tb_allT hc
      refine jq_iload dL_lines_12 rfl ?_
      refine jq_aload_n dL_lines_14 rfl rfl ?_
      refine xq_sI dL_lines_15 kL_32 (c_L_edges hBY) rfl rfl (Nat.le_of_ble_eq_true rfl) ⟨⟨by decide, by decide⟩, by decide, by decide⟩ ?_
      refine jq_geN (tgt := 111) dL_lines_18 (by decide) ⟨by omega, by omega⟩ (fun c18 => ?_) (fun c18 => ?_)
      · refine jq_aload_n dL_lines_111 rfl rfl ?_
        refine jq_aload dL_lines_112 rfl ?_
        refine jq_aload_n dL_lines_114 rfl rfl ?_
        refine jq_iload dL_lines_115 rfl ?_
        refine xq_sI dL_lines_117 kL_55 (c_L_areRight hBY hSY hNY ig) rfl rfl (Nat.le_of_ble_eq_true rfl) ⟨⟨by decide, by decide⟩, by decide, by decide⟩ ?_
        refine jq_if_eq (tgt := 128) dL_lines_120 (by decide) (fun c120 => ?_) (fun c120 => ?_)
        · have hres : lN 0 = lN (lr_li w h num mk S ig) := by unfold lr_li; rw [hall, tb_b0.mp c120]; rfl
          refine jq_lconst (v := (lN 0)) dL_lines_128 (by decide) ?_
          exact xm_cut2 (X := X) (by omega) (by omega) ha1 (by rw [lr_cut_id hf]; exact jq_lreturn dL_lines_129 rfl (by decide) (by decide) ⟨rfl, rfl, X, rfl, by rw [hres], rfl⟩)
        · have hres : lN (bm (fun e => S.testBit (tb_are w h e) != S.testBit (tb_bes w h e)) (tb_ne w h)) = lN (lr_li w h num mk S ig) := by unfold lr_li; rw [hall, tb_b1.mp c120]; rfl
          refine jq_lload dL_lines_123 rfl ?_
          refine jq_goto (tgt := 129) dL_lines_125 (by decide) ?_
          exact xm_cut2 (X := X) (by omega) (by omega) ha1 (by rw [lr_cut_id hf]; exact jq_lreturn dL_lines_129 rfl (by decide) (by decide) ⟨rfl, rfl, X, rfl, by rw [hres], rfl⟩)
      · exact absurd c18 (by omega)
    | succ k ih =>
      intro e Y o9 he hf hz24 hst hc
      have hee : e < tb_ne w h := by omega
      have hq := lr_ends hk hee
      have hi : vp_in (nI e) 24 := vp_inN (by omega) (by decide)
      obtain ⟨hBY, hMY, hNY, hzn⟩ := facts Y hf hz24
      have hbit : (dv_bd w h S).testBit e = (S.testBit (tb_are w h e) != S.testBit (tb_bes w h e)) := dv_bd_bit hee
      have s84 : ∀ (Y : xs_T) (o9 : Option Value), xs_fr [n] [(n, 0)] X Y → Y.1 n 0 = nI 24 → (∀ j, j < e + 1 → Y.2.2.1 n j = nI (lr_sS (dv_bd w h S) j)) → jq_J l G mL_lines (jq_R 4 1 24) jq_E0 (xm_Ye G n ad (xs_pd (some (.long (lN (lr_li w h num mk S ig)))) X) 1 24) 84 [some (.ref (ad1 21)), some (.ref (ad1 23)), some (.ref (ad1 22)), some (.int (nI (S))), some (.int (ig)), some (.ref (ad1 n)), some (.long (lN (bm (fun e => S.testBit (tb_are w h e) != S.testBit (tb_bes w h e)) (e + 1)))), none, some (.int (nI (e))), o9] [] (n + 1) ad1 (xs_mem G ad1 Y) (1) (24) := by
        intro Y o9 hf hz24 hst
        obtain ⟨hBY, hMY, hNY, hzn⟩ := facts Y hf hz24
        have hm2 := (hM.2 e hee).2
        have hs2 := lr_sS_le (dv_bd w h S) e
        have next : (mk e == 0 || mk e == lr_sS (dv_bd w h S) e) = true → ∀ j, j < e + 1 → (mk j == 0 || mk j == lr_sS (dv_bd w h S) j) = true := by
          intro z j hj
          rcases Nat.lt_or_ge j e with q | q
          · exact hc j q
          · rw [show j = e by omega]; exact z
        refine jq_aload_n dL_lines_84 rfl rfl ?_
        refine jq_iload dL_lines_85 rfl ?_
        refine xq_iald dL_lines_87 (hMY.1) (hi) ((hMY.2 e hee).1) ?_
        refine jq_eqZ (tgt := 105) dL_lines_88 (by decide) (by omega) (fun c88 => ?_) (fun c88 => ?_)
        · have hn2 := next (by rw [c88]; rfl)
          refine jq_iincN dL_lines_105 (by decide) rfl rfl rfl ?_
          refine jq_goto (tgt := 12) dL_lines_108 (by decide) ?_
          exact ih (e + 1) Y _ (by omega) hf hz24 hst hn2
        · refine jq_aload_n dL_lines_91 rfl rfl ?_
          refine jq_iload dL_lines_92 rfl ?_
          refine xq_iald dL_lines_94 (hMY.1) (hi) ((hMY.2 e hee).1) ?_
          refine jq_aload dL_lines_95 rfl ?_
          refine jq_iload dL_lines_97 rfl ?_
          refine xq_iald dL_lines_99 (hzn) (hi) ((xs_rd (hst e (by omega)) (by omega))) ?_
          refine jq_eqN (tgt := 105) dL_lines_100 (by decide) ⟨by omega, by omega⟩ (fun c100 => ?_) (fun c100 => ?_)
          · have hn2 := next (by rw [c100]; simp)
            refine jq_iincN dL_lines_105 (by decide) rfl rfl rfl ?_
            refine jq_goto (tgt := 12) dL_lines_108 (by decide) ?_
            exact ih (e + 1) Y _ (by omega) hf hz24 hst hn2
          · have hres : lN 0 = lN (lr_li w h num mk S ig) := by unfold lr_li; rw [tb_allF hee (by rw [show (mk e == 0) = false from beq_eq_false_iff_ne.mpr c88, show (mk e == lr_sS (dv_bd w h S) e) = false from beq_eq_false_iff_ne.mpr c100]; rfl)]; rfl
            refine jq_lconst (v := (lN 0)) dL_lines_103 (by decide) ?_
            exact xm_cut2 (X := X) (by omega) (by omega) ha1 (by rw [lr_cut_id hf]; exact jq_lreturn dL_lines_104 rfl (by decide) (by decide) ⟨rfl, rfl, X, rfl, by rw [hres], rfl⟩)
      have row : ∀ (v : Nat), v = lr_sS (dv_bd w h S) e → ∀ j, j < e + 1 → (xs_ai Y n (upd (Y.2.2.1 n) (nI e).toNatClampNeg (nI v))).2.2.1 n j = nI (lr_sS (dv_bd w h S) j) := by
        intro v hv j hj
        rw [xs_ai_at]
        rcases Nat.lt_or_ge j e with q | q
        · rw [xs_upd_ne (by omega) (by omega)]; exact hst j q
        · rw [show j = e by omega, xs_upd_at (by omega), hv]
      have s51y : (S.testBit (tb_are w h e) != S.testBit (tb_bes w h e)) = true → jq_J l G mL_lines (jq_R 4 1 24) jq_E0 (xm_Ye G n ad (xs_pd (some (.long (lN (lr_li w h num mk S ig)))) X) 1 24) 51 [some (.ref (ad1 21)), some (.ref (ad1 23)), some (.ref (ad1 22)), some (.int (nI (S))), some (.int (ig)), some (.ref (ad1 n)), some (.long (lN (bm (fun e => S.testBit (tb_are w h e) != S.testBit (tb_bes w h e)) e))), none, some (.int (nI (e))), some (.int (nI (1)))] [] (n + 1) ad1 (xs_mem G ad1 Y) (1) (24) := by
        intro hp
        have hb1 : bm (fun e => S.testBit (tb_are w h e) != S.testBit (tb_bes w h e)) e ||| 1 * 2 ^ e = bm (fun e => S.testBit (tb_are w h e) != S.testBit (tb_bes w h e)) (e + 1) := by rw [lr_bm_s]; simp only [hp, if_true, Nat.one_mul]
        have hbe := hbl e (by omega)
        have hpe : 1 * 2 ^ e < 2 ^ 24 := by rw [Nat.one_mul]; exact lr_pw (by omega)
        refine jq_aload dL_lines_51 rfl ?_
        refine jq_iload dL_lines_53 rfl ?_
        refine jq_iload dL_lines_55 rfl ?_
        refine jq_eqZ (tgt := 64) dL_lines_57 (by decide) (by decide) (fun c57 => ?_) (fun c57 => ?_)
        · exact absurd c57 (by decide)
        · refine jq_iconst (v := (nI 1)) dL_lines_60 (by decide) ?_
          refine jq_goto (tgt := 65) dL_lines_61 (by decide) ?_
          refine xq_iast dL_lines_65 (hzn) (hi) ?_
          refine jq_lload dL_lines_66 rfl ?_
          refine jq_iload dL_lines_68 rfl ?_
          refine jq_eqZ (tgt := 80) dL_lines_70 (by decide) (by decide) (fun c70 => ?_) (fun c70 => ?_)
          · exact absurd c70 (by decide)
          · refine jq_lconst (v := (lN 1)) dL_lines_73 (by decide) ?_
            refine jq_iload dL_lines_74 rfl ?_
            refine jq_lshl dL_lines_76 (wb_shl 1 (by omega)) ?_
            refine jq_goto (tgt := 81) dL_lines_77 (by decide) ?_
            refine jq_lor dL_lines_81 ?_
            rw [wb_or (by omega) (by omega), hb1]
            refine jq_lstore dL_lines_82 (by decide) rfl rfl ?_
            exact s84 _ _ (xs_fr_ai hf (by simp)) hz24 (row 1 (by unfold lr_sS; rw [hbit, hp]; rfl))
      have s51n : (S.testBit (tb_are w h e) != S.testBit (tb_bes w h e)) = false → jq_J l G mL_lines (jq_R 4 1 24) jq_E0 (xm_Ye G n ad (xs_pd (some (.long (lN (lr_li w h num mk S ig)))) X) 1 24) 51 [some (.ref (ad1 21)), some (.ref (ad1 23)), some (.ref (ad1 22)), some (.int (nI (S))), some (.int (ig)), some (.ref (ad1 n)), some (.long (lN (bm (fun e => S.testBit (tb_are w h e) != S.testBit (tb_bes w h e)) e))), none, some (.int (nI (e))), some (.int (nI (0)))] [] (n + 1) ad1 (xs_mem G ad1 Y) (1) (24) := by
        intro hp
        have hb1 : bm (fun e => S.testBit (tb_are w h e) != S.testBit (tb_bes w h e)) e ||| 0 = bm (fun e => S.testBit (tb_are w h e) != S.testBit (tb_bes w h e)) (e + 1) := by rw [lr_bm_s, hp]; rfl
        have hbe := hbl e (by omega)
        refine jq_aload dL_lines_51 rfl ?_
        refine jq_iload dL_lines_53 rfl ?_
        refine jq_iload dL_lines_55 rfl ?_
        refine jq_eqZ (tgt := 64) dL_lines_57 (by decide) (by decide) (fun c57 => ?_) (fun c57 => ?_)
        · refine jq_iconst (v := (nI 2)) dL_lines_64 (by decide) ?_
          refine xq_iast dL_lines_65 (hzn) (hi) ?_
          refine jq_lload dL_lines_66 rfl ?_
          refine jq_iload dL_lines_68 rfl ?_
          refine jq_eqZ (tgt := 80) dL_lines_70 (by decide) (by decide) (fun c70 => ?_) (fun c70 => ?_)
          · refine jq_lconst (v := (lN 0)) dL_lines_80 (by decide) ?_
            refine jq_lor dL_lines_81 ?_
            rw [wb_or (by omega) (by omega), hb1]
            refine jq_lstore dL_lines_82 (by decide) rfl rfl ?_
            exact s84 _ _ (xs_fr_ai hf (by simp)) hz24 (row 2 (by unfold lr_sS; rw [hbit, hp]; rfl))
          · exact absurd rfl c70
        · exact absurd rfl c57
      refine jq_iload dL_lines_12 rfl ?_
      refine jq_aload_n dL_lines_14 rfl rfl ?_
      refine xq_sI dL_lines_15 kL_32 (c_L_edges hBY) rfl rfl (Nat.le_of_ble_eq_true rfl) ⟨⟨by decide, by decide⟩, by decide, by decide⟩ ?_
      refine jq_geN (tgt := 111) dL_lines_18 (by decide) ⟨by omega, by omega⟩ (fun c18 => ?_) (fun c18 => ?_)
      · exact absurd c18 (by omega)
      · refine jq_iload_n dL_lines_21 rfl rfl ?_
        refine jq_aload_n dL_lines_22 rfl rfl ?_
        refine jq_iload dL_lines_23 rfl ?_
        refine xq_sI dL_lines_25 kL_39 (c_L_ahead hBY hee) rfl rfl (Nat.le_of_ble_eq_true rfl) ⟨⟨by decide, by decide⟩, by decide, by decide⟩ ?_
        refine jq_ishr dL_lines_28 (lr_shr (by omega) (by omega)) ?_
        refine jq_iconst (v := (nI 1)) dL_lines_29 (by decide) ?_
        refine jq_iand dL_lines_30 ?_
        rw [lr_tb1]
        refine jq_iload_n dL_lines_31 rfl rfl ?_
        refine jq_aload_n dL_lines_32 rfl rfl ?_
        refine jq_iload dL_lines_33 rfl ?_
        refine xq_sI dL_lines_35 kL_42 (c_L_behind hBY hee) rfl rfl (Nat.le_of_ble_eq_true rfl) ⟨⟨by decide, by decide⟩, by decide, by decide⟩ ?_
        refine jq_ishr dL_lines_38 (lr_shr (by omega) (by omega)) ?_
        refine jq_iconst (v := (nI 1)) dL_lines_39 (by decide) ?_
        refine jq_iand dL_lines_40 ?_
        rw [lr_tb1]
        refine jq_eqN (tgt := 48) dL_lines_41 (by decide) ⟨lr_ile, lr_ile⟩ (fun c41 => ?_) (fun c41 => ?_)
        · have hgo := s51n (by rw [lr_ieq.mp c41]; simp)
          refine jq_iconst (v := (nI 0)) dL_lines_48 (by decide) ?_
          refine jq_istore dL_lines_49 (by decide) rfl rfl ?_
          exact hgo
        · have hgo := s51y (by have c := fun q => c41 (lr_ieq.mpr q); revert c; cases S.testBit (tb_are w h e) <;> cases S.testBit (tb_bes w h e) <;> simp)
          refine jq_iconst (v := (nI 1)) dL_lines_44 (by decide) ?_
          refine jq_goto (tgt := 49) dL_lines_45 (by decide) ?_
          refine jq_istore dL_lines_49 (by decide) rfl rfl ?_
          exact hgo
  have FX : xs_fr [n] [(n, 0)] X (xs_nw X n 24) := xs_nw_fr
  refine jq_astore dL_lines_4 (by decide) rfl rfl ?_
  refine jq_lconst (v := (lN 0)) dL_lines_6 (by decide) ?_
  refine jq_lstore dL_lines_7 (by decide) rfl rfl ?_
  refine jq_iconst (v := (nI 0)) dL_lines_9 (by decide) ?_
  refine jq_istore dL_lines_10 (by decide) rfl rfl ?_
  exact loop (tb_ne w h) 0 _ _ (by omega) FX xs_nw_at (fun j hj => absurd hj (Nat.not_lt_zero j)) (fun j hj => absurd hj (Nat.not_lt_zero j))
