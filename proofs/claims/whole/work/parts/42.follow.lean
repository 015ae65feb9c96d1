set_option maxHeartbeats 8000000 in
theorem c_X6_follow {l : Launch} {G : jq_G} {n : Nat} {ad : Nat → Nat} {X : xs_T} (hn : 39 ≤ n) {w h : Nat} {num : Nat → Int32} {mk : Nat → Nat} (hT : rf_T w h X) (hM : rf_M w h mk X) (hN : rf_N w h num X) : xs_Ct l G mX6_follow 6 [.ref (ad 21)] n ad X (xs_pv (fun X' => xs_fr [29, 30, 31, 32, 33, 34, 35, 36] [(21, 17), (21, 18)] X X' ∧ rf_G w h (tb_follow w h num mk) X')) := by
  have hz := tb_sizes hT.1
  -- the rounds
  have main : ∀ (k : Nat) (st : Nat → Nat) (rd rl : Nat → Int32) (c : Nat) (o2 : Option Value) (Y : xs_T), tb_unk w h st < k → xs_fr [29, 30, 31, 32, 33, 34, 35, 36] [(21, 17), (21, 18)] X Y → rf_S w h st Y → (∀ e, e < tb_ne w h → Y.2.2.1 32 e = rd e ∧ Y.2.2.1 33 e = rl e) → Y.1 21 17 = nI c → tb_go w h num k st rd rl c = tb_follow w h num mk → jq_J l G mX6_follow (jq_R 6 0 0) jq_E0 (xs_Ye G n ad (xs_pv (fun X' => xs_fr [29, 30, 31, 32, 33, 34, 35, 36] [(21, 17), (21, 18)] X X' ∧ rf_G w h (tb_follow w h num mk) X'))) 54 [some (.ref (ad 21)), some (.int (1)), o2] [] n ad (xs_mem G ad Y) 0 0 := by
    intro k
    induction k with
    | zero => intro st rd rl c o2 Y hk; exact absurd hk (Nat.not_lt_zero _)
    | succ k ih =>
      intro st rd rl c o2 Y hk hf hS hR hc hgo
      have hT1 := rf_fr hT hf
      have hN1 := rf_nfr hN hf
      -- the end of the rounds
      have hend : ∀ (o2 : Option Value) (Z : xs_T), xs_fr [29, 30, 31, 32, 33, 34, 35, 36] [(21, 17), (21, 18)] X Z → rf_G w h (tb_follow w h num mk) Z → jq_J l G mX6_follow (jq_R 6 0 0) jq_E0 (xs_Ye G n ad (xs_pv (fun X' => xs_fr [29, 30, 31, 32, 33, 34, 35, 36] [(21, 17), (21, 18)] X X' ∧ rf_G w h (tb_follow w h num mk) X'))) 153 [some (.ref (ad 21)), some (.int (0)), o2] [] n ad (xs_mem G ad Z) 0 0 := by
        intro o2 Z hfZ hG
        refine jq_iload_n dX6_follow_153 rfl rfl ?_
        refine jq_if_eq (tgt := 54) dX6_follow_154 (by decide) (fun c154 => ?_) (fun c154 => ?_)
        · refine jq_iload_n dX6_follow_54 rfl rfl ?_
          refine jq_if_eq (tgt := 229) dX6_follow_55 (by decide) (fun c55 => ?_) (fun c55 => ?_)
          · exact xq_return rfl dX6_follow_229 rfl (⟨rfl, hfZ, hG⟩)
          · exact absurd rfl c55
        · exact absurd rfl c154
      -- what the round decided is written
      have h157 : ∀ (o2 : Option Value) (Z : xs_T), tb_broken w h num st = 0 → tb_torn w h (tb_asks w h num st) = false → tb_more w h (tb_asks w h num st) = true → xs_fr [29, 30, 31, 32, 33, 34, 35, 36] [(21, 17), (21, 18)] X Z → rf_S w h st Z → (∀ e, e < tb_ne w h → Z.2.2.1 32 e = rd e ∧ Z.2.2.1 33 e = rl e) → Z.1 21 17 = nI c → rf_W w h (tb_asks w h num st) Z → jq_J l G mX6_follow (jq_R 6 0 0) jq_E0 (xs_Ye G n ad (xs_pv (fun X' => xs_fr [29, 30, 31, 32, 33, 34, 35, 36] [(21, 17), (21, 18)] X X' ∧ rf_G w h (tb_follow w h num mk) X'))) 157 [some (.ref (ad 21)), some (.int (1)), o2] [] n ad (xs_mem G ad Z) 0 0 := by
        intro o2 Z hb0 ht0 hm1 hfZ hSZ hRZ hcZ hWZ
        rw [tb_go, if_neg (by rw [hb0]; exact fun q => q rfl), if_neg (by rw [ht0]; exact fun q => by cases q), if_pos hm1] at hgo
        have hun := tb_unk_lt (tb_wok_all (w := w) (h := h) (num := num) (st := st)) hm1
        have hnt : ∀ e, e < tb_ne w h → (tb_asks w h num st).1 e ≠ 3 := by
          intro e he q
          have := tb_anyT (p := fun e => (tb_asks w h num st).1 e == 3) he (by simpa using q)
          unfold tb_torn at ht0
          rw [ht0] at this
          cases this
        generalize hWW : tb_asks w h num st = W at *
        have loopB : ∀ (k e : Nat) (V : xs_T), e + k = tb_ne w h → xs_fr [29, 30, 31, 32, 33, 34, 35, 36] [(21, 17), (21, 18)] X V → V.1 21 17 = nI (c + 1) → rf_W w h W V → (∀ j, j < tb_ne w h → (V.2.2.1 29 j = nI (if j < e then tb_dec W st j else st j) ∧ V.2.2.1 32 j = (if j < e then tb_decR W rd (c + 1) j else rd j) ∧ V.2.2.1 33 j = (if j < e then tb_decL W rl j else rl j))) → jq_J l G mX6_follow (jq_R 6 0 0) jq_E0 (xs_Ye G n ad (xs_pv (fun X' => xs_fr [29, 30, 31, 32, 33, 34, 35, 36] [(21, 17), (21, 18)] X X' ∧ rf_G w h (tb_follow w h num mk) X'))) 169 [some (.ref (ad 21)), some (.int (1)), some (.int (nI (e)))] [] n ad (xs_mem G ad V) 0 0 := by
          intro k
          induction k with
          | zero =>
            intro e V hk2 hfV hcV hWV hV
            have hE := xs_fi hfV 21 3 hT.2.2.2.2.1
            have hS2 : rf_S w h (tb_dec W st) V := by
              intro j hj
              refine ⟨by rw [(hV j hj).1, if_pos (by omega)], ?_⟩
              unfold tb_dec
              split
              · exact (hS j hj).2
              · have := (hWV j hj).2.2.1; have := hnt j hj; omega
            refine jq_iload_n dX6_follow_169 rfl rfl ?_
            refine jq_aload_n dX6_follow_170 rfl rfl ?_
            refine xq_getI fX6_74 dX6_follow_171 (xs_lt (by decide) hn) (by decide) hE ?_
            refine jq_geN (tgt := 226) dX6_follow_174 (by decide) ⟨by omega, by omega⟩ (fun c174 => ?_) (fun c174 => ?_)
            · refine jq_goto (tgt := 54) dX6_follow_226 (by decide) ?_
              exact ih (tb_dec W st) _ _ (c + 1) _ V (by omega) hfV hS2 (fun j hj => ⟨by rw [(hV j hj).2.1, if_pos (by omega)], by rw [(hV j hj).2.2, if_pos (by omega)]⟩) hcV hgo
            · exact absurd c174 (by omega)
          | succ k ihB =>
            intro e V hk2 hfV hcV hWV hV
            have hE := xs_fi hfV 21 3 hT.2.2.2.2.1
            have he : e < tb_ne w h := by omega
            have hi : vp_in (nI e) 40 := vp_inN (by omega) (by decide)
            obtain ⟨v1, v2, v3⟩ := hV e he
            rw [if_neg (Nat.lt_irrefl e)] at v1 v2 v3
            obtain ⟨w1, w2, w3, w4⟩ := hWV e he
            have h220 : ∀ U : xs_T, xs_fr [29, 32, 33] [] V U → (∀ j, j ≠ e → U.2.2.1 29 j = V.2.2.1 29 j ∧ U.2.2.1 32 j = V.2.2.1 32 j ∧ U.2.2.1 33 j = V.2.2.1 33 j) → (U.2.2.1 29 e = nI (tb_dec W st e) ∧ U.2.2.1 32 e = tb_decR W rd (c + 1) e ∧ U.2.2.1 33 e = tb_decL W rl e) → jq_J l G mX6_follow (jq_R 6 0 0) jq_E0 (xs_Ye G n ad (xs_pv (fun X' => xs_fr [29, 30, 31, 32, 33, 34, 35, 36] [(21, 17), (21, 18)] X X' ∧ rf_G w h (tb_follow w h num mk) X'))) 220 [some (.ref (ad 21)), some (.int (1)), some (.int (nI (e)))] [] n ad (xs_mem G ad U) 0 0 := by
              intro U hfU hoU hvU
              refine jq_iincN dX6_follow_220 (by decide) rfl rfl rfl ?_
              refine jq_goto (tgt := 169) dX6_follow_223 (by decide) ?_
              refine ihB (e + 1) U (by omega) (xs_fr_tr hfV (xs_fr_mo hfU (by decide))) (xs_fi hfU 21 17 hcV) (rf_wfr hWV hfU) (fun j hj => ?_)
              by_cases hje : j = e
              · subst hje; rw [if_pos (by omega), if_pos (by omega), if_pos (by omega)]; exact hvU
              · obtain ⟨z1, z2, z3⟩ := hV j hj
                rw [(hoU j hje).1, (hoU j hje).2.1, (hoU j hje).2.2, z1, z2, z3]
                by_cases q : j < e
                · rw [if_pos q, if_pos q, if_pos q, if_pos (by omega), if_pos (by omega), if_pos (by omega)]; exact ⟨rfl, rfl, rfl⟩
                · rw [if_neg q, if_neg q, if_neg q, if_neg (by omega), if_neg (by omega), if_neg (by omega)]; exact ⟨rfl, rfl, rfl⟩
            refine jq_iload_n dX6_follow_169 rfl rfl ?_
            refine jq_aload_n dX6_follow_170 rfl rfl ?_
            refine xq_getI fX6_74 dX6_follow_171 (xs_lt (by decide) hn) (by decide) hE ?_
            refine jq_geN (tgt := 226) dX6_follow_174 (by decide) ⟨by omega, by omega⟩ (fun c174 => ?_) (fun c174 => ?_)
            · exact absurd c174 (by omega)
            · refine jq_aload_n dX6_follow_177 rfl rfl ?_
              refine xq_getR 30 fX6_34 dX6_follow_178 (xs_lt (by decide) hn) (by decide) ?_
              refine jq_iload_n dX6_follow_181 rfl rfl ?_
              refine xq_iaload dX6_follow_182 (xs_lt (by decide) hn) rfl hi (xs_rd w1 (by omega)) ?_
              refine jq_eqZ (tgt := 220) dX6_follow_183 (by decide) (by omega) (fun c183 => ?_) (fun c183 => ?_)
              · exact h220 V xs_fr_rf (fun j _ => ⟨rfl, rfl, rfl⟩) ⟨by rw [v1]; unfold tb_dec; rw [if_pos c183], by rw [v2]; unfold tb_decR; rw [if_pos c183], by rw [v3]; unfold tb_decL; rw [if_pos c183]⟩
              · refine jq_aload_n dX6_follow_186 rfl rfl ?_
                refine xq_getR 29 fX6_31 dX6_follow_187 (xs_lt (by decide) hn) (by decide) ?_
                refine jq_iload_n dX6_follow_190 rfl rfl ?_
                refine jq_aload_n dX6_follow_191 rfl rfl ?_
                refine xq_getR 30 fX6_34 dX6_follow_192 (xs_lt (by decide) hn) (by decide) ?_
                refine jq_iload_n dX6_follow_195 rfl rfl ?_
                refine xq_iaload dX6_follow_196 (xs_lt (by decide) hn) rfl hi (xs_rd w1 (by omega)) ?_
                refine xq_iastore dX6_follow_197 (xs_lt (by decide) hn) rfl hi ?_
                refine jq_aload_n dX6_follow_198 rfl rfl ?_
                refine xq_getR 32 fX6_40 dX6_follow_199 (xs_lt (by decide) hn) (by decide) ?_
                refine jq_iload_n dX6_follow_202 rfl rfl ?_
                refine jq_aload_n dX6_follow_203 rfl rfl ?_
                refine xq_getI fX6_153 dX6_follow_204 (xs_lt (by decide) hn) (by decide) (show (xs_ai V 29 _).1 21 17 = _ from hcV) ?_
                refine xq_iastore dX6_follow_207 (xs_lt (by decide) hn) rfl hi ?_
                refine jq_aload_n dX6_follow_208 rfl rfl ?_
                refine xq_getR 33 fX6_43 dX6_follow_209 (xs_lt (by decide) hn) (by decide) ?_
                refine jq_iload_n dX6_follow_212 rfl rfl ?_
                refine jq_aload_n dX6_follow_213 rfl rfl ?_
                refine xq_getR 31 fX6_37 dX6_follow_214 (xs_lt (by decide) hn) (by decide) ?_
                refine jq_iload_n dX6_follow_217 rfl rfl ?_
                refine xq_iaload dX6_follow_218 (xs_lt (by decide) hn) rfl hi (xs_rd (show (xs_ai (xs_ai V 29 _) 32 _).2.2.1 31 e = _ from w2) (by omega)) ?_
                refine xq_iastore dX6_follow_219 (xs_lt (by decide) hn) rfl hi ?_
                refine h220 _ (xs_fr_ai (xs_fr_ai (xs_fr_ai xs_fr_rf (by decide)) (by decide)) (by decide)) (fun j hj => ⟨?_, ?_, ?_⟩) ⟨?_, ?_, ?_⟩
                · rw [xs_ai_ne (by decide), xs_ai_ne (by decide), xs_ai_at, xs_upd_ne (by omega) hj]
                · rw [xs_ai_ne (by decide), xs_ai_at, xs_upd_ne (by omega) hj, xs_ai_ne (by decide)]
                · rw [xs_ai_at, xs_upd_ne (by omega) hj, xs_ai_ne (by decide), xs_ai_ne (by decide)]
                · rw [xs_ai_ne (by decide), xs_ai_ne (by decide), xs_ai_at, xs_upd_at (by omega)]; unfold tb_dec; rw [if_neg c183]
                · rw [xs_ai_ne (by decide), xs_ai_at, xs_upd_at (by omega)]; unfold tb_decR; rw [if_neg c183]
                · rw [xs_ai_at, xs_upd_at (by omega)]; unfold tb_decL; rw [if_neg c183]
        refine jq_aload_n dX6_follow_157 rfl rfl ?_
        refine jq_dup dX6_follow_158 rfl ?_
        refine xq_getI fX6_153 dX6_follow_159 (xs_lt (by decide) hn) (by decide) hcZ ?_
        refine jq_iconst (v := (nI 1)) dX6_follow_162 (by decide) ?_
        refine jq_iaddN dX6_follow_163 ?_
        refine xq_putI pX6_153 dX6_follow_164 (xs_lt (by decide) hn) (by decide) rfl rfl ?_
        refine jq_iconst (v := (nI 0)) dX6_follow_167 (by decide) ?_
        refine jq_istore_n dX6_follow_168 rfl (by decide) rfl rfl ?_
        refine loopB (tb_ne w h) 0 _ (by omega) (xs_fr_si hfZ (by decide)) xs_si_at hWZ (fun j hj => ?_)
        rw [if_neg (Nat.not_lt_zero j), if_neg (Nat.not_lt_zero j), if_neg (Nat.not_lt_zero j)]
        exact ⟨(hSZ j hj).1, (hRZ j hj).1, (hRZ j hj).2⟩
      -- what is wanted is looked through
      have loopA : ∀ (k e : Nat) (Z : xs_T), e + k = tb_ne w h → tb_broken w h num st = 0 → xs_fr [29, 30, 31, 32, 33, 34, 35, 36] [(21, 17), (21, 18)] X Z → rf_S w h st Z → (∀ e, e < tb_ne w h → Z.2.2.1 32 e = rd e ∧ Z.2.2.1 33 e = rl e) → Z.1 21 17 = nI c → rf_W w h (tb_asks w h num st) Z → Z.1 21 18 = nI (if (List.range e).any (fun e => (tb_asks w h num st).1 e == 3) = true then 5 else 0) → jq_J l G mX6_follow (jq_R 6 0 0) jq_E0 (xs_Ye G n ad (xs_pv (fun X' => xs_fr [29, 30, 31, 32, 33, 34, 35, 36] [(21, 17), (21, 18)] X X' ∧ rf_G w h (tb_follow w h num mk) X'))) 81 [some (.ref (ad 21)), some (.int (tb_b ((List.range e).any (fun e => !((tb_asks w h num st).1 e == 0))))), some (.int (nI (e)))] [] n ad (xs_mem G ad Z) 0 0 := by
        intro k
        induction k with
        | zero =>
          intro e Z hk2 hb0 hfZ hSZ hRZ hcZ hWZ heZ
          have hE := xs_fi hfZ 21 3 hT.2.2.2.2.1
          have e1 : e = tb_ne w h := by omega
          subst e1
          have hgo2 := hgo
          rw [tb_go, if_neg (by rw [hb0]; exact fun q => q rfl)] at hgo2
          refine jq_iload_n dX6_follow_81 rfl rfl ?_
          refine jq_aload_n dX6_follow_82 rfl rfl ?_
          refine xq_getI fX6_74 dX6_follow_83 (xs_lt (by decide) hn) (by decide) hE ?_
          refine jq_geN (tgt := 136) dX6_follow_86 (by decide) ⟨by omega, by omega⟩ (fun c86 => ?_) (fun c86 => ?_)
          · refine jq_iload_n dX6_follow_136 rfl rfl ?_
            refine jq_if_eq (tgt := 151) dX6_follow_137 (by decide) (fun c137 => ?_) (fun c137 => ?_)
            · have hmf : tb_more w h (tb_asks w h num st) = false := tb_b0.mp c137
              refine jq_iconst (v := 0) dX6_follow_151 (by decide) ?_
              refine jq_istore_n dX6_follow_152 rfl (by decide) rfl rfl ?_
              first
                | exact hend _ Z hfZ (by
                    by_cases q : tb_torn w h (tb_asks w h num st) = true
                    · rw [if_pos q] at hgo2; rw [← hgo2]; refine ⟨hSZ, hRZ, hcZ, ?_⟩; rw [heZ]; unfold tb_torn at q; rw [if_pos q]
                    · rw [if_neg q, if_neg (by first | (rw [hmf]; exact fun z => by cases z) | exact absurd htt q)] at hgo2; rw [← hgo2]; refine ⟨hSZ, hRZ, hcZ, ?_⟩; rw [heZ]; unfold tb_torn at q; rw [if_neg q])
                | (refine jq_iload_n dX6_follow_153 rfl rfl ?_
                   refine jq_if_eq (tgt := 54) dX6_follow_154 (by decide) (fun c154 => ?_) (fun c154 => ?_)
                   · exact absurd c154 (by decide)
                   · exact h157 _ Z hb0 htf hmt hfZ hSZ hRZ hcZ hWZ)
            · have hmt : tb_more w h (tb_asks w h num st) = true := tb_b1.mp c137
              refine jq_aload_n dX6_follow_140 rfl rfl ?_
              refine xq_getI fX6_108 dX6_follow_141 (xs_lt (by decide) hn) (by decide) heZ ?_
              refine jq_neZ (tgt := 151) dX6_follow_144 (by decide) (by split <;> decide) (fun c144 => ?_) (fun c144 => ?_)
              · have htt : tb_torn w h (tb_asks w h num st) = true := by unfold tb_torn; by_cases q : (List.range (tb_ne w h)).any (fun e => (tb_asks w h num st).1 e == 3) = true; exact q; rw [if_neg q] at c144; exact absurd rfl c144
                refine jq_iconst (v := 0) dX6_follow_151 (by decide) ?_
                refine jq_istore_n dX6_follow_152 rfl (by decide) rfl rfl ?_
                first
                  | exact hend _ Z hfZ (by
                      by_cases q : tb_torn w h (tb_asks w h num st) = true
                      · rw [if_pos q] at hgo2; rw [← hgo2]; refine ⟨hSZ, hRZ, hcZ, ?_⟩; rw [heZ]; unfold tb_torn at q; rw [if_pos q]
                      · rw [if_neg q, if_neg (by first | (rw [hmf]; exact fun z => by cases z) | exact absurd htt q)] at hgo2; rw [← hgo2]; refine ⟨hSZ, hRZ, hcZ, ?_⟩; rw [heZ]; unfold tb_torn at q; rw [if_neg q])
                  | (refine jq_iload_n dX6_follow_153 rfl rfl ?_
                     refine jq_if_eq (tgt := 54) dX6_follow_154 (by decide) (fun c154 => ?_) (fun c154 => ?_)
                     · exact absurd c154 (by decide)
                     · exact h157 _ Z hb0 htf hmt hfZ hSZ hRZ hcZ hWZ)
              · have htf : tb_torn w h (tb_asks w h num st) = false := by unfold tb_torn; by_cases q : (List.range (tb_ne w h)).any (fun e => (tb_asks w h num st).1 e == 3) = true; rw [if_pos q] at c144; cases c144; exact Bool.eq_false_iff.mpr q
                refine jq_iconst (v := 1) dX6_follow_147 (by decide) ?_
                refine jq_goto (tgt := 152) dX6_follow_148 (by decide) ?_
                refine jq_istore_n dX6_follow_152 rfl (by decide) rfl rfl ?_
                first
                  | exact hend _ Z hfZ (by
                      by_cases q : tb_torn w h (tb_asks w h num st) = true
                      · rw [if_pos q] at hgo2; rw [← hgo2]; refine ⟨hSZ, hRZ, hcZ, ?_⟩; rw [heZ]; unfold tb_torn at q; rw [if_pos q]
                      · rw [if_neg q, if_neg (by first | (rw [hmf]; exact fun z => by cases z) | exact absurd htt q)] at hgo2; rw [← hgo2]; refine ⟨hSZ, hRZ, hcZ, ?_⟩; rw [heZ]; unfold tb_torn at q; rw [if_neg q])
                  | (refine jq_iload_n dX6_follow_153 rfl rfl ?_
                     refine jq_if_eq (tgt := 54) dX6_follow_154 (by decide) (fun c154 => ?_) (fun c154 => ?_)
                     · exact absurd c154 (by decide)
                     · exact h157 _ Z hb0 htf hmt hfZ hSZ hRZ hcZ hWZ)
          · exact absurd c86 (by omega)
        | succ k ihA =>
          intro e Z hk2 hb0 hfZ hSZ hRZ hcZ hWZ heZ
          have hE := xs_fi hfZ 21 3 hT.2.2.2.2.1
          have he : e < tb_ne w h := by omega
          have hi : vp_in (nI e) 40 := vp_inN (by omega) (by decide)
          obtain ⟨w1, w2, w3, w4⟩ := hWZ e he
          have h129 : ∀ (V : xs_T) (b : Bool), b = (List.range (e + 1)).any (fun e => !((tb_asks w h num st).1 e == 0)) → xs_fr [] [(21, 18)] Z V → V.1 21 18 = nI (if (List.range (e + 1)).any (fun e => (tb_asks w h num st).1 e == 3) = true then 5 else 0) → jq_J l G mX6_follow (jq_R 6 0 0) jq_E0 (xs_Ye G n ad (xs_pv (fun X' => xs_fr [29, 30, 31, 32, 33, 34, 35, 36] [(21, 17), (21, 18)] X X' ∧ rf_G w h (tb_follow w h num mk) X'))) 129 [some (.ref (ad 21)), some (.int (tb_b ((List.range e).any (fun e => !((tb_asks w h num st).1 e == 0))))), some (.int (nI (e)))] [.int (tb_b b)] n ad (xs_mem G ad V) 0 0 := by
            intro V b hb hfV hV
            subst hb
            refine jq_istore_n dX6_follow_129 rfl (by decide) rfl rfl ?_
            refine jq_iincN dX6_follow_130 (by decide) rfl rfl rfl ?_
            refine jq_goto (tgt := 81) dX6_follow_133 (by decide) ?_
            exact ihA (e + 1) V (by omega) hb0 (xs_fr_tr hfZ (xs_fr_mo hfV (by decide))) (rf_sfr hSZ hfV) (fun j hj => by rw [xs_fa hfV 32, xs_fa hfV 33]; exact hRZ j hj) (xs_fi hfV 21 17 hcZ) (rf_wfr hWZ hfV) hV
          have h108 : ∀ v : Nat, v = (if (List.range (e + 1)).any (fun e => (tb_asks w h num st).1 e == 3) = true then 5 else 0) → jq_J l G mX6_follow (jq_R 6 0 0) jq_E0 (xs_Ye G n ad (xs_pv (fun X' => xs_fr [29, 30, 31, 32, 33, 34, 35, 36] [(21, 17), (21, 18)] X X' ∧ rf_G w h (tb_follow w h num mk) X'))) 108 [some (.ref (ad 21)), some (.int (tb_b ((List.range e).any (fun e => !((tb_asks w h num st).1 e == 0))))), some (.int (nI (e)))] [.int (nI (v)), .ref (ad 21)] n ad (xs_mem G ad Z) 0 0 := by
            intro v hv
            have hfV : xs_fr [] [(21, 18)] Z (xs_si Z 21 18 (nI v)) := xs_fr_si xs_fr_rf (by decide)
            have hV : (xs_si Z 21 18 (nI v)).1 21 18 = nI (if (List.range (e + 1)).any (fun e => (tb_asks w h num st).1 e == 3) = true then 5 else 0) := by rw [xs_si_at, hv]
            refine xq_putI pX6_108 dX6_follow_108 (xs_lt (by decide) hn) (by decide) rfl rfl ?_
            refine jq_iload_n dX6_follow_111 rfl rfl ?_
            refine jq_if_ne (tgt := 124) dX6_follow_112 (by decide) (fun c112 => ?_) (fun c112 => ?_)
            · have hb2 := tb_b1.mp c112
              refine jq_iconst (v := 1) dX6_follow_124 (by decide) ?_
              refine jq_goto (tgt := 129) dX6_follow_125 (by decide) ?_
              exact xs_nm (by first | exact tb_b1e | exact tb_b0e) (h129 _ _ (by rw [tb_range_any, hb2]; simp [*]) hfV hV)
            · have hb2 := tb_b0.mp c112
              refine jq_aload_n dX6_follow_115 rfl rfl ?_
              refine xq_getR 30 fX6_34 dX6_follow_116 (xs_lt (by decide) hn) (by decide) ?_
              refine jq_iload_n dX6_follow_119 rfl rfl ?_
              refine xq_iaload dX6_follow_120 (xs_lt (by decide) hn) rfl hi (xs_rd (show (xs_si Z 21 18 _).2.2.1 30 e = _ from w1) (by omega)) ?_
              refine jq_eqZ (tgt := 128) dX6_follow_121 (by decide) (by omega) (fun c121 => ?_) (fun c121 => ?_)
              · refine jq_iconst (v := 0) dX6_follow_128 (by decide) ?_
                exact xs_nm (by first | exact tb_b1e | exact tb_b0e) (h129 _ _ (by rw [tb_range_any, hb2]; simp [*]) hfV hV)
              · refine jq_iconst (v := 1) dX6_follow_124 (by decide) ?_
                refine jq_goto (tgt := 129) dX6_follow_125 (by decide) ?_
                exact xs_nm (by first | exact tb_b1e | exact tb_b0e) (h129 _ _ (by rw [tb_range_any, hb2]; simp [*]) hfV hV)
          have hv105 : jq_J l G mX6_follow (jq_R 6 0 0) jq_E0 (xs_Ye G n ad (xs_pv (fun X' => xs_fr [29, 30, 31, 32, 33, 34, 35, 36] [(21, 17), (21, 18)] X X' ∧ rf_G w h (tb_follow w h num mk) X'))) 105 [some (.ref (ad 21)), some (.int (tb_b ((List.range e).any (fun e => !((tb_asks w h num st).1 e == 0))))), some (.int (nI (e)))] [.ref (ad 21), .ref (ad 21)] n ad (xs_mem G ad Z) 0 0 → True := fun _ => trivial
          refine jq_iload_n dX6_follow_81 rfl rfl ?_
          refine jq_aload_n dX6_follow_82 rfl rfl ?_
          refine xq_getI fX6_74 dX6_follow_83 (xs_lt (by decide) hn) (by decide) hE ?_
          refine jq_geN (tgt := 136) dX6_follow_86 (by decide) ⟨by omega, by omega⟩ (fun c86 => ?_) (fun c86 => ?_)
          · exact absurd c86 (by omega)
          · refine jq_aload_n dX6_follow_89 rfl rfl ?_
            refine jq_aload_n dX6_follow_90 rfl rfl ?_
            refine xq_getR 30 fX6_34 dX6_follow_91 (xs_lt (by decide) hn) (by decide) ?_
            refine jq_iload_n dX6_follow_94 rfl rfl ?_
            refine xq_iaload dX6_follow_95 (xs_lt (by decide) hn) rfl hi (xs_rd w1 (by omega)) ?_
            refine jq_iconst (v := (nI 3)) dX6_follow_96 (by decide) ?_
            refine jq_neN (tgt := 104) dX6_follow_97 (by decide) ⟨by omega, by omega⟩ (fun c97 => ?_) (fun c97 => ?_)
            · refine jq_aload_n dX6_follow_104 rfl rfl ?_
              refine xq_getI fX6_108 dX6_follow_105 (xs_lt (by decide) hn) (by decide) heZ ?_
              exact h108 _ (by rw [tb_range_any]; simp [*])
            · refine jq_iconst (v := (nI 5)) dX6_follow_100 (by decide) ?_
              refine jq_goto (tgt := 108) dX6_follow_101 (by decide) ?_
              exact h108 _ (by rw [tb_range_any]; simp [*])
      have hbl := tb_broken_le w h num st
      refine jq_iload_n dX6_follow_54 rfl rfl ?_
      refine jq_if_eq (tgt := 229) dX6_follow_55 (by decide) (fun c55 => ?_) (fun c55 => ?_)
      · exact absurd c55 (by decide)
      · refine jq_aload_n dX6_follow_58 rfl rfl ?_
        refine jq_aload_n dX6_follow_59 rfl rfl ?_
        refine xq_rI dX6_follow_60 kX6_156 (c_X6_brokenBy hn hT1 hS hN1) (xs_lt (by decide) hn) ⟨rfl, rfl⟩ rfl rfl (Nat.le_of_ble_eq_true rfl) ⟨⟨by decide, by decide⟩, Nat.le_refl _, Nat.le_refl _⟩ (fun v60 X60 h60 => ?_)
        obtain ⟨rfl, hf2⟩ := h60
        have hf3 : xs_fr [29, 30, 31, 32, 33, 34, 35, 36] [(21, 17), (21, 18)] X (xs_si X60 21 18 (nI (tb_broken w h num st))) := xs_fr_si (xs_fr_tr hf (xs_fr_mo hf2 (by decide))) (by decide)
        have hf4 : xs_fr [34, 35, 36] [(21, 18)] Y (xs_si X60 21 18 (nI (tb_broken w h num st))) := xs_fr_si (xs_fr_mo hf2 (by decide)) (by decide)
        refine xq_putI pX6_108 dX6_follow_63 (xs_lt (by decide) hn) (by decide) rfl rfl ?_
        refine jq_iconst (v := (nI 0)) dX6_follow_66 (by decide) ?_
        refine jq_istore_n dX6_follow_67 rfl (by decide) rfl rfl ?_
        refine jq_aload_n dX6_follow_68 rfl rfl ?_
        refine xq_getI fX6_108 dX6_follow_69 (xs_lt (by decide) hn) (by decide) xs_si_at ?_
        refine jq_neZ (tgt := 153) dX6_follow_72 (by decide) (by omega) (fun c72 => ?_) (fun c72 => ?_)
        · rw [tb_go, if_pos c72] at hgo
          exact hend _ _ hf3 (by rw [← hgo]; exact ⟨rf_sfr hS hf4, fun j hj => (by rw [xs_fa hf4 32, xs_fa hf4 33]; exact hR j hj), xs_fi hf4 21 17 hc, xs_si_at⟩)
        · refine jq_aload_n dX6_follow_75 rfl rfl ?_
          refine xq_rV dX6_follow_76 kX6_159 (c_X6_asks hn (rf_fr hT hf3) (rf_sfr hS hf4) (rf_nfr hN hf3)) (xs_lt (by decide) hn) ⟨rfl, rfl⟩ rfl rfl (Nat.le_of_ble_eq_true rfl) ⟨⟨by decide, by decide⟩, Nat.le_refl _, Nat.le_refl _⟩ (fun X76 h76 => ?_)
          obtain ⟨hf5, hS5, hW5⟩ := h76
          refine jq_iconst (v := (nI 0)) dX6_follow_79 (by decide) ?_
          refine jq_istore_n dX6_follow_80 rfl (by decide) rfl rfl ?_
          refine loopA (tb_ne w h) 0 _ (by omega) c72 (xs_fr_tr hf3 (xs_fr_mo hf5 (by decide))) hS5 (fun j hj => by rw [xs_fa hf5 32, xs_fa hf5 33, xs_fa hf4 32, xs_fa hf4 33]; exact hR j hj) (xs_fi hf5 21 17 (xs_fi hf4 21 17 hc)) hW5 ?_
          exact xs_fi hf5 21 18 (by rw [xs_si_at, c72]; rfl)
  -- round and rule of each edge at the start
  have loop0 : ∀ (k e : Nat) (Y : xs_T), e + k = tb_ne w h → xs_fr [29, 30, 31, 32, 33, 34, 35, 36] [(21, 17), (21, 18)] X Y → rf_S w h mk Y → Y.1 21 17 = nI 0 → (∀ j, j < e → Y.2.2.1 32 j = tb_rd0 mk j ∧ Y.2.2.1 33 j = -1) → jq_J l G mX6_follow (jq_R 6 0 0) jq_E0 (xs_Ye G n ad (xs_pv (fun X' => xs_fr [29, 30, 31, 32, 33, 34, 35, 36] [(21, 17), (21, 18)] X X' ∧ rf_G w h (tb_follow w h num mk) X'))) 11 [some (.ref (ad 21)), some (.int (nI (e))), none] [] n ad (xs_mem G ad Y) 0 0 := by
    intro k
    induction k with
    | zero =>
      intro e Y hk hf hS hc h0
      have hE := xs_fi hf 21 3 hT.2.2.2.2.1
      have hu : tb_unk w h mk < 41 := Nat.lt_of_le_of_lt (fb_ct_le _ _) (by omega)
      refine jq_iload_n dX6_follow_11 rfl rfl ?_
      refine jq_aload_n dX6_follow_12 rfl rfl ?_
      refine xq_getI fX6_74 dX6_follow_13 (xs_lt (by decide) hn) (by decide) hE ?_
      refine jq_geN (tgt := 52) dX6_follow_16 (by decide) ⟨by omega, by omega⟩ (fun c16 => ?_) (fun c16 => ?_)
      · refine jq_iconst (v := 1) dX6_follow_52 (by decide) ?_
        refine jq_istore_n dX6_follow_53 rfl (by decide) rfl rfl ?_
        exact main 41 mk (tb_rd0 mk) (fun _ => -1) 0 _ Y hu hf hS (fun j hj => h0 j (by omega)) hc rfl
      · exact absurd c16 (by omega)
    | succ k ih =>
      intro e Y hk hf hS hc h0
      have hE := xs_fi hf 21 3 hT.2.2.2.2.1
      have hi : vp_in (nI e) 40 := vp_inN (by omega) (by decide)
      have hm := rf_mfr hM hf (by decide) e (by omega)
      have h38 : ∀ v : Int32, v = tb_rd0 mk e → jq_J l G mX6_follow (jq_R 6 0 0) jq_E0 (xs_Ye G n ad (xs_pv (fun X' => xs_fr [29, 30, 31, 32, 33, 34, 35, 36] [(21, 17), (21, 18)] X X' ∧ rf_G w h (tb_follow w h num mk) X'))) 38 [some (.ref (ad 21)), some (.int (nI (e))), none] [.int (v), .int (nI (e)), .ref (ad 32)] n ad (xs_mem G ad Y) 0 0 := by
        intro v hv
        refine xq_iastore dX6_follow_38 (xs_lt (by decide) hn) rfl hi ?_
        refine jq_aload_n dX6_follow_39 rfl rfl ?_
        refine xq_getR 33 fX6_43 dX6_follow_40 (xs_lt (by decide) hn) (by decide) ?_
        refine jq_iload_n dX6_follow_43 rfl rfl ?_
        refine jq_iconst (v := (-1)) dX6_follow_44 (by decide) ?_
        refine xq_iastore dX6_follow_45 (xs_lt (by decide) hn) rfl hi ?_
        refine jq_iincN dX6_follow_46 (by decide) rfl rfl rfl ?_
        refine jq_goto (tgt := 11) dX6_follow_49 (by decide) ?_
        refine ih (e + 1) _ (by omega) (xs_fr_ai (xs_fr_ai hf (by decide)) (by decide)) (fun j hj => ?_) hc (fun j hj => ?_)
        · rw [xs_ai_ne (by decide), xs_ai_ne (by decide)]; exact hS j hj
        · rw [xs_ai_at, xs_ai_ne (by decide), xs_ai_at]
          rcases Nat.lt_or_ge j e with q | q
          · rw [xs_upd_ne (by omega) (by omega), xs_upd_ne (by omega) (by omega)]; exact h0 j q
          · rw [show j = e by omega, xs_upd_at (by omega), xs_upd_at (by omega), hv]; exact ⟨rfl, rfl⟩
      refine jq_iload_n dX6_follow_11 rfl rfl ?_
      refine jq_aload_n dX6_follow_12 rfl rfl ?_
      refine xq_getI fX6_74 dX6_follow_13 (xs_lt (by decide) hn) (by decide) hE ?_
      refine jq_geN (tgt := 52) dX6_follow_16 (by decide) ⟨by omega, by omega⟩ (fun c16 => ?_) (fun c16 => ?_)
      · exact absurd c16 (by omega)
      · refine jq_aload_n dX6_follow_19 rfl rfl ?_
        refine xq_getR 32 fX6_40 dX6_follow_20 (xs_lt (by decide) hn) (by decide) ?_
        refine jq_iload_n dX6_follow_23 rfl rfl ?_
        refine jq_aload_n dX6_follow_24 rfl rfl ?_
        refine xq_getR 28 fX6_28 dX6_follow_25 (xs_lt (by decide) hn) (by decide) ?_
        refine jq_iload_n dX6_follow_28 rfl rfl ?_
        refine xq_iaload dX6_follow_29 (xs_lt (by decide) hn) rfl hi (xs_rd hm.1 (by omega)) ?_
        refine jq_neZ (tgt := 37) dX6_follow_30 (by decide) (by omega) (fun c30 => ?_) (fun c30 => ?_)
        · refine jq_iconst (v := 0) dX6_follow_37 (by decide) ?_
          exact h38 _ (by unfold tb_rd0; first | exact (if_neg c30).symm | exact (if_pos c30).symm)
        · refine jq_iconst (v := (-1)) dX6_follow_33 (by decide) ?_
          refine jq_goto (tgt := 38) dX6_follow_34 (by decide) ?_
          exact h38 _ (by unfold tb_rd0; first | exact (if_neg c30).symm | exact (if_pos c30).symm)
  refine xs_Ct_of (L := [some (.ref (ad 21)), none, none]) rfl (Nat.le_of_ble_eq_true rfl) rfl ?_
  refine jq_aload_n dX6_follow_0 rfl rfl ?_
  refine xq_rV dX6_follow_1 kX6_150 (c_X6_takeMarks hn hT) (xs_lt (by decide) hn) ⟨rfl, rfl⟩ rfl rfl (Nat.le_of_ble_eq_true rfl) ⟨⟨by decide, by decide⟩, Nat.le_refl _, Nat.le_refl _⟩ (fun X1 h1 => ?_)
  refine jq_aload_n dX6_follow_4 rfl rfl ?_
  refine jq_iconst (v := (nI 0)) dX6_follow_5 (by decide) ?_
  refine xq_putI pX6_153 dX6_follow_6 (xs_lt (by decide) hn) (by decide) rfl rfl ?_
  refine jq_iconst (v := (nI 0)) dX6_follow_9 (by decide) ?_
  refine jq_istore_n dX6_follow_10 rfl (by decide) rfl rfl ?_
  refine loop0 (tb_ne w h) 0 _ (by omega) (xs_fr_si (xs_fr_mo h1.1 (by decide)) (by decide)) (fun j hj => ?_) xs_si_at (fun j hj => absurd hj (Nat.not_lt_zero j))
  exact ⟨(h1.2 j hj).trans (hM j hj).1, (hM j hj).2⟩
