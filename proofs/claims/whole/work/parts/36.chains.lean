set_option maxHeartbeats 4000000 in
theorem c_X6_chains {l : Launch} {G : jq_G} {n : Nat} {ad : Nat → Nat} {X : xs_T} (hn : 39 ≤ n) {w h : Nat} {st : Nat → Nat} (hT : rf_T w h X) (hS : rf_S w h st X) : xs_Ct l G mX6_chains 1 [.ref (ad 21)] n ad X (xs_pi (fun v X' => v = tb_b (tb_fine w h st) ∧ xs_fr [35, 36] [] X X' ∧ rf_C w h st (tb_ne w h) X')) := by
  have hz := tb_sizes hT.1
  have loop2 : ∀ (k e : Nat) (o3 o4 o5 o6 o7 o8 : Option Value) (Y : xs_T), e + k = tb_ne w h → xs_fr [35, 36] [] X Y → rf_C w h st e Y → jq_J l G mX6_chains (jq_R 1 0 0) jq_E0 (xs_Ye G n ad (xs_pi (fun v X' => v = tb_b (tb_fine w h st) ∧ xs_fr [35, 36] [] X X' ∧ rf_C w h st (tb_ne w h) X'))) 34 [some (.ref (ad 21)), some (.int (tb_b (tb_ch w h st e).2.2)), some (.int (nI (e))), o3, o4, o5, o6, o7, o8] [] n ad (xs_mem G ad Y) 0 0 := by
    intro k
    induction k with
    | zero =>
      intro e o3 o4 o5 o6 o7 o8 Y hk hf hY
      have hE := xs_fi hf 21 3 hT.2.2.2.2.1
      have e1 : e = tb_ne w h := by omega
      subst e1
      refine jq_iload_n dX6_chains_34 rfl rfl ?_
      refine jq_aload_n dX6_chains_35 rfl rfl ?_
      refine xq_getI fX6_74 dX6_chains_36 (xs_lt (by decide) hn) (by decide) hE ?_
      refine jq_geN (tgt := 253) dX6_chains_39 (by decide) ⟨by omega, by omega⟩ (fun c39 => ?_) (fun c39 => ?_)
      · refine jq_iload_n dX6_chains_253 rfl rfl ?_
        exact xq_ireturn dX6_chains_254 rfl (tb_narrow _) (⟨_, rfl, rfl, hf, hY⟩)
      · exact absurd c39 (by omega)
    | succ k ih =>
      intro e o3 o4 o5 o6 o7 o8 Y hk hf hY
      have hE := xs_fi hf 21 3 hT.2.2.2.2.1
      have he : e < tb_ne w h := by omega
      have hT' := rf_fr hT hf
      have h1 := hT'.2.2.2.2.2.2.2.2.1 e he
      have h2 := hT'.2.2.2.2.2.2.2.2.2.1 e he
      have h3 := rf_sfr hS hf (by decide) e he
      have hi : vp_in (nI e) 40 := vp_inN (by omega) (by decide)
      have hb := tb_ends hT.1 e he
      have hle := tb_ch_le hT.1 st e (by omega)
      have hA := hY _ hb.2.2.2.1
      have hB := hY _ hb.2.2.2.2
      have hla := hle _ hb.2.2.2.1
      have hlb := hle _ hb.2.2.2.2
      have hia : vp_in (nI (tb_are w h e)) 17 := vp_inN (by omega) (by decide)
      have hib : vp_in (nI (tb_bes w h e)) 17 := vp_inN (by omega) (by decide)
      -- past the edge
      have hx : ∀ (o3 o4 o5 o6 o7 o8 : Option Value) (b : Bool) (Z : xs_T), b = (tb_ch w h st (e + 1)).2.2 → xs_fr [35, 36] [] X Z → rf_C w h st (e + 1) Z → jq_J l G mX6_chains (jq_R 1 0 0) jq_E0 (xs_Ye G n ad (xs_pi (fun v X' => v = tb_b (tb_fine w h st) ∧ xs_fr [35, 36] [] X X' ∧ rf_C w h st (tb_ne w h) X'))) 247 [some (.ref (ad 21)), some (.int (tb_b b)), some (.int (nI (e))), o3, o4, o5, o6, o7, o8] [] n ad (xs_mem G ad Z) 0 0 := by
        intro o3 o4 o5 o6 o7 o8 b Z hbb hfZ hZ
        subst hbb
        refine jq_iincN dX6_chains_247 (by decide) rfl rfl rfl ?_
        refine jq_goto (tgt := 34) dX6_chains_250 (by decide) ?_
        exact ih (e + 1) _ _ _ _ _ _ Z (by omega) hfZ hZ
      have h83 : st e ≠ 0 → jq_J l G mX6_chains (jq_R 1 0 0) jq_E0 (xs_Ye G n ad (xs_pi (fun v X' => v = tb_b (tb_fine w h st) ∧ xs_fr [35, 36] [] X X' ∧ rf_C w h st (tb_ne w h) X'))) 83 [some (.ref (ad 21)), some (.int (tb_b (tb_ch w h st e).2.2)), some (.int (nI (e))), some (.int (nI (tb_are w h e))), some (.int (nI (tb_bes w h e))), some (.int (tb_b (st e == 1))), o6, o7, o8] [] n ad (xs_mem G ad Y) 0 0 := by
        intro hne
        have h134 : (tb_ch w h st e).1 (tb_are w h e) = (tb_ch w h st e).1 (tb_bes w h e) → ∀ b : Bool, b = ((tb_ch w h st e).2.2 && (((tb_ch w h st e).2.1 (tb_are w h e) != (tb_ch w h st e).2.1 (tb_bes w h e)) == (st e == 1))) → jq_J l G mX6_chains (jq_R 1 0 0) jq_E0 (xs_Ye G n ad (xs_pi (fun v X' => v = tb_b (tb_fine w h st) ∧ xs_fr [35, 36] [] X X' ∧ rf_C w h st (tb_ne w h) X'))) 134 [some (.ref (ad 21)), some (.int (tb_b (tb_ch w h st e).2.2)), some (.int (nI (e))), some (.int (nI (tb_are w h e))), some (.int (nI (tb_bes w h e))), some (.int (tb_b (st e == 1))), o6, o7, o8] [.int (tb_b b)] n ad (xs_mem G ad Y) 0 0 := by
          intro hsm b hbb
          refine jq_istore_n dX6_chains_134 rfl (by decide) rfl rfl ?_
          refine jq_goto (tgt := 247) dX6_chains_135 (by decide) ?_
          exact hx _ _ _ _ _ _ b Y (by rw [hbb, tb_ch_s hne hsm]) hf (fun a ha => by rw [tb_ch_s hne hsm]; exact hY a ha)
        have h124 : (tb_ch w h st e).1 (tb_are w h e) = (tb_ch w h st e).1 (tb_bes w h e) → (tb_ch w h st e).2.2 = true → ∀ b : Bool, b = ((tb_ch w h st e).2.1 (tb_are w h e) != (tb_ch w h st e).2.1 (tb_bes w h e)) → jq_J l G mX6_chains (jq_R 1 0 0) jq_E0 (xs_Ye G n ad (xs_pi (fun v X' => v = tb_b (tb_fine w h st) ∧ xs_fr [35, 36] [] X X' ∧ rf_C w h st (tb_ne w h) X'))) 124 [some (.ref (ad 21)), some (.int (tb_b (tb_ch w h st e).2.2)), some (.int (nI (e))), some (.int (nI (tb_are w h e))), some (.int (nI (tb_bes w h e))), some (.int (tb_b (st e == 1))), o6, o7, o8] [.int (tb_b b)] n ad (xs_mem G ad Y) 0 0 := by
          intro hsm hff b hbb
          refine jq_iload dX6_chains_124 rfl ?_
          refine jq_icmp_ne (tgt := 133) dX6_chains_126 (by decide) (fun c126 => ?_) (fun c126 => ?_)
          · refine jq_iconst (v := 0) dX6_chains_133 (by decide) ?_
            exact xs_nm (by first | exact tb_b1e | exact tb_b0e) (h134 hsm _ (by rw [hff, ← hbb]; simp [tb_b_eq] at c126; simp [c126]))
          · refine jq_iconst (v := 1) dX6_chains_129 (by decide) ?_
            refine jq_goto (tgt := 134) dX6_chains_130 (by decide) ?_
            exact xs_nm (by first | exact tb_b1e | exact tb_b0e) (h134 hsm _ (by rw [hff, ← hbb]; simp [tb_b_eq] at c126; simp [c126]))
        have h178 : (tb_ch w h st e).1 (tb_are w h e) ≠ (tb_ch w h st e).1 (tb_bes w h e) → ∀ (o7 o8 : Option Value) (t : Bool), t = (((tb_ch w h st e).2.1 (tb_are w h e) != (tb_ch w h st e).2.1 (tb_bes w h e)) != (st e == 1)) → jq_J l G mX6_chains (jq_R 1 0 0) jq_E0 (xs_Ye G n ad (xs_pi (fun v X' => v = tb_b (tb_fine w h st) ∧ xs_fr [35, 36] [] X X' ∧ rf_C w h st (tb_ne w h) X'))) 178 [some (.ref (ad 21)), some (.int (tb_b (tb_ch w h st e).2.2)), some (.int (nI (e))), some (.int (nI (tb_are w h e))), some (.int (nI (tb_bes w h e))), some (.int (tb_b (st e == 1))), some (.int (nI ((tb_ch w h st e).1 (tb_bes w h e)))), o7, o8] [.int (tb_b t)] n ad (xs_mem G ad Y) 0 0 := by
          intro hdf o7 o8 t ht
          have loop3 : ∀ (k p : Nat) (Z : xs_T), p + k = tb_nc w h + 1 → xs_fr [35, 36] [] X Z → (∀ a, a < p → Z.2.2.1 35 a = nI ((tb_ch w h st (e + 1)).1 a) ∧ Z.2.2.1 36 a = tb_b ((tb_ch w h st (e + 1)).2.1 a)) → (∀ a, p ≤ a → a ≤ tb_nc w h → Z.2.2.1 35 a = nI ((tb_ch w h st e).1 a) ∧ Z.2.2.1 36 a = tb_b ((tb_ch w h st e).2.1 a)) → jq_J l G mX6_chains (jq_R 1 0 0) jq_E0 (xs_Ye G n ad (xs_pi (fun v X' => v = tb_b (tb_fine w h st) ∧ xs_fr [35, 36] [] X X' ∧ rf_C w h st (tb_ne w h) X'))) 183 [some (.ref (ad 21)), some (.int (tb_b (tb_ch w h st e).2.2)), some (.int (nI (e))), some (.int (nI (tb_are w h e))), some (.int (nI (tb_bes w h e))), some (.int (tb_b (st e == 1))), some (.int (nI ((tb_ch w h st e).1 (tb_bes w h e)))), some (.int (tb_b t)), some (.int (nI (p)))] [] n ad (xs_mem G ad Z) 0 0 := by
            intro k
            induction k with
            | zero =>
              intro p Z hk hfZ hZ1 hZ2
              have hC := xs_fi hfZ 21 2 hT.2.2.2.1
              refine jq_iload dX6_chains_183 rfl ?_
              refine jq_aload_n dX6_chains_185 rfl rfl ?_
              refine xq_getI fX6_71 dX6_chains_186 (xs_lt (by decide) hn) (by decide) hC ?_
              refine jq_gtN (tgt := 247) dX6_chains_189 (by decide) ⟨by omega, by omega⟩ (fun c189 => ?_) (fun c189 => ?_)
              · exact hx _ _ _ _ _ _ _ Z (by rw [tb_ch_d hne hdf]) hfZ (fun a ha => hZ1 a (by omega))
              · exact absurd c189 (by omega)
            | succ k ih3 =>
              intro p Z hk hfZ hZ1 hZ2
              have hC := xs_fi hfZ 21 2 hT.2.2.2.1
              have hp := hZ2 p (Nat.le_refl p) (by omega)
              have hpl := hle p (by omega)
              have hip : vp_in (nI p) 17 := vp_inN (by omega) (by decide)
              have hnext : ∀ (Z2 : xs_T), xs_fr [35, 36] [] X Z2 → (∀ a, a ≠ p → Z2.2.2.1 35 a = Z.2.2.1 35 a ∧ Z2.2.2.1 36 a = Z.2.2.1 36 a) → (Z2.2.2.1 35 p = nI ((tb_ch w h st (e + 1)).1 p) ∧ Z2.2.2.1 36 p = tb_b ((tb_ch w h st (e + 1)).2.1 p)) → jq_J l G mX6_chains (jq_R 1 0 0) jq_E0 (xs_Ye G n ad (xs_pi (fun v X' => v = tb_b (tb_fine w h st) ∧ xs_fr [35, 36] [] X X' ∧ rf_C w h st (tb_ne w h) X'))) 241 [some (.ref (ad 21)), some (.int (tb_b (tb_ch w h st e).2.2)), some (.int (nI (e))), some (.int (nI (tb_are w h e))), some (.int (nI (tb_bes w h e))), some (.int (tb_b (st e == 1))), some (.int (nI ((tb_ch w h st e).1 (tb_bes w h e)))), some (.int (tb_b t)), some (.int (nI (p)))] [] n ad (xs_mem G ad Z2) 0 0 := by
                intro Z2 hf2 ho hv
                refine jq_iincN dX6_chains_241 (by decide) rfl rfl rfl ?_
                refine jq_goto (tgt := 183) dX6_chains_244 (by decide) ?_
                refine ih3 (p + 1) Z2 (by omega) hf2 (fun a ha => ?_) (fun a ha ha2 => ?_)
                · rcases Nat.lt_or_ge a p with q | q
                  · rw [(ho a (by omega)).1, (ho a (by omega)).2]; exact hZ1 a q
                  · rw [show a = p by omega]; exact hv
                · rw [(ho a (by omega)).1, (ho a (by omega)).2]; exact hZ2 a (by omega) ha2
              have hca : Z.2.2.1 35 (tb_are w h e) = nI ((tb_ch w h st e).1 (tb_are w h e)) := by
                rcases Nat.lt_or_ge (tb_are w h e) p with q | q
                · rw [(hZ1 _ q).1, tb_ch_d hne hdf]
                  show nI (if _ then _ else _) = _
                  rw [if_neg hdf]
                · exact (hZ2 _ q hb.2.2.2.1).1
              refine jq_iload dX6_chains_183 rfl ?_
              refine jq_aload_n dX6_chains_185 rfl rfl ?_
              refine xq_getI fX6_71 dX6_chains_186 (xs_lt (by decide) hn) (by decide) hC ?_
              refine jq_gtN (tgt := 247) dX6_chains_189 (by decide) ⟨by omega, by omega⟩ (fun c189 => ?_) (fun c189 => ?_)
              · exact absurd c189 (by omega)
              · refine jq_aload_n dX6_chains_192 rfl rfl ?_
                refine xq_getR 35 fX6_49 dX6_chains_193 (xs_lt (by decide) hn) (by decide) ?_
                refine jq_iload dX6_chains_196 rfl ?_
                refine xq_iaload dX6_chains_198 (xs_lt (by decide) hn) rfl hip (xs_rd hp.1 (by omega)) ?_
                refine jq_iload dX6_chains_199 rfl ?_
                refine jq_neN (tgt := 241) dX6_chains_201 (by decide) ⟨by omega, by omega⟩ (fun c201 => ?_) (fun c201 => ?_)
                · exact hnext Z hfZ (fun a _ => ⟨rfl, rfl⟩) ⟨by rw [hp.1, tb_ch_d hne hdf]; show _ = nI (if _ then _ else _); rw [if_neg c201], by rw [hp.2, tb_ch_d hne hdf]; show _ = tb_b (if _ then _ else _); rw [if_neg c201]⟩
                · refine jq_aload_n dX6_chains_204 rfl rfl ?_
                  refine xq_getR 35 fX6_49 dX6_chains_205 (xs_lt (by decide) hn) (by decide) ?_
                  refine jq_iload dX6_chains_208 rfl ?_
                  refine jq_aload_n dX6_chains_210 rfl rfl ?_
                  refine xq_getR 35 fX6_49 dX6_chains_211 (xs_lt (by decide) hn) (by decide) ?_
                  refine jq_iload_n dX6_chains_214 rfl rfl ?_
                  refine xq_iaload dX6_chains_215 (xs_lt (by decide) hn) rfl hia (xs_rd hca (by omega)) ?_
                  refine xq_iastore dX6_chains_216 (xs_lt (by decide) hn) rfl hip ?_
                  refine jq_aload_n dX6_chains_217 rfl rfl ?_
                  refine xq_getR 36 fX6_52 dX6_chains_218 (xs_lt (by decide) hn) (by decide) ?_
                  refine jq_iload dX6_chains_221 rfl ?_
                  refine jq_aload_n dX6_chains_223 rfl rfl ?_
                  refine xq_getR 36 fX6_52 dX6_chains_224 (xs_lt (by decide) hn) (by decide) ?_
                  refine jq_iload dX6_chains_227 rfl ?_
                  refine xq_baload dX6_chains_229 (xs_lt (by decide) hn) rfl hip (xs_rd (show (xs_ai Z 35 _).2.2.1 36 p = _ from hp.2) (by omega)) ?_
                  refine jq_iload dX6_chains_230 rfl ?_
                  refine jq_icmp_eq (tgt := 239) dX6_chains_232 (by decide) (fun c232 => ?_) (fun c232 => ?_)
                  · refine jq_iconst (v := 0) dX6_chains_239 (by decide) ?_
                    refine xq_bastore dX6_chains_240 (xs_lt (by decide) hn) rfl hip rfl ?_
                    refine hnext _ (xs_fr_ai (xs_fr_ai hfZ (by decide)) (by decide)) (fun a ha => ⟨?_, ?_⟩) ⟨?_, ?_⟩
                    · rw [xs_ai_ne (by decide), xs_ai_at, xs_upd_ne (by omega) ha]
                    · rw [xs_ai_at, xs_upd_ne (by omega) ha, xs_ai_ne (by decide)]
                    · rw [xs_ai_ne (by decide), xs_ai_at, xs_upd_at (by omega), tb_ch_d hne hdf]
                      show _ = nI (if _ then _ else _)
                      rw [if_pos c201]
                    · rw [xs_ai_at, xs_upd_at (by omega), tb_ch_d hne hdf]
                      show _ = tb_b (if _ then _ else _)
                      rw [if_pos c201, ← ht]
                      simp only [tb_b_eq] at c232
                      simp [c232, tb_b]; rfl
                  · refine jq_iconst (v := 1) dX6_chains_235 (by decide) ?_
                    refine jq_goto (tgt := 240) dX6_chains_236 (by decide) ?_
                    refine xq_bastore dX6_chains_240 (xs_lt (by decide) hn) rfl hip rfl ?_
                    refine hnext _ (xs_fr_ai (xs_fr_ai hfZ (by decide)) (by decide)) (fun a ha => ⟨?_, ?_⟩) ⟨?_, ?_⟩
                    · rw [xs_ai_ne (by decide), xs_ai_at, xs_upd_ne (by omega) ha]
                    · rw [xs_ai_at, xs_upd_ne (by omega) ha, xs_ai_ne (by decide)]
                    · rw [xs_ai_ne (by decide), xs_ai_at, xs_upd_at (by omega), tb_ch_d hne hdf]
                      show _ = nI (if _ then _ else _)
                      rw [if_pos c201]
                    · rw [xs_ai_at, xs_upd_at (by omega), tb_ch_d hne hdf]
                      show _ = tb_b (if _ then _ else _)
                      rw [if_pos c201, ← ht]
                      simp only [tb_b_eq] at c232
                      simp [c232, tb_b]; rfl
          refine jq_istore dX6_chains_178 (by decide) rfl rfl ?_
          refine jq_iconst (v := (nI 0)) dX6_chains_180 (by decide) ?_
          refine jq_istore dX6_chains_181 (by decide) rfl rfl ?_
          exact loop3 (tb_nc w h + 1) 0 Y (by omega) hf (fun a ha => absurd ha (Nat.not_lt_zero a)) (fun a _ ha => hY a ha)
        have h168 : (tb_ch w h st e).1 (tb_are w h e) ≠ (tb_ch w h st e).1 (tb_bes w h e) → ∀ (o7 o8 : Option Value) (t : Bool), t = ((tb_ch w h st e).2.1 (tb_are w h e) != (tb_ch w h st e).2.1 (tb_bes w h e)) → jq_J l G mX6_chains (jq_R 1 0 0) jq_E0 (xs_Ye G n ad (xs_pi (fun v X' => v = tb_b (tb_fine w h st) ∧ xs_fr [35, 36] [] X X' ∧ rf_C w h st (tb_ne w h) X'))) 168 [some (.ref (ad 21)), some (.int (tb_b (tb_ch w h st e).2.2)), some (.int (nI (e))), some (.int (nI (tb_are w h e))), some (.int (nI (tb_bes w h e))), some (.int (tb_b (st e == 1))), some (.int (nI ((tb_ch w h st e).1 (tb_bes w h e)))), o7, o8] [.int (tb_b t)] n ad (xs_mem G ad Y) 0 0 := by
          intro hdf o7 o8 t ht
          refine jq_iload dX6_chains_168 rfl ?_
          refine jq_icmp_eq (tgt := 177) dX6_chains_170 (by decide) (fun c170 => ?_) (fun c170 => ?_)
          · refine jq_iconst (v := 0) dX6_chains_177 (by decide) ?_
            exact xs_nm (by first | exact tb_b1e | exact tb_b0e) (h178 hdf _ _ _ (by rw [← ht]; simp only [tb_b_eq] at c170; simp [c170]))
          · refine jq_iconst (v := 1) dX6_chains_173 (by decide) ?_
            refine jq_goto (tgt := 178) dX6_chains_174 (by decide) ?_
            exact xs_nm (by first | exact tb_b1e | exact tb_b0e) (h178 hdf _ _ _ (by rw [← ht]; simp only [tb_b_eq] at c170; simp [c170]))
        refine jq_aload_n dX6_chains_83 rfl rfl ?_
        refine xq_getR 35 fX6_49 dX6_chains_84 (xs_lt (by decide) hn) (by decide) ?_
        refine jq_iload_n dX6_chains_87 rfl rfl ?_
        refine xq_iaload dX6_chains_88 (xs_lt (by decide) hn) rfl hia (xs_rd hA.1 (by omega)) ?_
        refine jq_aload_n dX6_chains_89 rfl rfl ?_
        refine xq_getR 35 fX6_49 dX6_chains_90 (xs_lt (by decide) hn) (by decide) ?_
        refine jq_iload dX6_chains_93 rfl ?_
        refine xq_iaload dX6_chains_95 (xs_lt (by decide) hn) rfl hib (xs_rd hB.1 (by omega)) ?_
        refine jq_neN (tgt := 138) dX6_chains_96 (by decide) ⟨by omega, by omega⟩ (fun c96 => ?_) (fun c96 => ?_)
        · refine jq_aload_n dX6_chains_138 rfl rfl ?_
          refine xq_getR 35 fX6_49 dX6_chains_139 (xs_lt (by decide) hn) (by decide) ?_
          refine jq_iload dX6_chains_142 rfl ?_
          refine xq_iaload dX6_chains_144 (xs_lt (by decide) hn) rfl hib (xs_rd hB.1 (by omega)) ?_
          refine jq_istore dX6_chains_145 (by decide) rfl rfl ?_
          refine jq_aload_n dX6_chains_147 rfl rfl ?_
          refine xq_getR 36 fX6_52 dX6_chains_148 (xs_lt (by decide) hn) (by decide) ?_
          refine jq_iload_n dX6_chains_151 rfl rfl ?_
          refine xq_baload dX6_chains_152 (xs_lt (by decide) hn) rfl hia (xs_rd hA.2 (by omega)) ?_
          refine jq_aload_n dX6_chains_153 rfl rfl ?_
          refine xq_getR 36 fX6_52 dX6_chains_154 (xs_lt (by decide) hn) (by decide) ?_
          refine jq_iload dX6_chains_157 rfl ?_
          refine xq_baload dX6_chains_159 (xs_lt (by decide) hn) rfl hib (xs_rd hB.2 (by omega)) ?_
          refine jq_icmp_eq (tgt := 167) dX6_chains_160 (by decide) (fun c160 => ?_) (fun c160 => ?_)
          · refine jq_iconst (v := 0) dX6_chains_167 (by decide) ?_
            exact xs_nm (by first | exact tb_b1e | exact tb_b0e) (h168 c96 _ _ _ (by simp only [tb_b_eq] at c160; simp [c160]))
          · refine jq_iconst (v := 1) dX6_chains_163 (by decide) ?_
            refine jq_goto (tgt := 168) dX6_chains_164 (by decide) ?_
            exact xs_nm (by first | exact tb_b1e | exact tb_b0e) (h168 c96 _ _ _ (by simp only [tb_b_eq] at c160; simp [c160]))
        · refine jq_iload_n dX6_chains_99 rfl rfl ?_
          refine jq_if_eq (tgt := 133) dX6_chains_100 (by decide) (fun c100 => ?_) (fun c100 => ?_)
          · have hff := tb_b0.mp c100
            refine jq_iconst (v := 0) dX6_chains_133 (by decide) ?_
            exact xs_nm tb_b0e (h134 c96 false (by rw [hff]; rfl))
          · have hff := tb_b1.mp c100
            refine jq_aload_n dX6_chains_103 rfl rfl ?_
            refine xq_getR 36 fX6_52 dX6_chains_104 (xs_lt (by decide) hn) (by decide) ?_
            refine jq_iload_n dX6_chains_107 rfl rfl ?_
            refine xq_baload dX6_chains_108 (xs_lt (by decide) hn) rfl hia (xs_rd hA.2 (by omega)) ?_
            refine jq_aload_n dX6_chains_109 rfl rfl ?_
            refine xq_getR 36 fX6_52 dX6_chains_110 (xs_lt (by decide) hn) (by decide) ?_
            refine jq_iload dX6_chains_113 rfl ?_
            refine xq_baload dX6_chains_115 (xs_lt (by decide) hn) rfl hib (xs_rd hB.2 (by omega)) ?_
            refine jq_icmp_eq (tgt := 123) dX6_chains_116 (by decide) (fun c116 => ?_) (fun c116 => ?_)
            · refine jq_iconst (v := 0) dX6_chains_123 (by decide) ?_
              exact xs_nm (by first | exact tb_b1e | exact tb_b0e) (h124 c96 hff _ (by simp only [tb_b_eq] at c116; simp [c116]))
            · refine jq_iconst (v := 1) dX6_chains_119 (by decide) ?_
              refine jq_goto (tgt := 124) dX6_chains_120 (by decide) ?_
              exact xs_nm (by first | exact tb_b1e | exact tb_b0e) (h124 c96 hff _ (by simp only [tb_b_eq] at c116; simp [c116]))
      refine jq_iload_n dX6_chains_34 rfl rfl ?_
      refine jq_aload_n dX6_chains_35 rfl rfl ?_
      refine xq_getI fX6_74 dX6_chains_36 (xs_lt (by decide) hn) (by decide) hE ?_
      refine jq_geN (tgt := 253) dX6_chains_39 (by decide) ⟨by omega, by omega⟩ (fun c39 => ?_) (fun c39 => ?_)
      · exact absurd c39 (by omega)
      · refine jq_aload_n dX6_chains_42 rfl rfl ?_
        refine xq_getR 29 fX6_31 dX6_chains_43 (xs_lt (by decide) hn) (by decide) ?_
        refine jq_iload_n dX6_chains_46 rfl rfl ?_
        refine xq_iaload dX6_chains_47 (xs_lt (by decide) hn) rfl hi (xs_rd h3.1 (by omega)) ?_
        refine jq_eqZ (tgt := 247) dX6_chains_48 (by decide) (by omega) (fun c48 => ?_) (fun c48 => ?_)
        · exact hx _ _ _ _ _ _ _ Y (by rw [tb_ch_0 c48]) hf (fun a ha => by rw [tb_ch_0 c48]; exact hY a ha)
        · refine jq_aload_n dX6_chains_51 rfl rfl ?_
          refine xq_getR 24 fX6_16 dX6_chains_52 (xs_lt (by decide) hn) (by decide) ?_
          refine jq_iload_n dX6_chains_55 rfl rfl ?_
          refine xq_iaload dX6_chains_56 (xs_lt (by decide) hn) rfl hi (xs_rd h1 (by omega)) ?_
          refine jq_istore_n dX6_chains_57 rfl (by decide) rfl rfl ?_
          refine jq_aload_n dX6_chains_58 rfl rfl ?_
          refine xq_getR 25 fX6_19 dX6_chains_59 (xs_lt (by decide) hn) (by decide) ?_
          refine jq_iload_n dX6_chains_62 rfl rfl ?_
          refine xq_iaload dX6_chains_63 (xs_lt (by decide) hn) rfl hi (xs_rd h2 (by omega)) ?_
          refine jq_istore dX6_chains_64 (by decide) rfl rfl ?_
          refine jq_aload_n dX6_chains_66 rfl rfl ?_
          refine xq_getR 29 fX6_31 dX6_chains_67 (xs_lt (by decide) hn) (by decide) ?_
          refine jq_iload_n dX6_chains_70 rfl rfl ?_
          refine xq_iaload dX6_chains_71 (xs_lt (by decide) hn) rfl hi (xs_rd h3.1 (by omega)) ?_
          refine jq_iconst (v := (nI 1)) dX6_chains_72 (by decide) ?_
          refine jq_neN (tgt := 80) dX6_chains_73 (by decide) ⟨by omega, by omega⟩ (fun c73 => ?_) (fun c73 => ?_)
          · refine jq_iconst (v := 0) dX6_chains_80 (by decide) ?_
            refine xs_nm (v' := tb_b (st e == 1)) (by first | exact tb_b_t (by simp [c73]) | exact tb_b_f (by simp [c73])) ?_
            refine jq_istore dX6_chains_81 (by decide) rfl rfl ?_
            exact h83 c48
          · refine jq_iconst (v := 1) dX6_chains_76 (by decide) ?_
            refine jq_goto (tgt := 81) dX6_chains_77 (by decide) ?_
            refine xs_nm (v' := tb_b (st e == 1)) (by first | exact tb_b_t (by simp [c73]) | exact tb_b_f (by simp [c73])) ?_
            refine jq_istore dX6_chains_81 (by decide) rfl rfl ?_
            exact h83 c48
  have loop1 : ∀ (k p : Nat) (Y : xs_T), p + k = tb_nc w h + 1 → xs_fr [35, 36] [] X Y → (∀ a, a < p → Y.2.2.1 35 a = nI a ∧ Y.2.2.1 36 a = tb_b false) → jq_J l G mX6_chains (jq_R 1 0 0) jq_E0 (xs_Ye G n ad (xs_pi (fun v X' => v = tb_b (tb_fine w h st) ∧ xs_fr [35, 36] [] X X' ∧ rf_C w h st (tb_ne w h) X'))) 2 [some (.ref (ad 21)), some (.int (nI (p))), none, none, none, none, none, none, none] [] n ad (xs_mem G ad Y) 0 0 := by
    intro k
    induction k with
    | zero =>
      intro p Y hk hf hY
      have hC := xs_fi hf 21 2 hT.2.2.2.1
      refine jq_iload_n dX6_chains_2 rfl rfl ?_
      refine jq_aload_n dX6_chains_3 rfl rfl ?_
      refine xq_getI fX6_71 dX6_chains_4 (xs_lt (by decide) hn) (by decide) hC ?_
      refine jq_gtN (tgt := 30) dX6_chains_7 (by decide) ⟨by omega, by omega⟩ (fun c7 => ?_) (fun c7 => ?_)
      · refine jq_iconst (v := 1) dX6_chains_30 (by decide) ?_
        refine jq_istore_n dX6_chains_31 rfl (by decide) rfl rfl ?_
        refine jq_iconst (v := (nI 0)) dX6_chains_32 (by decide) ?_
        refine jq_istore_n dX6_chains_33 rfl (by decide) rfl rfl ?_
        exact loop2 (tb_ne w h) 0 _ _ _ _ _ _ Y (by omega) hf (fun a ha => hY a (by omega))
      · exact absurd c7 (by omega)
    | succ k ih =>
      intro p Y hk hf hY
      have hC := xs_fi hf 21 2 hT.2.2.2.1
      have hi : vp_in (nI p) 17 := vp_inN (by omega) (by decide)
      refine jq_iload_n dX6_chains_2 rfl rfl ?_
      refine jq_aload_n dX6_chains_3 rfl rfl ?_
      refine xq_getI fX6_71 dX6_chains_4 (xs_lt (by decide) hn) (by decide) hC ?_
      refine jq_gtN (tgt := 30) dX6_chains_7 (by decide) ⟨by omega, by omega⟩ (fun c7 => ?_) (fun c7 => ?_)
      · exact absurd c7 (by omega)
      · refine jq_aload_n dX6_chains_10 rfl rfl ?_
        refine xq_getR 35 fX6_49 dX6_chains_11 (xs_lt (by decide) hn) (by decide) ?_
        refine jq_iload_n dX6_chains_14 rfl rfl ?_
        refine jq_iload_n dX6_chains_15 rfl rfl ?_
        refine xq_iastore dX6_chains_16 (xs_lt (by decide) hn) rfl hi ?_
        refine jq_aload_n dX6_chains_17 rfl rfl ?_
        refine xq_getR 36 fX6_52 dX6_chains_18 (xs_lt (by decide) hn) (by decide) ?_
        refine jq_iload_n dX6_chains_21 rfl rfl ?_
        refine jq_iconst (v := 0) dX6_chains_22 (by decide) ?_
        refine xq_bastore dX6_chains_23 (xs_lt (by decide) hn) rfl hi rfl ?_
        refine jq_iincN dX6_chains_24 (by decide) rfl rfl rfl ?_
        refine jq_goto (tgt := 2) dX6_chains_27 (by decide) ?_
        refine ih (p + 1) _ (by omega) (xs_fr_ai (xs_fr_ai hf (by decide)) (by decide)) (fun j hj => ?_)
        rw [xs_ai_at, xs_ai_ne (by decide), xs_ai_at]
        rcases Nat.lt_or_ge j p with q | q
        · rw [xs_upd_ne (by omega) (by omega), xs_upd_ne (by omega) (by omega)]; exact hY j q
        · rw [show j = p by omega, xs_upd_at (by omega), xs_upd_at (by omega)]; exact ⟨rfl, rfl⟩
  refine xs_Ct_of (L := [some (.ref (ad 21)), none, none, none, none, none, none, none, none]) rfl (Nat.le_of_ble_eq_true rfl) rfl ?_
  refine jq_iconst (v := (nI 0)) dX6_chains_0 (by decide) ?_
  refine jq_istore_n dX6_chains_1 rfl (by decide) rfl rfl ?_
  exact loop1 (tb_nc w h + 1) 0 X (by omega) xs_fr_rf (fun j hj => absurd hj (Nat.not_lt_zero j))
