set_option maxHeartbeats 4000000 in
theorem c_X6_labels {l : Launch} {G : jq_G} {n : Nat} {ad : Nat → Nat} {X : xs_T} (hn : 39 ≤ n) {w h : Nat} {st : Nat → Nat} (hT : rf_T w h X) (hS : rf_S w h st X) : xs_Ct l G mX6_labels 1 [.ref (ad 21)] n ad X (xs_pv (fun X' => xs_fr [34] [] X X' ∧ rf_L w h (tb_isL st) X')) := by
  have hz := tb_sizes hT.1
  have loop2 : ∀ (k e : Nat) (o2 o3 o4 : Option Value) (Y : xs_T), e + k = tb_ne w h → xs_fr [34] [] X Y → (∀ p, p < tb_np w h → Y.2.2.1 34 p = nI (tb_lab w h (tb_isL st) e p)) → jq_J l G mX6_labels (jq_R 1 0 0) jq_E0 (xs_Ye G n ad (xs_pv (fun X' => xs_fr [34] [] X X' ∧ rf_L w h (tb_isL st) X'))) 25 [some (.ref (ad 21)), some (.int (nI (e))), o2, o3, o4] [] n ad (xs_mem G ad Y) 0 0 := by
    intro k
    induction k with
    | zero =>
      intro e o2 o3 o4 Y hk hf hY
      have hE := xs_fi hf 21 3 hT.2.2.2.2.1
      refine jq_iload_n dX6_labels_25 rfl rfl ?_
      refine jq_aload_n dX6_labels_26 rfl rfl ?_
      refine xq_getI fX6_74 dX6_labels_27 (xs_lt (by decide) hn) (by decide) hE ?_
      refine jq_geN (tgt := 223) dX6_labels_30 (by decide) ⟨by omega, by omega⟩ (fun c30 => ?_) (fun c30 => ?_)
      · exact xq_return rfl dX6_labels_223 rfl (⟨rfl, hf, by intro p hp; rw [hY p hp, show e = tb_ne w h by omega]; rfl⟩)
      · exact absurd c30 (by omega)
    | succ k ih =>
      intro e o2 o3 o4 Y hk hf hY
      have hE := xs_fi hf 21 3 hT.2.2.2.2.1
      have he : e < tb_ne w h := by omega
      have hT' := rf_fr hT hf
      have h1 := hT'.2.2.2.2.2.2.1 e he
      have h2 := hT'.2.2.2.2.2.2.2.1 e he
      have h3 := rf_sfr hS hf (by decide) e he
      have hi : vp_in (nI e) 40 := vp_inN (by omega) (by decide)
      have hb := tb_ends hT.1 e he
      have ha1 := hY _ hb.1
      have ha2 := hY _ hb.2.1
      have hi1 : vp_in (nI (tb_one w h e)) 25 := vp_inN (by omega) (by decide)
      have hi2 : vp_in (nI (tb_oth w h e)) 25 := vp_inN (by omega) (by decide)
      have hla : tb_lab w h (tb_isL st) e (tb_one w h e) < 25 := by have := tb_lab_le w h (tb_isL st) e (tb_one w h e); omega
      have hlb : tb_lab w h (tb_isL st) e (tb_oth w h e) < 25 := by have := tb_lab_le w h (tb_isL st) e (tb_oth w h e); omega
      -- past the edge
      have hx : ∀ (o2 o3 o4 : Option Value) (Z : xs_T), xs_fr [34] [] X Z → (∀ p, p < tb_np w h → Z.2.2.1 34 p = nI (tb_lab w h (tb_isL st) (e + 1) p)) → jq_J l G mX6_labels (jq_R 1 0 0) jq_E0 (xs_Ye G n ad (xs_pv (fun X' => xs_fr [34] [] X X' ∧ rf_L w h (tb_isL st) X'))) 217 [some (.ref (ad 21)), some (.int (nI (e))), o2, o3, o4] [] n ad (xs_mem G ad Z) 0 0 := by
        intro o2 o3 o4 Z hfZ hZ
        refine jq_iincN dX6_labels_217 (by decide) rfl rfl rfl ?_
        refine jq_goto (tgt := 25) dX6_labels_220 (by decide) ?_
        exact ih (e + 1) _ _ _ Z (by omega) hfZ hZ
      have hskip : ¬ (tb_isL st e = true ∧ tb_lab w h (tb_isL st) e (tb_one w h e) ≠ tb_lab w h (tb_isL st) e (tb_oth w h e)) → ∀ (o2 o3 o4 : Option Value), jq_J l G mX6_labels (jq_R 1 0 0) jq_E0 (xs_Ye G n ad (xs_pv (fun X' => xs_fr [34] [] X X' ∧ rf_L w h (tb_isL st) X'))) 217 [some (.ref (ad 21)), some (.int (nI (e))), o2, o3, o4] [] n ad (xs_mem G ad Y) 0 0 := by
        intro hno o2 o3 o4
        exact hx _ _ _ Y hf (fun p hp => by rw [hY p hp, tb_lab_n hno])
      generalize hA : tb_lab w h (tb_isL st) e (tb_one w h e) = a at *
      generalize hB : tb_lab w h (tb_isL st) e (tb_oth w h e) = b at *
      have hlh := tb_lohi hla hlb
      -- the inner loop
      have h169 : tb_isL st e = true → a ≠ b → ∀ (o3 o4 : Option Value), jq_J l G mX6_labels (jq_R 1 0 0) jq_E0 (xs_Ye G n ad (xs_pv (fun X' => xs_fr [34] [] X X' ∧ rf_L w h (tb_isL st) X'))) 169 [some (.ref (ad 21)), some (.int (nI (e))), some (.int (nI (tb_lo a b))), o3, o4] [.int (nI (tb_hi a b))] n ad (xs_mem G ad Y) 0 0 := by
        intro hL hab o3 o4
        have loop3 : ∀ (k p : Nat) (Z : xs_T), p + k = tb_np w h → xs_fr [34] [] X Z → (∀ j, j < p → Z.2.2.1 34 j = nI (tb_lab w h (tb_isL st) (e + 1) j)) → (∀ j, p ≤ j → j < tb_np w h → Z.2.2.1 34 j = nI (tb_lab w h (tb_isL st) e j)) → jq_J l G mX6_labels (jq_R 1 0 0) jq_E0 (xs_Ye G n ad (xs_pv (fun X' => xs_fr [34] [] X X' ∧ rf_L w h (tb_isL st) X'))) 173 [some (.ref (ad 21)), some (.int (nI (e))), some (.int (nI (tb_lo a b))), some (.int (nI (tb_hi a b))), some (.int (nI (p)))] [] n ad (xs_mem G ad Z) 0 0 := by
          intro k
          induction k with
          | zero =>
            intro p Z hk hfZ hZ1 hZ2
            have hP := xs_fi hfZ 21 4 hT.2.2.2.2.2.1
            refine jq_iload dX6_labels_173 rfl ?_
            refine jq_aload_n dX6_labels_175 rfl rfl ?_
            refine xq_getI fX6_83 dX6_labels_176 (xs_lt (by decide) hn) (by decide) hP ?_
            refine jq_geN (tgt := 217) dX6_labels_179 (by decide) ⟨by omega, by omega⟩ (fun c179 => ?_) (fun c179 => ?_)
            · exact hx _ _ _ Z hfZ (fun j hj => hZ1 j (by omega))
            · exact absurd c179 (by omega)
          | succ k ih3 =>
            intro p Z hk hfZ hZ1 hZ2
            have hP := xs_fi hfZ 21 4 hT.2.2.2.2.2.1
            have hp := hZ2 p (Nat.le_refl p) (by omega)
            have hpl := tb_lab_le w h (tb_isL st) e p
            have hip : vp_in (nI p) 25 := vp_inN (by omega) (by decide)
            have hnew : ∀ v : Int32, v = nI (tb_lab w h (tb_isL st) (e + 1) p) → jq_J l G mX6_labels (jq_R 1 0 0) jq_E0 (xs_Ye G n ad (xs_pv (fun X' => xs_fr [34] [] X X' ∧ rf_L w h (tb_isL st) X'))) 210 [some (.ref (ad 21)), some (.int (nI (e))), some (.int (nI (tb_lo a b))), some (.int (nI (tb_hi a b))), some (.int (nI (p)))] [.int (v), .int (nI (p)), .ref (ad 34)] n ad (xs_mem G ad Z) 0 0 := by
              intro v hv
              refine xq_iastore dX6_labels_210 (xs_lt (by decide) hn) rfl hip ?_
              refine jq_iincN dX6_labels_211 (by decide) rfl rfl rfl ?_
              refine jq_goto (tgt := 173) dX6_labels_214 (by decide) ?_
              refine ih3 (p + 1) _ (by omega) (xs_fr_ai hfZ (by decide)) (fun j hj => ?_) (fun j hj hj2 => ?_)
              · rw [xs_ai_at]
                rcases Nat.lt_or_ge j p with q | q
                · rw [xs_upd_ne (by omega) (by omega)]; exact hZ1 j q
                · rw [show j = p by omega, xs_upd_at (by omega), hv]
              · rw [xs_ai_at, xs_upd_ne (by omega) (by omega)]; exact hZ2 j (by omega) hj2
            have hrec := tb_lab_y hL (by rw [hA, hB]; exact hab) p
            rw [hA, hB] at hrec
            refine jq_iload dX6_labels_173 rfl ?_
            refine jq_aload_n dX6_labels_175 rfl rfl ?_
            refine xq_getI fX6_83 dX6_labels_176 (xs_lt (by decide) hn) (by decide) hP ?_
            refine jq_geN (tgt := 217) dX6_labels_179 (by decide) ⟨by omega, by omega⟩ (fun c179 => ?_) (fun c179 => ?_)
            · exact absurd c179 (by omega)
            · refine jq_aload_n dX6_labels_182 rfl rfl ?_
              refine xq_getR 34 fX6_46 dX6_labels_183 (xs_lt (by decide) hn) (by decide) ?_
              refine jq_iload dX6_labels_186 rfl ?_
              refine jq_aload_n dX6_labels_188 rfl rfl ?_
              refine xq_getR 34 fX6_46 dX6_labels_189 (xs_lt (by decide) hn) (by decide) ?_
              refine jq_iload dX6_labels_192 rfl ?_
              refine xq_iaload dX6_labels_194 (xs_lt (by decide) hn) rfl hip (xs_rd hp (by omega)) ?_
              refine jq_iload_n dX6_labels_195 rfl rfl ?_
              refine jq_neN (tgt := 203) dX6_labels_196 (by decide) ⟨by omega, by omega⟩ (fun c196 => ?_) (fun c196 => ?_)
              · refine jq_aload_n dX6_labels_203 rfl rfl ?_
                refine xq_getR 34 fX6_46 dX6_labels_204 (xs_lt (by decide) hn) (by decide) ?_
                refine jq_iload dX6_labels_207 rfl ?_
                refine xq_iaload dX6_labels_209 (xs_lt (by decide) hn) rfl hip (xs_rd hp (by omega)) ?_
                exact hnew _ (by rw [hrec]; first | rw [if_pos c196] | rw [if_neg c196])
              · refine jq_iload_n dX6_labels_199 rfl rfl ?_
                refine jq_goto (tgt := 210) dX6_labels_200 (by decide) ?_
                exact hnew _ (by rw [hrec]; first | rw [if_pos c196] | rw [if_neg c196])
        refine jq_istore_n dX6_labels_169 rfl (by decide) rfl rfl ?_
        refine jq_iconst (v := (nI 0)) dX6_labels_170 (by decide) ?_
        refine jq_istore dX6_labels_171 (by decide) rfl rfl ?_
        exact loop3 (tb_np w h) 0 Y (by omega) hf (fun j hj => absurd hj (Nat.not_lt_zero j)) (fun j _ hj => hY j hj)
      have h118 : tb_isL st e = true → a ≠ b → ∀ (o2 o3 o4 : Option Value), jq_J l G mX6_labels (jq_R 1 0 0) jq_E0 (xs_Ye G n ad (xs_pv (fun X' => xs_fr [34] [] X X' ∧ rf_L w h (tb_isL st) X'))) 118 [some (.ref (ad 21)), some (.int (nI (e))), o2, o3, o4] [.int (nI (tb_lo a b))] n ad (xs_mem G ad Y) 0 0 := by
        intro hL hab o2 o3 o4
        refine jq_istore_n dX6_labels_118 rfl (by decide) rfl rfl ?_
        refine jq_aload_n dX6_labels_119 rfl rfl ?_
        refine xq_getR 34 fX6_46 dX6_labels_120 (xs_lt (by decide) hn) (by decide) ?_
        refine jq_aload_n dX6_labels_123 rfl rfl ?_
        refine xq_getR 22 fX6_7 dX6_labels_124 (xs_lt (by decide) hn) (by decide) ?_
        refine jq_iload_n dX6_labels_127 rfl rfl ?_
        refine xq_iaload dX6_labels_128 (xs_lt (by decide) hn) rfl hi (xs_rd h1 (by omega)) ?_
        refine xq_iaload dX6_labels_129 (xs_lt (by decide) hn) rfl hi1 (xs_rd ha1 (by omega)) ?_
        refine jq_aload_n dX6_labels_130 rfl rfl ?_
        refine xq_getR 34 fX6_46 dX6_labels_131 (xs_lt (by decide) hn) (by decide) ?_
        refine jq_aload_n dX6_labels_134 rfl rfl ?_
        refine xq_getR 23 fX6_13 dX6_labels_135 (xs_lt (by decide) hn) (by decide) ?_
        refine jq_iload_n dX6_labels_138 rfl rfl ?_
        refine xq_iaload dX6_labels_139 (xs_lt (by decide) hn) rfl hi (xs_rd h2 (by omega)) ?_
        refine xq_iaload dX6_labels_140 (xs_lt (by decide) hn) rfl hi2 (xs_rd ha2 (by omega)) ?_
        refine jq_geN (tgt := 158) dX6_labels_141 (by decide) ⟨by omega, by omega⟩ (fun c141 => ?_) (fun c141 => ?_)
        · refine jq_aload_n dX6_labels_158 rfl rfl ?_
          refine xq_getR 34 fX6_46 dX6_labels_159 (xs_lt (by decide) hn) (by decide) ?_
          refine jq_aload_n dX6_labels_162 rfl rfl ?_
          refine xq_getR 22 fX6_7 dX6_labels_163 (xs_lt (by decide) hn) (by decide) ?_
          refine jq_iload_n dX6_labels_166 rfl rfl ?_
          refine xq_iaload dX6_labels_167 (xs_lt (by decide) hn) rfl hi (xs_rd h1 (by omega)) ?_
          refine xq_iaload dX6_labels_168 (xs_lt (by decide) hn) rfl hi1 (xs_rd ha1 (by omega)) ?_
          exact xs_nm (congrArg nI (by first | exact tb_hi_t c141 | exact tb_hi_f c141)) (h169 hL hab _ _)
        · refine jq_aload_n dX6_labels_144 rfl rfl ?_
          refine xq_getR 34 fX6_46 dX6_labels_145 (xs_lt (by decide) hn) (by decide) ?_
          refine jq_aload_n dX6_labels_148 rfl rfl ?_
          refine xq_getR 23 fX6_13 dX6_labels_149 (xs_lt (by decide) hn) (by decide) ?_
          refine jq_iload_n dX6_labels_152 rfl rfl ?_
          refine xq_iaload dX6_labels_153 (xs_lt (by decide) hn) rfl hi (xs_rd h2 (by omega)) ?_
          refine xq_iaload dX6_labels_154 (xs_lt (by decide) hn) rfl hi2 (xs_rd ha2 (by omega)) ?_
          refine jq_goto (tgt := 169) dX6_labels_155 (by decide) ?_
          exact xs_nm (congrArg nI (by first | exact tb_hi_t c141 | exact tb_hi_f c141)) (h169 hL hab _ _)
      refine jq_iload_n dX6_labels_25 rfl rfl ?_
      refine jq_aload_n dX6_labels_26 rfl rfl ?_
      refine xq_getI fX6_74 dX6_labels_27 (xs_lt (by decide) hn) (by decide) hE ?_
      refine jq_geN (tgt := 223) dX6_labels_30 (by decide) ⟨by omega, by omega⟩ (fun c30 => ?_) (fun c30 => ?_)
      · exact absurd c30 (by omega)
      · refine jq_aload_n dX6_labels_33 rfl rfl ?_
        refine xq_getR 29 fX6_31 dX6_labels_34 (xs_lt (by decide) hn) (by decide) ?_
        refine jq_iload_n dX6_labels_37 rfl rfl ?_
        refine xq_iaload dX6_labels_38 (xs_lt (by decide) hn) rfl hi (xs_rd h3.1 (by omega)) ?_
        refine jq_iconst (v := (nI 1)) dX6_labels_39 (by decide) ?_
        refine jq_neN (tgt := 217) dX6_labels_40 (by decide) ⟨by omega, by omega⟩ (fun c40 => ?_) (fun c40 => ?_)
        · exact hskip (by simp [tb_isL, c40]) _ _ _
        · have hL : tb_isL st e = true := by simp [tb_isL, c40]
          refine jq_aload_n dX6_labels_43 rfl rfl ?_
          refine xq_getR 34 fX6_46 dX6_labels_44 (xs_lt (by decide) hn) (by decide) ?_
          refine jq_aload_n dX6_labels_47 rfl rfl ?_
          refine xq_getR 22 fX6_7 dX6_labels_48 (xs_lt (by decide) hn) (by decide) ?_
          refine jq_iload_n dX6_labels_51 rfl rfl ?_
          refine xq_iaload dX6_labels_52 (xs_lt (by decide) hn) rfl hi (xs_rd h1 (by omega)) ?_
          refine xq_iaload dX6_labels_53 (xs_lt (by decide) hn) rfl hi1 (xs_rd ha1 (by omega)) ?_
          refine jq_aload_n dX6_labels_54 rfl rfl ?_
          refine xq_getR 34 fX6_46 dX6_labels_55 (xs_lt (by decide) hn) (by decide) ?_
          refine jq_aload_n dX6_labels_58 rfl rfl ?_
          refine xq_getR 23 fX6_13 dX6_labels_59 (xs_lt (by decide) hn) (by decide) ?_
          refine jq_iload_n dX6_labels_62 rfl rfl ?_
          refine xq_iaload dX6_labels_63 (xs_lt (by decide) hn) rfl hi (xs_rd h2 (by omega)) ?_
          refine xq_iaload dX6_labels_64 (xs_lt (by decide) hn) rfl hi2 (xs_rd ha2 (by omega)) ?_
          refine jq_eqN (tgt := 217) dX6_labels_65 (by decide) ⟨by omega, by omega⟩ (fun c65 => ?_) (fun c65 => ?_)
          · exact hskip (fun q => q.2 c65) _ _ _
          · refine jq_aload_n dX6_labels_68 rfl rfl ?_
            refine xq_getR 34 fX6_46 dX6_labels_69 (xs_lt (by decide) hn) (by decide) ?_
            refine jq_aload_n dX6_labels_72 rfl rfl ?_
            refine xq_getR 22 fX6_7 dX6_labels_73 (xs_lt (by decide) hn) (by decide) ?_
            refine jq_iload_n dX6_labels_76 rfl rfl ?_
            refine xq_iaload dX6_labels_77 (xs_lt (by decide) hn) rfl hi (xs_rd h1 (by omega)) ?_
            refine xq_iaload dX6_labels_78 (xs_lt (by decide) hn) rfl hi1 (xs_rd ha1 (by omega)) ?_
            refine jq_aload_n dX6_labels_79 rfl rfl ?_
            refine xq_getR 34 fX6_46 dX6_labels_80 (xs_lt (by decide) hn) (by decide) ?_
            refine jq_aload_n dX6_labels_83 rfl rfl ?_
            refine xq_getR 23 fX6_13 dX6_labels_84 (xs_lt (by decide) hn) (by decide) ?_
            refine jq_iload_n dX6_labels_87 rfl rfl ?_
            refine xq_iaload dX6_labels_88 (xs_lt (by decide) hn) rfl hi (xs_rd h2 (by omega)) ?_
            refine xq_iaload dX6_labels_89 (xs_lt (by decide) hn) rfl hi2 (xs_rd ha2 (by omega)) ?_
            refine jq_geN (tgt := 107) dX6_labels_90 (by decide) ⟨by omega, by omega⟩ (fun c90 => ?_) (fun c90 => ?_)
            · refine jq_aload_n dX6_labels_107 rfl rfl ?_
              refine xq_getR 34 fX6_46 dX6_labels_108 (xs_lt (by decide) hn) (by decide) ?_
              refine jq_aload_n dX6_labels_111 rfl rfl ?_
              refine xq_getR 23 fX6_13 dX6_labels_112 (xs_lt (by decide) hn) (by decide) ?_
              refine jq_iload_n dX6_labels_115 rfl rfl ?_
              refine xq_iaload dX6_labels_116 (xs_lt (by decide) hn) rfl hi (xs_rd h2 (by omega)) ?_
              refine xq_iaload dX6_labels_117 (xs_lt (by decide) hn) rfl hi2 (xs_rd ha2 (by omega)) ?_
              exact xs_nm (congrArg nI (by first | exact tb_lo_t c90 | exact tb_lo_f c90)) (h118 hL c65 _ _ _)
            · refine jq_aload_n dX6_labels_93 rfl rfl ?_
              refine xq_getR 34 fX6_46 dX6_labels_94 (xs_lt (by decide) hn) (by decide) ?_
              refine jq_aload_n dX6_labels_97 rfl rfl ?_
              refine xq_getR 22 fX6_7 dX6_labels_98 (xs_lt (by decide) hn) (by decide) ?_
              refine jq_iload_n dX6_labels_101 rfl rfl ?_
              refine xq_iaload dX6_labels_102 (xs_lt (by decide) hn) rfl hi (xs_rd h1 (by omega)) ?_
              refine xq_iaload dX6_labels_103 (xs_lt (by decide) hn) rfl hi1 (xs_rd ha1 (by omega)) ?_
              refine jq_goto (tgt := 118) dX6_labels_104 (by decide) ?_
              exact xs_nm (congrArg nI (by first | exact tb_lo_t c90 | exact tb_lo_f c90)) (h118 hL c65 _ _ _)
  have loop1 : ∀ (k p : Nat) (Y : xs_T), p + k = tb_np w h → xs_fr [34] [] X Y → (∀ j, j < p → Y.2.2.1 34 j = nI j) → jq_J l G mX6_labels (jq_R 1 0 0) jq_E0 (xs_Ye G n ad (xs_pv (fun X' => xs_fr [34] [] X X' ∧ rf_L w h (tb_isL st) X'))) 2 [some (.ref (ad 21)), some (.int (nI (p))), none, none, none] [] n ad (xs_mem G ad Y) 0 0 := by
    intro k
    induction k with
    | zero =>
      intro p Y hk hf hY
      have hP := xs_fi hf 21 4 hT.2.2.2.2.2.1
      refine jq_iload_n dX6_labels_2 rfl rfl ?_
      refine jq_aload_n dX6_labels_3 rfl rfl ?_
      refine xq_getI fX6_83 dX6_labels_4 (xs_lt (by decide) hn) (by decide) hP ?_
      refine jq_geN (tgt := 23) dX6_labels_7 (by decide) ⟨by omega, by omega⟩ (fun c7 => ?_) (fun c7 => ?_)
      · refine jq_iconst (v := (nI 0)) dX6_labels_23 (by decide) ?_
        refine jq_istore_n dX6_labels_24 rfl (by decide) rfl rfl ?_
        exact loop2 (tb_ne w h) 0 _ _ _ Y (by omega) hf (fun j hj => hY j (by omega))
      · exact absurd c7 (by omega)
    | succ k ih =>
      intro p Y hk hf hY
      have hP := xs_fi hf 21 4 hT.2.2.2.2.2.1
      have hi : vp_in (nI p) 25 := vp_inN (by omega) (by decide)
      refine jq_iload_n dX6_labels_2 rfl rfl ?_
      refine jq_aload_n dX6_labels_3 rfl rfl ?_
      refine xq_getI fX6_83 dX6_labels_4 (xs_lt (by decide) hn) (by decide) hP ?_
      refine jq_geN (tgt := 23) dX6_labels_7 (by decide) ⟨by omega, by omega⟩ (fun c7 => ?_) (fun c7 => ?_)
      · exact absurd c7 (by omega)
      · refine jq_aload_n dX6_labels_10 rfl rfl ?_
        refine xq_getR 34 fX6_46 dX6_labels_11 (xs_lt (by decide) hn) (by decide) ?_
        refine jq_iload_n dX6_labels_14 rfl rfl ?_
        refine jq_iload_n dX6_labels_15 rfl rfl ?_
        refine xq_iastore dX6_labels_16 (xs_lt (by decide) hn) rfl hi ?_
        refine jq_iincN dX6_labels_17 (by decide) rfl rfl rfl ?_
        refine jq_goto (tgt := 2) dX6_labels_20 (by decide) ?_
        refine ih (p + 1) _ (by omega) (xs_fr_ai hf (by decide)) (fun j hj => ?_)
        rw [xs_ai_at]
        rcases Nat.lt_or_ge j p with q | q
        · rw [xs_upd_ne (by omega) (by omega)]; exact hY j q
        · rw [show j = p by omega, xs_upd_at (by omega)]
  refine xs_Ct_of (L := [some (.ref (ad 21)), none, none, none, none]) rfl (Nat.le_of_ble_eq_true rfl) rfl ?_
  refine jq_iconst (v := (nI 0)) dX6_labels_0 (by decide) ?_
  refine jq_istore_n dX6_labels_1 rfl (by decide) rfl rfl ?_
  exact loop1 (tb_np w h) 0 X (by omega) xs_fr_rf (fun j hj => absurd hj (Nat.not_lt_zero j))
