/-! the reference's findLoops -/
theorem dv_neg2 {S : Nat} (hS : S < 2 ^ 63) : lN S &&& -lN S = lN (dv_low S) := by
  by_cases q : S = 0
  · subst q; exact dv_neg0
  · exact dv_neg hS q
set_option maxHeartbeats 4000000 in
theorem c_X6_isAhead {l : Launch} {G : jq_G} {n : Nat} {ad : Nat → Nat} {X : xs_T} {S T : Nat} (hS : S < 2 ^ 40) (hT : T < 2 ^ 40) : xs_Ct l G mX6_isAhead 1 [.long (lN S), .long (lN T)] n ad X (xs_pd (some (.int (tb_b (dv_aheadB S T)))) X) := by
  have hD : S ^^^ T < 2 ^ 40 := Nat.xor_lt_two_pow hS hT
  have hlt : S &&& dv_low (S ^^^ T) < 2 ^ 40 := dv_and_lt hS
  refine xs_Ct_of (L := [some (.long (lN S)), none, some (.long (lN T)), none, none, none]) rfl (Nat.le_of_ble_eq_true rfl) rfl ?_
  refine jq_lload_n dX6_isAhead_0 rfl rfl ?_
  refine jq_lload_n dX6_isAhead_1 rfl rfl ?_
  refine jq_lxor dX6_isAhead_2 ?_
  rw [fb_xorL]
  refine jq_lstore dX6_isAhead_3 (by decide) rfl rfl ?_
  refine jq_lload_n dX6_isAhead_5 rfl rfl ?_
  refine jq_lload dX6_isAhead_6 rfl ?_
  refine jq_land dX6_isAhead_8 ?_
  refine jq_lload dX6_isAhead_9 rfl ?_
  refine jq_lneg dX6_isAhead_11 ?_
  refine jq_land dX6_isAhead_12 ?_
  rw [Int64.and_assoc, dv_neg2 (by omega), fb_andL]
  refine jq_lconst (v := 0) dX6_isAhead_13 (by decide) ?_
  refine jq_lcmp dX6_isAhead_14 ?_
  refine jq_if_eq (tgt := 22) dX6_isAhead_15 (by decide) (fun c15 => ?_) (fun c15 => ?_)
  · have d15 := (lN_eq0 (by omega)).mp c15
    refine jq_iconst (v := 0) dX6_isAhead_22 (by decide) ?_
    exact xq_ireturn dX6_isAhead_23 rfl rfl (⟨by unfold dv_aheadB; simp [*, tb_b], rfl⟩)
  · have d15 : ¬ S &&& dv_low (S ^^^ T) = 0 := fun q => c15 ((lN_eq0 (by omega)).mpr q)
    refine jq_iconst (v := 1) dX6_isAhead_18 (by decide) ?_
    refine jq_goto (tgt := 23) dX6_isAhead_19 (by decide) ?_
    exact xq_ireturn dX6_isAhead_23 rfl rfl (⟨by unfold dv_aheadB; simp [*, tb_b], rfl⟩)
set_option maxHeartbeats 8000000 in
theorem c_X6_findLoops {l : Launch} {G : jq_G} {n : Nat} {ad : Nat → Nat} {X : xs_T} (hn : 39 ≤ n) {w h : Nat} (hT : rf_T w h X) (hLC : rf_LC X) : xs_Ct l G mX6_findLoops 3 [.ref (ad 21)] n ad X (xs_pv (fun X' => xs_fr rf_SF rf_FF X X' ∧ X'.1 21 25 = nI (10 * w + h) ∧ rf_Ls (dv_loops w h) X')) := by
  have hW := hT.1
  have hz := tb_sizes hW
  have hW2 := hW
  obtain ⟨hw1, hw2, hh1, hh2⟩ := hW2
  obtain ⟨v0, hv0, hv1, hv2⟩ := hLC
  have hpw : 2 ^ tb_nc w h ≤ 2 ^ 16 := Nat.pow_le_pow_right (by decide) hz.2.1
  have hx38 : xs_n 38 = 9400 := rfl
  have hmem := fun x => dv_loops_lt hW (x := x)
  have hpwL := dv_tree_sorted hW (tb_nc w h) 0 0 (by omega)
  have hi38 : ∀ k, k < 9400 → vp_in (nI k) 9400 := fun k q => vp_inN q (by decide)
  have hN : (dv_fnd w h (2 ^ tb_nc w h)).length ≤ 9349 := dv_fnd_len hW (Nat.le_refl _)
  -- one insertion
  have insert : ∀ (N g i v m k : Nat) (F : Nat → Nat) (Y : xs_T), N ≤ 9349 → (0 < g ∧ g < 2 ^ 31) → i < N → k ≤ m → k ≤ i → sw_ok N (dv_loops w h) (tb_up F k v) → (g = 1 → sw_hole i k v F) → rf_Fs N F Y → xs_fr rf_SF rf_FF X Y → Y.1 21 25 = nI (10 * w + h) → (∀ (F' : Nat → Nat) (Y' : xs_T) (o3 o5 : Option Value), sw_ok N (dv_loops w h) F' → (g = 1 → sw_so (i + 1) F') → rf_Fs N F' Y' → xs_fr rf_SF rf_FF X Y' → Y'.1 21 25 = nI (10 * w + h) → jq_J l G mX6_findLoops (jq_R 3 0 0) jq_E0 (xs_Ye G n ad (xs_pv (fun X' => xs_fr rf_SF rf_FF X X' ∧ X'.1 21 25 = nI (10 * w + h) ∧ rf_Ls (dv_loops w h) X'))) 104 [some (.ref (ad 21)), some (.int (nI (g))), some (.int (nI (i + 1))), o3, none, o5] [] n ad (xs_mem G ad Y') 0 0) → jq_J l G mX6_findLoops (jq_R 3 0 0) jq_E0 (xs_Ye G n ad (xs_pv (fun X' => xs_fr rf_SF rf_FF X X' ∧ X'.1 21 25 = nI (10 * w + h) ∧ rf_Ls (dv_loops w h) X'))) 122 [some (.ref (ad 21)), some (.int (nI (g))), some (.int (nI (i))), some (.long (lN v)), none, some (.int (nI (k)))] [] n ad (xs_mem G ad Y) 0 0 := by
    intro N g i v m
    induction m with
    | zero =>
      intro k F Y hN9 hg hi hkm hki hok hho hFs hfr h25 H
      have hik := hi38 k (by omega)
      have hk0 : k = 0 := by omega
      refine jq_iload dX6_findLoops_122 rfl ?_
      refine jq_iload_n dX6_findLoops_124 rfl rfl ?_
      refine jq_ltN (tgt := 169) dX6_findLoops_125 (by decide) ⟨by omega, by omega⟩ (fun c125 => ?_) (fun c125 => ?_)
      · refine jq_aload_n dX6_findLoops_169 rfl rfl ?_
        refine xq_getR 38 fX6_59 dX6_findLoops_170 (xs_lt (by decide) hn) (by decide) ?_
        refine jq_iload dX6_findLoops_173 rfl ?_
        refine jq_lload_n dX6_findLoops_175 rfl rfl ?_
        refine xq_lastore dX6_findLoops_176 (xs_lt (by decide) hn) rfl hik ?_
        refine jq_iincN dX6_findLoops_177 (by decide) rfl rfl rfl ?_
        refine jq_goto (tgt := 104) dX6_findLoops_180 (by decide) ?_
        exact H (tb_up F k v) _ _ _ hok (fun q => sw_fill (hho q) hki hi hok hmem (Or.inl hk0)) (rf_Fs_up hFs (by omega)) (xs_fr_al hfr (by decide)) h25
      · exact absurd c125 (by omega)
    | succ m ih =>
      intro k F Y hN9 hg hi hkm hki hok hho hFs hfr h25 H
      have hik := hi38 k (by omega)
      have hv40 : v < 2 ^ 40 := hmem v ((hok.1 _).mpr ⟨k, by omega, sw_up_at⟩)
      have hend : (k = 0 ∨ g = 1 → k = 0 ∨ ¬ dv_ahead v (F (k - 1))) → jq_J l G mX6_findLoops (jq_R 3 0 0) jq_E0 (xs_Ye G n ad (xs_pv (fun X' => xs_fr rf_SF rf_FF X X' ∧ X'.1 21 25 = nI (10 * w + h) ∧ rf_Ls (dv_loops w h) X'))) 169 [some (.ref (ad 21)), some (.int (nI (g))), some (.int (nI (i))), some (.long (lN v)), none, some (.int (nI (k)))] [] n ad (xs_mem G ad Y) 0 0 := by
        intro hx
        refine jq_aload_n dX6_findLoops_169 rfl rfl ?_
        refine xq_getR 38 fX6_59 dX6_findLoops_170 (xs_lt (by decide) hn) (by decide) ?_
        refine jq_iload dX6_findLoops_173 rfl ?_
        refine jq_lload_n dX6_findLoops_175 rfl rfl ?_
        refine xq_lastore dX6_findLoops_176 (xs_lt (by decide) hn) rfl hik ?_
        refine jq_iincN dX6_findLoops_177 (by decide) rfl rfl rfl ?_
        refine jq_goto (tgt := 104) dX6_findLoops_180 (by decide) ?_
        exact H (tb_up F k v) _ _ _ hok (fun q => sw_fill (hho q) hki hi hok hmem (hx (Or.inr q))) (rf_Fs_up hFs (by omega)) (xs_fr_al hfr (by decide)) h25
      by_cases hgk : g ≤ k
      · have hF40 : F (k - g) < 2 ^ 40 := hmem _ (sw_up_lt hok (by omega) (by omega))
        have hrd := hFs.2 (k - g) (by omega)
        have hikg := hi38 (k - g) (by omega)
        refine jq_iload dX6_findLoops_122 rfl ?_
        refine jq_iload_n dX6_findLoops_124 rfl rfl ?_
        refine jq_ltN (tgt := 169) dX6_findLoops_125 (by decide) ⟨by omega, by omega⟩ (fun c125 => ?_) (fun c125 => ?_)
        · exact absurd c125 (by omega)
        · refine jq_lload_n dX6_findLoops_128 rfl rfl ?_
          refine jq_aload_n dX6_findLoops_129 rfl rfl ?_
          refine xq_getR 38 fX6_59 dX6_findLoops_130 (xs_lt (by decide) hn) (by decide) ?_
          refine jq_iload dX6_findLoops_133 rfl ?_
          refine jq_iload_n dX6_findLoops_135 rfl rfl ?_
          refine jq_isubN dX6_findLoops_136 (by omega) ?_
          refine xq_laload dX6_findLoops_137 (xs_lt (by decide) hn) rfl hikg (xs_rdL hrd (by omega)) ?_
          refine xq_sI dX6_findLoops_138 kX6_180 (c_X6_isAhead hv40 hF40) rfl rfl (Nat.le_of_ble_eq_true rfl) ⟨⟨by decide, by decide⟩, Nat.le_refl _, Nat.le_refl _⟩ ?_
          refine jq_if_eq (tgt := 169) dX6_findLoops_141 (by decide) (fun c141 => ?_) (fun c141 => ?_)
          · have d141 := tb_b0.mp c141
            refine hend (fun q => Or.inr (fun z => ?_))
            have hg1 : g = 1 := by omega
            rw [hg1] at d141
            rw [(dv_aheadB_y (by omega) (by rw [hg1] at hF40; omega)).mpr z] at d141
            cases d141
          · have d141 := (dv_aheadB_y (by omega) (by omega)).mp (tb_b1.mp c141)
            refine jq_aload_n dX6_findLoops_144 rfl rfl ?_
            refine xq_getR 38 fX6_59 dX6_findLoops_145 (xs_lt (by decide) hn) (by decide) ?_
            refine jq_iload dX6_findLoops_148 rfl ?_
            refine jq_aload_n dX6_findLoops_150 rfl rfl ?_
            refine xq_getR 38 fX6_59 dX6_findLoops_151 (xs_lt (by decide) hn) (by decide) ?_
            refine jq_iload dX6_findLoops_154 rfl ?_
            refine jq_iload_n dX6_findLoops_156 rfl rfl ?_
            refine jq_isubN dX6_findLoops_157 (by omega) ?_
            refine xq_laload dX6_findLoops_158 (xs_lt (by decide) hn) rfl hikg (xs_rdL hrd (by omega)) ?_
            refine xq_lastore dX6_findLoops_159 (xs_lt (by decide) hn) rfl hik ?_
            refine jq_iload dX6_findLoops_160 rfl ?_
            refine jq_iload_n dX6_findLoops_162 rfl rfl ?_
            refine jq_isubN dX6_findLoops_163 (by omega) ?_
            refine jq_istore dX6_findLoops_164 (by decide) rfl rfl ?_
            refine jq_goto (tgt := 122) dX6_findLoops_166 (by decide) ?_
            refine ih (k - g) (tb_up F k (F (k - g))) _ hN9 hg hi (by omega) (by omega) (sw_swap (by omega) (by omega) (by omega) hok) (fun q => ?_) (rf_Fs_up hFs (by omega)) (xs_fr_al hfr (by decide)) h25 H
            subst q
            have hh := hho rfl
            rw [show k = (k - 1) + 1 by omega] at hh
            have := sw_hole_s hh (by omega) d141
            rw [show k - 1 + 1 = k by omega] at this
            exact this
      · have hgk2 : k < g := by omega
        refine jq_iload dX6_findLoops_122 rfl ?_
        refine jq_iload_n dX6_findLoops_124 rfl rfl ?_
        refine jq_ltN (tgt := 169) dX6_findLoops_125 (by decide) ⟨by omega, by omega⟩ (fun c125 => ?_) (fun c125 => ?_)
        · exact hend (fun q => by rcases q with z | z; exact Or.inl z; exact Or.inl (by omega))
        · exact absurd c125 (by omega)
  -- one pass
  have pass : ∀ (N g j i : Nat) (F : Nat → Nat) (Y : xs_T) (o3 o5 : Option Value), N ≤ 9349 → (0 < g ∧ g < 2 ^ 31) → i + j = N → sw_ok N (dv_loops w h) F → (g = 1 → sw_so i F) → rf_Fs N F Y → xs_fr rf_SF rf_FF X Y → Y.1 21 25 = nI (10 * w + h) → (∀ (F' : Nat → Nat) (Y' : xs_T) (o2 o3 o5 : Option Value), sw_ok N (dv_loops w h) F' → (g = 1 → sw_so N F') → rf_Fs N F' Y' → xs_fr rf_SF rf_FF X Y' → Y'.1 21 25 = nI (10 * w + h) → jq_J l G mX6_findLoops (jq_R 3 0 0) jq_E0 (xs_Ye G n ad (xs_pv (fun X' => xs_fr rf_SF rf_FF X X' ∧ X'.1 21 25 = nI (10 * w + h) ∧ rf_Ls (dv_loops w h) X'))) 183 [some (.ref (ad 21)), some (.int (nI (g))), o2, o3, none, o5] [] n ad (xs_mem G ad Y') 0 0) → jq_J l G mX6_findLoops (jq_R 3 0 0) jq_E0 (xs_Ye G n ad (xs_pv (fun X' => xs_fr rf_SF rf_FF X X' ∧ X'.1 21 25 = nI (10 * w + h) ∧ rf_Ls (dv_loops w h) X'))) 104 [some (.ref (ad 21)), some (.int (nI (g))), some (.int (nI (i))), o3, none, o5] [] n ad (xs_mem G ad Y) 0 0 := by
    intro N g j
    induction j with
    | zero =>
      intro i F Y o3 o5 hN9 hg hij hok hso hFs hfr h25 H
      have hiN : i = N := by omega
      subst hiN
      refine jq_iload_n dX6_findLoops_104 rfl rfl ?_
      refine jq_aload_n dX6_findLoops_105 rfl rfl ?_
      refine xq_getI fX6_173 dX6_findLoops_106 (xs_lt (by decide) hn) (by decide) hFs.1 ?_
      refine jq_geN (tgt := 183) dX6_findLoops_109 (by decide) ⟨by omega, by omega⟩ (fun c109 => ?_) (fun c109 => ?_)
      · exact H F Y _ _ _ hok hso hFs hfr h25
      · exact absurd c109 (by omega)
    | succ j ih =>
      intro i F Y o3 o5 hN9 hg hij hok hso hFs hfr h25 H
      have hii := hi38 i (by omega)
      have hrd := hFs.2 i (by omega)
      refine jq_iload_n dX6_findLoops_104 rfl rfl ?_
      refine jq_aload_n dX6_findLoops_105 rfl rfl ?_
      refine xq_getI fX6_173 dX6_findLoops_106 (xs_lt (by decide) hn) (by decide) hFs.1 ?_
      refine jq_geN (tgt := 183) dX6_findLoops_109 (by decide) ⟨by omega, by omega⟩ (fun c109 => ?_) (fun c109 => ?_)
      · exact absurd c109 (by omega)
      · refine jq_aload_n dX6_findLoops_112 rfl rfl ?_
        refine xq_getR 38 fX6_59 dX6_findLoops_113 (xs_lt (by decide) hn) (by decide) ?_
        refine jq_iload_n dX6_findLoops_116 rfl rfl ?_
        refine xq_laload dX6_findLoops_117 (xs_lt (by decide) hn) rfl hii (xs_rdL hrd (by omega)) ?_
        refine jq_lstore_n dX6_findLoops_118 rfl (by decide) rfl rfl ?_
        refine jq_iload_n dX6_findLoops_119 rfl rfl ?_
        refine jq_istore dX6_findLoops_120 (by decide) rfl rfl ?_
        exact insert N g i (F i) i i F Y hN9 hg (by omega) (Nat.le_refl _) (Nat.le_refl _) (by rw [sw_up_self]; exact hok) (fun q => sw_hole_0 (hso q) _) hFs hfr h25 (fun F' Y' o3 o5 a1 a2 a3 a4 a5 => ih (i + 1) F' Y' o3 o5 hN9 hg (by omega) a1 a2 a3 a4 a5 H)
  -- the gaps
  have gaps : ∀ (N m g : Nat) (F : Nat → Nat) (Y : xs_T) (o2 o3 o5 : Option Value), N ≤ 9349 → g ≤ m → g ≤ N → sw_ok N (dv_loops w h) F → (g = 0 → sw_so N F) → rf_Fs N F Y → xs_fr rf_SF rf_FF X Y → Y.1 21 25 = nI (10 * w + h) → jq_J l G mX6_findLoops (jq_R 3 0 0) jq_E0 (xs_Ye G n ad (xs_pv (fun X' => xs_fr rf_SF rf_FF X X' ∧ X'.1 21 25 = nI (10 * w + h) ∧ rf_Ls (dv_loops w h) X'))) 98 [some (.ref (ad 21)), some (.int (nI (g))), o2, o3, none, o5] [] n ad (xs_mem G ad Y) 0 0 := by
    intro N m
    induction m with
    | zero =>
      intro g F Y o2 o3 o5 hN9 hgm hgN hok hso hFs hfr h25
      have hg0 : g = 0 := by omega
      have hLs := rf_Fs_Ls hFs (sw_list (hso hg0) hok hpwL)
      refine jq_iload_n dX6_findLoops_98 rfl rfl ?_
      refine jq_leZ (tgt := 190) dX6_findLoops_99 (by decide) (by omega) (fun c99 => ?_) (fun c99 => ?_)
      · exact xq_return rfl dX6_findLoops_190 rfl (⟨rfl, hfr, h25, hLs⟩)
      · exact absurd c99 (by omega)
    | succ m ih =>
      intro g F Y o2 o3 o5 hN9 hgm hgN hok hso hFs hfr h25
      by_cases hg0 : g = 0
      · have hLs := rf_Fs_Ls hFs (sw_list (hso hg0) hok hpwL)
        refine jq_iload_n dX6_findLoops_98 rfl rfl ?_
        refine jq_leZ (tgt := 190) dX6_findLoops_99 (by decide) (by omega) (fun c99 => ?_) (fun c99 => ?_)
        · exact xq_return rfl dX6_findLoops_190 rfl (⟨rfl, hfr, h25, hLs⟩)
        · exact absurd c99 (by omega)
      · have hg : 0 < g ∧ g < 2 ^ 31 := ⟨by omega, by omega⟩
        have H : ∀ (F' : Nat → Nat) (Y' : xs_T) (o2 o3 o5 : Option Value), sw_ok N (dv_loops w h) F' → (g = 1 → sw_so N F') → rf_Fs N F' Y' → xs_fr rf_SF rf_FF X Y' → Y'.1 21 25 = nI (10 * w + h) → jq_J l G mX6_findLoops (jq_R 3 0 0) jq_E0 (xs_Ye G n ad (xs_pv (fun X' => xs_fr rf_SF rf_FF X X' ∧ X'.1 21 25 = nI (10 * w + h) ∧ rf_Ls (dv_loops w h) X'))) 183 [some (.ref (ad 21)), some (.int (nI (g))), o2, o3, none, o5] [] n ad (xs_mem G ad Y') 0 0 := by
          intro F' Y' o2 o3 o5 a1 a2 a3 a4 a5
          refine jq_iload_n dX6_findLoops_183 rfl rfl ?_
          refine jq_iconst (v := (nI 2)) dX6_findLoops_184 (by decide) ?_
          refine jq_idivN dX6_findLoops_185 (⟨by omega, by omega, by omega⟩) ?_
          refine jq_istore_n dX6_findLoops_186 rfl (by decide) rfl rfl ?_
          refine jq_goto (tgt := 98) dX6_findLoops_187 (by decide) ?_
          exact ih (g / 2) F' Y' _ _ _ hN9 (by omega) (by omega) a1 (fun q => a2 (by omega)) a3 a4 a5
        refine jq_iload_n dX6_findLoops_98 rfl rfl ?_
        refine jq_leZ (tgt := 190) dX6_findLoops_99 (by decide) (by omega) (fun c99 => ?_) (fun c99 => ?_)
        · exact absurd c99 hg0
        · refine jq_iload_n dX6_findLoops_102 rfl rfl ?_
          refine jq_istore_n dX6_findLoops_103 rfl (by decide) rfl rfl ?_
          exact pass N g (N - g) g F Y _ _ hN9 hg (by omega) hok (fun q => fun a b h1 h2 => by omega) hFs hfr h25 H
  -- the sets
  have sets : ∀ (j s : Nat) (o2 : Option Value) (Y : xs_T), s + j = 2 ^ tb_nc w h → 0 < s → xs_fr rf_SF rf_FF X Y → Y.1 21 25 = nI (10 * w + h) → rf_Ls (dv_fnd w h s) Y → jq_J l G mX6_findLoops (jq_R 3 0 0) jq_E0 (xs_Ye G n ad (xs_pv (fun X' => xs_fr rf_SF rf_FF X X' ∧ X'.1 21 25 = nI (10 * w + h) ∧ rf_Ls (dv_loops w h) X'))) 43 [some (.ref (ad 21)), some (.int (nI (s))), o2, none, none, none] [] n ad (xs_mem G ad Y) 0 0 := by
    intro j
    induction j with
    | zero =>
      intro s o2 Y hsj hs0 hfr h25 hFs
      have hTY := rf_fr hT hfr
      have hss : s = 2 ^ tb_nc w h := by omega
      rw [hss] at hFs
      have hF := rf_Ls_Fs hFs
      have hst := sw_start (h := h) hW
      generalize hNe : (dv_fnd w h (2 ^ tb_nc w h)).length = N at *
      refine jq_iload_n dX6_findLoops_43 rfl rfl ?_
      refine jq_iconst (v := (nI 1)) dX6_findLoops_44 (by decide) ?_
      refine jq_aload_n dX6_findLoops_45 rfl rfl ?_
      refine xq_getI fX6_71 dX6_findLoops_46 (xs_lt (by decide) hn) (by decide) hTY.2.2.2.1 ?_
      refine jq_ishl dX6_findLoops_49 (ix_shl1 _ (by omega)) ?_
      refine jq_geN (tgt := 91) dX6_findLoops_50 (by decide) ⟨by omega, by omega⟩ (fun c50 => ?_) (fun c50 => ?_)
      · refine jq_aload_n dX6_findLoops_91 rfl rfl ?_
        refine xq_getI fX6_173 dX6_findLoops_92 (xs_lt (by decide) hn) (by decide) hF.1 ?_
        refine jq_iconst (v := (nI 2)) dX6_findLoops_95 (by decide) ?_
        refine jq_idivN dX6_findLoops_96 (⟨by omega, by decide, by decide⟩) ?_
        refine jq_istore_n dX6_findLoops_97 rfl (by decide) rfl rfl ?_
        exact gaps N (N / 2) (N / 2) _ Y _ _ _ hN (Nat.le_refl _) (by omega) hst (fun q => fun a b h1 h2 => by omega) hF hfr h25
      · exact absurd c50 (by omega)
    | succ j ih =>
      intro s o2 Y hsj hs0 hfr h25 hFs
      have hTY := rf_fr hT hfr
      have hlen := dv_fnd_len hW (k := s) (by omega)
      have hil := hi38 (dv_fnd w h s).length (by omega)
      have hbp := dv_bd_pos hW (C := s) (by omega) (by omega)
      have hb40 : dv_bd w h s < 2 ^ 40 := dv_set_lt hW dv_bd_lt
      have hBlt : (if dv_isLoop w h (dv_bd w h s) = true then dv_bd w h s else 0) < 2 ^ 63 := by split <;> omega
      refine jq_iload_n dX6_findLoops_43 rfl rfl ?_
      refine jq_iconst (v := (nI 1)) dX6_findLoops_44 (by decide) ?_
      refine jq_aload_n dX6_findLoops_45 rfl rfl ?_
      refine xq_getI fX6_71 dX6_findLoops_46 (xs_lt (by decide) hn) (by decide) hTY.2.2.2.1 ?_
      refine jq_ishl dX6_findLoops_49 (ix_shl1 _ (by omega)) ?_
      refine jq_geN (tgt := 91) dX6_findLoops_50 (by decide) ⟨by omega, by omega⟩ (fun c50 => ?_) (fun c50 => ?_)
      · exact absurd c50 (by omega)
      · refine jq_aload_n dX6_findLoops_53 rfl rfl ?_
        refine jq_iload_n dX6_findLoops_54 rfl rfl ?_
        refine xq_rL dX6_findLoops_55 kX6_176 (c_X6_border hn hTY (by omega) (by omega)) (xs_lt (by decide) hn) ⟨rfl, rfl⟩ rfl rfl (Nat.le_of_ble_eq_true rfl) ⟨⟨by decide, by decide⟩, Nat.le_refl _, Nat.le_refl _⟩ (fun v55 X55 h55 => ?_)
        obtain ⟨hv55, hf55⟩ := h55
        subst hv55
        have hFs5 := (rf_lsfr hFs hf55 : rf_Ls (dv_fnd w h s) X55)
        refine jq_lstore_n dX6_findLoops_58 rfl (by decide) rfl rfl ?_
        refine jq_lload_n dX6_findLoops_59 rfl rfl ?_
        refine jq_lconst (v := 0) dX6_findLoops_60 (by decide) ?_
        refine jq_lcmp dX6_findLoops_61 ?_
        refine jq_if_eq (tgt := 85) dX6_findLoops_62 (by decide) (fun c62 => ?_) (fun c62 => ?_)
        · have d62 : ¬ dv_isLoop w h (dv_bd w h s) = true := fun q => by have z := (lN_eq0 hBlt).mp c62; rw [if_pos q] at z; exact hbp z
          refine jq_iincN dX6_findLoops_85 (by decide) rfl rfl rfl ?_
          refine jq_goto (tgt := 43) dX6_findLoops_88 (by decide) ?_
          first
            | exact ih (s + 1) _ X55 (by omega) (by omega) (xs_fr_tr hfr (xs_fr_mo hf55 (by decide))) (xs_fi hf55 21 25 h25) (by rw [dv_fnd_n d62]; exact hFs5)
            | exact ih (s + 1) _ _ (by omega) (by omega) (xs_fr_si (xs_fr_al (xs_fr_tr hfr (xs_fr_mo hf55 (by decide))) (by decide)) (by decide)) ((xs_si_ne (by decide)).trans (xs_fi hf55 21 25 h25)) (by rw [dv_fnd_y d62]; exact rf_Ls_push hFs5 (by omega))
        · have d62 : dv_isLoop w h (dv_bd w h s) = true := Decidable.byContradiction (fun q => c62 ((lN_eq0 hBlt).mpr (if_neg q)))
          rw [if_pos d62]
          refine jq_aload_n dX6_findLoops_65 rfl rfl ?_
          refine xq_getR 38 fX6_59 dX6_findLoops_66 (xs_lt (by decide) hn) (by decide) ?_
          refine jq_aload_n dX6_findLoops_69 rfl rfl ?_
          refine xq_getI fX6_173 dX6_findLoops_70 (xs_lt (by decide) hn) (by decide) hFs5.1 ?_
          refine jq_lload_n dX6_findLoops_73 rfl rfl ?_
          refine xq_lastore dX6_findLoops_74 (xs_lt (by decide) hn) rfl hil ?_
          refine jq_aload_n dX6_findLoops_75 rfl rfl ?_
          refine jq_dup dX6_findLoops_76 rfl ?_
          refine xq_getI fX6_173 dX6_findLoops_77 (xs_lt (by decide) hn) (by decide) hFs5.1 ?_
          refine jq_iconst (v := (nI 1)) dX6_findLoops_80 (by decide) ?_
          refine jq_iaddN dX6_findLoops_81 ?_
          refine xq_putI pX6_173 dX6_findLoops_82 (xs_lt (by decide) hn) (by decide) rfl rfl ?_
          refine jq_iincN dX6_findLoops_85 (by decide) rfl rfl rfl ?_
          refine jq_goto (tgt := 43) dX6_findLoops_88 (by decide) ?_
          first
            | exact ih (s + 1) _ X55 (by omega) (by omega) (xs_fr_tr hfr (xs_fr_mo hf55 (by decide))) (xs_fi hf55 21 25 h25) (by rw [dv_fnd_n d62]; exact hFs5)
            | exact ih (s + 1) _ _ (by omega) (by omega) (xs_fr_si (xs_fr_al (xs_fr_tr hfr (xs_fr_mo hf55 (by decide))) (by decide)) (by decide)) ((xs_si_ne (by decide)).trans (xs_fi hf55 21 25 h25)) (by rw [dv_fnd_y d62]; exact rf_Ls_push hFs5 (by omega))
  refine xs_Ct_of (L := [some (.ref (ad 21)), none, none, none, none, none]) rfl (Nat.le_of_ble_eq_true rfl) rfl ?_
  refine jq_aload_n dX6_findLoops_0 rfl rfl ?_
  refine xq_getI fX6_170 dX6_findLoops_1 (xs_lt (by decide) hn) (by decide) hv1 ?_
  refine jq_bipush (v := (nI 10)) dX6_findLoops_4 (by decide) ?_
  refine jq_aload_n dX6_findLoops_6 rfl rfl ?_
  refine xq_getI fX6_80 dX6_findLoops_7 (xs_lt (by decide) hn) (by decide) hT.2.1 ?_
  refine jq_imulN dX6_findLoops_10 ?_
  refine jq_aload_n dX6_findLoops_11 rfl rfl ?_
  refine xq_getI fX6_77 dX6_findLoops_12 (xs_lt (by decide) hn) (by decide) hT.2.2.1 ?_
  refine jq_iaddN dX6_findLoops_15 ?_
  refine jq_neN (tgt := 20) dX6_findLoops_16 (by decide) ⟨by omega, by omega⟩ (fun c16 => ?_) (fun c16 => ?_)
  · refine jq_aload_n dX6_findLoops_20 rfl rfl ?_
    refine jq_bipush (v := (nI 10)) dX6_findLoops_21 (by decide) ?_
    refine jq_aload_n dX6_findLoops_23 rfl rfl ?_
    refine xq_getI fX6_80 dX6_findLoops_24 (xs_lt (by decide) hn) (by decide) hT.2.1 ?_
    refine jq_imulN dX6_findLoops_27 ?_
    refine jq_aload_n dX6_findLoops_28 rfl rfl ?_
    refine xq_getI fX6_77 dX6_findLoops_29 (xs_lt (by decide) hn) (by decide) hT.2.2.1 ?_
    refine jq_iaddN dX6_findLoops_32 ?_
    refine xq_putI pX6_170 dX6_findLoops_33 (xs_lt (by decide) hn) (by decide) rfl rfl ?_
    refine jq_aload_n dX6_findLoops_36 rfl rfl ?_
    refine jq_iconst (v := (nI 0)) dX6_findLoops_37 (by decide) ?_
    refine xq_putI pX6_173 dX6_findLoops_38 (xs_lt (by decide) hn) (by decide) rfl rfl ?_
    refine jq_iconst (v := (nI 1)) dX6_findLoops_41 (by decide) ?_
    refine jq_istore_n dX6_findLoops_42 rfl (by decide) rfl rfl ?_
    refine sets (2 ^ tb_nc w h - 1) 1 _ _ (by have := Nat.two_pow_pos (tb_nc w h); omega) (by decide) (xs_fr_si (xs_fr_si xs_fr_rf (by decide)) (by decide)) ((xs_si_ne (by decide)).trans xs_si_at) ?_
    have h1 : dv_fnd w h 1 = [] := dv_fnd_n (fun q => dv_isLoop_pos q (dv_bd_0 w h))
    rw [h1]
    exact ⟨xs_si_at, fun k x hx => by cases hx⟩
  · exact xq_return rfl dX6_findLoops_19 rfl (⟨rfl, xs_fr_rf, by rw [hv1, c16], hv2 w h hW c16⟩)
