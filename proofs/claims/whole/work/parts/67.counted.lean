theorem lq_n0 : lq_tr lq_ps44 lq_lo44 lq_b44 0 ≤ 581 := by decide +kernel
theorem lq_n1 : lq_tr lq_ps44 lq_lo44 lq_b44 100663568 ≤ 468 := by decide +kernel
theorem lq_n2 : lq_tr lq_ps44 lq_lo44 lq_b44 25165960 ≤ 256 := by decide +kernel
theorem lq_n3 : lq_tr lq_ps44 lq_lo44 lq_b44 125829528 ≤ 213 := by decide +kernel
theorem lq_n4 : lq_tr lq_ps44 lq_lo44 lq_b44 12582980 ≤ 324 := by decide +kernel
theorem lq_n5 : lq_tr lq_ps44 lq_lo44 lq_b44 113246548 ≤ 290 := by decide +kernel
theorem lq_n6 : lq_tr lq_ps44 lq_lo44 lq_b44 20971724 ≤ 373 := by decide +kernel
theorem lq_n7 : lq_tr lq_ps44 lq_lo44 lq_b44 121635292 ≤ 311 := by decide +kernel
theorem lq_n8 : lq_tr lq_ps44 lq_lo44 lq_b44 6291490 ≤ 281 := by decide +kernel
theorem lq_n9 : lq_tr lq_ps44 lq_lo44 lq_b44 106955058 ≤ 333 := by decide +kernel
theorem lq_n10 : lq_tr lq_ps44 lq_lo44 lq_b44 31457450 ≤ 131 := by decide +kernel
theorem lq_n11 : lq_tr lq_ps44 lq_lo44 lq_b44 132121018 ≤ 159 := by decide +kernel
theorem lq_n12 : lq_tr lq_ps44 lq_lo44 lq_b44 10485862 ≤ 393 := by decide +kernel
theorem lq_n13 : lq_tr lq_ps44 lq_lo44 lq_b44 111149430 ≤ 300 := by decide +kernel
theorem lq_n14 : lq_tr lq_ps44 lq_lo44 lq_b44 18874606 ≤ 477 := by decide +kernel
theorem lq_n15 : lq_tr lq_ps44 lq_lo44 lq_b44 119538174 ≤ 348 := by decide +kernel
theorem lq_n16 : lq_tr lq_ps44 lq_lo44 lq_b44 3145745 ≤ 1 := by decide +kernel
theorem lq_n17 : lq_tr lq_ps44 lq_lo44 lq_b44 103809281 ≤ 468 := by decide +kernel
theorem lq_n18 : lq_tr lq_ps44 lq_lo44 lq_b44 28311705 ≤ 0 := by decide +kernel
theorem lq_n19 : lq_tr lq_ps44 lq_lo44 lq_b44 128975241 ≤ 213 := by decide +kernel
theorem lq_n20 : lq_tr lq_ps44 lq_lo44 lq_b44 15728725 ≤ 0 := by decide +kernel
theorem lq_n21 : lq_tr lq_ps44 lq_lo44 lq_b44 116392261 ≤ 290 := by decide +kernel
theorem lq_n22 : lq_tr lq_ps44 lq_lo44 lq_b44 24117469 ≤ 0 := by decide +kernel
theorem lq_n23 : lq_tr lq_ps44 lq_lo44 lq_b44 124781005 ≤ 311 := by decide +kernel
theorem lq_n24 : lq_tr lq_ps44 lq_lo44 lq_b44 5242931 ≤ 281 := by decide +kernel
theorem lq_n25 : lq_tr lq_ps44 lq_lo44 lq_b44 105906467 ≤ 403 := by decide +kernel
theorem lq_n26 : lq_tr lq_ps44 lq_lo44 lq_b44 30408891 ≤ 131 := by decide +kernel
theorem lq_n27 : lq_tr lq_ps44 lq_lo44 lq_b44 131072427 ≤ 180 := by decide +kernel
theorem lq_n28 : lq_tr lq_ps44 lq_lo44 lq_b44 9437303 ≤ 393 := by decide +kernel
theorem lq_n29 : lq_tr lq_ps44 lq_lo44 lq_b44 110100839 ≤ 432 := by decide +kernel
theorem lq_n30 : lq_tr lq_ps44 lq_lo44 lq_b44 17826047 ≤ 477 := by decide +kernel
theorem lq_n31 : lq_tr lq_ps44 lq_lo44 lq_b44 118489583 ≤ 531 := by decide +kernel
theorem lq_all : (dv_loops 4 4).length ≤ 9349 := by
  have h1 := lq_tree_le (w := 4) (h := 4) ⟨by decide, by decide, by decide, by decide⟩ 16 0 0 rfl (by decide)
  rw [lq_ps44_eq, lq_lo44_eq, lq_pr44_eq, lq_tr_app, lq_fr44] at h1
  simp only [List.map_cons, List.map_nil, List.sum_cons, List.sum_nil] at h1
  have n0 := lq_n0
  have n1 := lq_n1
  have n2 := lq_n2
  have n3 := lq_n3
  have n4 := lq_n4
  have n5 := lq_n5
  have n6 := lq_n6
  have n7 := lq_n7
  have n8 := lq_n8
  have n9 := lq_n9
  have n10 := lq_n10
  have n11 := lq_n11
  have n12 := lq_n12
  have n13 := lq_n13
  have n14 := lq_n14
  have n15 := lq_n15
  have n16 := lq_n16
  have n17 := lq_n17
  have n18 := lq_n18
  have n19 := lq_n19
  have n20 := lq_n20
  have n21 := lq_n21
  have n22 := lq_n22
  have n23 := lq_n23
  have n24 := lq_n24
  have n25 := lq_n25
  have n26 := lq_n26
  have n27 := lq_n27
  have n28 := lq_n28
  have n29 := lq_n29
  have n30 := lq_n30
  have n31 := lq_n31
  have e : dv_loops 4 4 = dv_tree 4 4 16 0 0 := rfl
  rw [e]
  omega
theorem dv_loops_le {w h : Nat} (hW : tb_W w h) : (dv_loops w h).length ≤ 9349 := by
  by_cases q : tb_nc w h ≤ 12
  · refine Nat.le_trans (dv_tree_len w h _ 0 0) (Nat.le_trans (Nat.pow_le_pow_right (by decide) q) (by decide))
  · have : w = 4 ∧ h = 4 := by
      obtain ⟨h1, h2, h3, h4⟩ := hW
      unfold tb_nc at q
      have : w = 1 ∨ w = 2 ∨ w = 3 ∨ w = 4 := by omega
      rcases this with z | z | z | z <;> subst z <;> omega
    obtain ⟨rfl, rfl⟩ := this
    exact lq_all
