theorem lq_sum (f : Nat → Nat) (n0 : f 0 ≤ 581) (n1 : f 100663568 ≤ 468) (n2 : f 25165960 ≤ 256) (n3 : f 125829528 ≤ 213) (n4 : f 12582980 ≤ 324) (n5 : f 113246548 ≤ 290) (n6 : f 20971724 ≤ 373) (n7 : f 121635292 ≤ 311) (n8 : f 6291490 ≤ 281) (n9 : f 106955058 ≤ 333) (n10 : f 31457450 ≤ 131) (n11 : f 132121018 ≤ 159) (n12 : f 10485862 ≤ 393) (n13 : f 111149430 ≤ 300) (n14 : f 18874606 ≤ 477) (n15 : f 119538174 ≤ 348) (n16 : f 3145745 ≤ 1) (n17 : f 103809281 ≤ 468) (n18 : f 28311705 ≤ 0) (n19 : f 128975241 ≤ 213) (n20 : f 15728725 ≤ 0) (n21 : f 116392261 ≤ 290) (n22 : f 24117469 ≤ 0) (n23 : f 124781005 ≤ 311) (n24 : f 5242931 ≤ 281) (n25 : f 105906467 ≤ 403) (n26 : f 30408891 ≤ 131) (n27 : f 131072427 ≤ 180) (n28 : f 9437303 ≤ 393) (n29 : f 110100839 ≤ 432) (n30 : f 17826047 ≤ 477) (n31 : f 118489583 ≤ 531) : (([0, 100663568, 25165960, 125829528, 12582980, 113246548, 20971724, 121635292, 6291490, 106955058, 31457450, 132121018, 10485862, 111149430, 18874606, 119538174, 3145745, 103809281, 28311705, 128975241, 15728725, 116392261, 24117469, 124781005, 5242931, 105906467, 30408891, 131072427, 9437303, 110100839, 17826047, 118489583] : List Nat).map f).sum ≤ 9349 := by
  simp only [List.map_cons, List.map_nil, List.sum_cons, List.sum_nil]
  exact Nat.le_trans (Nat.add_le_add n0 (Nat.add_le_add n1 (Nat.add_le_add n2 (Nat.add_le_add n3 (Nat.add_le_add n4 (Nat.add_le_add n5 (Nat.add_le_add n6 (Nat.add_le_add n7 (Nat.add_le_add n8 (Nat.add_le_add n9 (Nat.add_le_add n10 (Nat.add_le_add n11 (Nat.add_le_add n12 (Nat.add_le_add n13 (Nat.add_le_add n14 (Nat.add_le_add n15 (Nat.add_le_add n16 (Nat.add_le_add n17 (Nat.add_le_add n18 (Nat.add_le_add n19 (Nat.add_le_add n20 (Nat.add_le_add n21 (Nat.add_le_add n22 (Nat.add_le_add n23 (Nat.add_le_add n24 (Nat.add_le_add n25 (Nat.add_le_add n26 (Nat.add_le_add n27 (Nat.add_le_add n28 (Nat.add_le_add n29 (Nat.add_le_add n30 (Nat.add_le_add n31 (Nat.le_refl 0))))))))))))))))))))))))))))))))) (Nat.le_of_ble_eq_true rfl)
theorem lq_all : (dv_loops 4 4).length ≤ 9349 := by
  have h1 := lq_tree_le (w := 4) (h := 4) ⟨by decide, by decide, by decide, by decide⟩ 16 0 0 rfl (by decide)
  rw [lq_ps44_eq, lq_lo44_eq, lq_pr44_eq, lq_tr_app, lq_fr44] at h1
  exact Nat.le_trans h1 (lq_sum (lq_tr lq_ps44 lq_lo44 lq_b44) lq_n0 lq_n1 lq_n2 lq_n3 lq_n4 lq_n5 lq_n6 lq_n7 lq_n8 lq_n9 lq_n10 lq_n11 lq_n12 lq_n13 lq_n14 lq_n15 lq_n16 lq_n17 lq_n18 lq_n19 lq_n20 lq_n21 lq_n22 lq_n23 lq_n24 lq_n25 lq_n26 lq_n27 lq_n28 lq_n29 lq_n30 lq_n31)
theorem dv_loops_le {w h : Nat} (hW : tb_W w h) : (dv_loops w h).length ≤ 9349 := by
  by_cases q : tb_nc w h ≤ 12
  · refine Nat.le_trans (dv_tree_len w h _ 0 0) (Nat.le_trans (Nat.pow_le_pow_right (by decide) q) (by decide))
  · have : w = 4 ∧ h = 4 := by
      obtain ⟨h1, h2, h3, h4⟩ := hW
      unfold tb_nc at q
      have : w = 1 ∨ w = 2 ∨ w = 3 ∨ w = 4 := by omega
      rcases this with z | z | z | z <;> subst z <;> omega
    obtain ⟨rfl, rfl⟩ := this
    exact lq_all
