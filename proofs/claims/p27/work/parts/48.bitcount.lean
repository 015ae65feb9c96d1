theorem pc_lan {a b A B : Nat} (hA : a &&& b = A) (ha : a < 2 ^ 64) (hb : b < 2 ^ 64) : lN a &&& lN b = lN A := by rw [wb_and ha hb, hA]
theorem pc_c1 : Cond.constantLong RJ13 314 (lN (pc_mk 85 8)) ∈ jq_big := (show (6148914691236517205 : Int64) = lN (pc_mk 85 8) by decide +kernel) ▸ vJ13_314
theorem pc_c2 : Cond.constantLong RJ13 316 (lN (pc_mk 51 8)) ∈ jq_big := (show (3689348814741910323 : Int64) = lN (pc_mk 51 8) by decide +kernel) ▸ vJ13_316
theorem pc_c3 : Cond.constantLong RJ13 318 (lN (pc_mk 15 8)) ∈ jq_big := (show (1085102592571150095 : Int64) = lN (pc_mk 15 8) by decide +kernel) ▸ vJ13_318
theorem pc_mk1 : pc_mk 85 8 < 2 ^ 64 := by decide +kernel
theorem pc_mk2 : pc_mk 51 8 < 4000000000000000000 := by decide +kernel
theorem pc_mk3 : pc_mk 15 8 < 2 ^ 62 := by decide +kernel
set_option maxHeartbeats 4000000 in
theorem c_bitCount {l : Launch} {G : jq_G} {n : Nat} {ad : Nat → Nat} {X : xs_T} {m : Nat} (hm : m < 2 ^ 64) : xs_Ct l G mJ13_bitCount_95d88 1 [.long (lN m)] n ad X (xs_pd (some (.int (nI (pc_n m)))) X) := by
  have hmain := pc_main hm
  have k1 : (m / 2) &&& pc_mk 85 8 ≤ m := pc_le1 8 m (by omega)
  have z1 : pc_s1 8 m < 2 ^ 64 := by unfold pc_s1; omega
  have z2 : pc_s2 8 (pc_s1 8 m) < 8000000000000000000 := by
    unfold pc_s2
    have a1 := Nat.and_le_right (n := pc_s1 8 m) (m := pc_mk 51 8)
    have a2 := Nat.and_le_right (n := pc_s1 8 m / 4) (m := pc_mk 51 8)
    have := pc_mk2
    omega
  have z3 := hmain.2.2
  have hmk1 := pc_mk1
  have hmk2 : pc_mk 51 8 < 2 ^ 64 := Nat.lt_trans pc_mk2 (by decide)
  have hmk3 : pc_mk 15 8 < 2 ^ 64 := Nat.lt_trans pc_mk3 (by decide)
  have h34 : jq_J l G mJ13_bitCount_95d88 (jq_R 1 0 0) jq_E0 (xs_Ye G n ad (xs_pd (some (.int (nI (pc_n m)))) X)) 34 [some (.long (lN (pc_dg m))), none] [] n ad (xs_mem G ad X) 0 0 := by
    generalize pc_dg m = a at *
    refine jq_lload_n dJ13_bitCount_95d88_34 rfl rfl ?_
    refine jq_lload_n dJ13_bitCount_95d88_35 rfl rfl ?_
    refine jq_bipush (v := (nI 8)) dJ13_bitCount_95d88_36 (by decide) ?_
    refine jq_lushr dJ13_bitCount_95d88_38 (wb_shr (k := 8) (by omega) (by decide)) ?_
    refine jq_ladd dJ13_bitCount_95d88_39 ?_
    rw [lN_add]
    refine jq_lstore_n dJ13_bitCount_95d88_40 rfl (by decide) rfl rfl ?_
    refine jq_lload_n dJ13_bitCount_95d88_41 rfl rfl ?_
    refine jq_lload_n dJ13_bitCount_95d88_42 rfl rfl ?_
    refine jq_bipush (v := (nI 16)) dJ13_bitCount_95d88_43 (by decide) ?_
    refine jq_lushr dJ13_bitCount_95d88_45 (wb_shr (k := 16) (by omega) (by decide)) ?_
    refine jq_ladd dJ13_bitCount_95d88_46 ?_
    rw [lN_add]
    refine jq_lstore_n dJ13_bitCount_95d88_47 rfl (by decide) rfl rfl ?_
    refine jq_lload_n dJ13_bitCount_95d88_48 rfl rfl ?_
    refine jq_lload_n dJ13_bitCount_95d88_49 rfl rfl ?_
    refine jq_bipush (v := (nI 32)) dJ13_bitCount_95d88_50 (by decide) ?_
    refine jq_lushr dJ13_bitCount_95d88_52 (wb_shr (k := 32) (by omega) (by decide)) ?_
    refine jq_ladd dJ13_bitCount_95d88_53 ?_
    rw [lN_add]
    refine jq_lstore_n dJ13_bitCount_95d88_54 rfl (by decide) rfl rfl ?_
    refine jq_lload_n dJ13_bitCount_95d88_55 rfl rfl ?_
    refine jq_l2i dJ13_bitCount_95d88_56 (lN_i _) ?_
    refine jq_bipush (v := (nI (2 ^ 7 - 1))) dJ13_bitCount_95d88_57 (by decide) ?_
    refine jq_iand dJ13_bitCount_95d88_59 ?_
    rw [fa_mask]
    exact xq_ireturn dJ13_bitCount_95d88_60 rfl rfl (⟨by rw [← hmain.1], rfl⟩)
  have h10 : jq_J l G mJ13_bitCount_95d88 (jq_R 1 0 0) jq_E0 (xs_Ye G n ad (xs_pd (some (.int (nI (pc_n m)))) X)) 10 [some (.long (lN (pc_s1 8 m))), none] [] n ad (xs_mem G ad X) 0 0 := by
    refine jq_lload_n dJ13_bitCount_95d88_10 rfl rfl ?_
    refine jq_ldc2 dJ13_bitCount_95d88_11 pc_c2 ?_
    refine jq_land dJ13_bitCount_95d88_14 ?_
    rw [wb_and z1 hmk2]
    refine jq_lload_n dJ13_bitCount_95d88_15 rfl rfl ?_
    refine jq_iconst (v := (nI 2)) dJ13_bitCount_95d88_16 (by decide) ?_
    refine jq_lushr dJ13_bitCount_95d88_17 (wb_shr (k := 2) z1 (by decide)) ?_
    refine jq_ldc2 dJ13_bitCount_95d88_18 pc_c2 ?_
    refine jq_land dJ13_bitCount_95d88_21 ?_
    rw [wb_and (Nat.lt_of_le_of_lt (Nat.div_le_self _ _) z1) hmk2]
    refine jq_ladd dJ13_bitCount_95d88_22 ?_
    rw [lN_add]
    rw [show (pc_s1 8 m &&& pc_mk 51 8) + (pc_s1 8 m / 2 ^ 2 &&& pc_mk 51 8) = pc_s2 8 (pc_s1 8 m) from rfl]
    refine jq_lstore_n dJ13_bitCount_95d88_23 rfl (by decide) rfl rfl ?_
    have e2 : (pc_s1 8 m &&& pc_mk 51 8) + (pc_s1 8 m / 2 ^ 2 &&& pc_mk 51 8) = pc_s2 8 (pc_s1 8 m) := rfl
    refine jq_lload_n dJ13_bitCount_95d88_24 rfl rfl ?_
    refine jq_lload_n dJ13_bitCount_95d88_25 rfl rfl ?_
    refine jq_iconst (v := (nI 4)) dJ13_bitCount_95d88_26 (by decide) ?_
    refine jq_lushr dJ13_bitCount_95d88_27 (wb_shr (k := 4) (by omega) (by decide)) ?_
    refine jq_ladd dJ13_bitCount_95d88_28 ?_
    rw [lN_add]
    refine jq_ldc2 dJ13_bitCount_95d88_29 pc_c3 ?_
    refine jq_land dJ13_bitCount_95d88_32 ?_
    rw [wb_and (show pc_s2 8 (pc_s1 8 m) + pc_s2 8 (pc_s1 8 m) / 2 ^ 4 < 2 ^ 64 by omega) hmk3]
    refine jq_lstore_n dJ13_bitCount_95d88_33 rfl (by decide) rfl rfl ?_
    exact h34
  refine xs_Ct_of (L := [some (.long (lN m)), none]) rfl (Nat.le_of_ble_eq_true rfl) rfl ?_
  refine jq_lload_n dJ13_bitCount_95d88_0 rfl rfl ?_
  refine jq_lload_n dJ13_bitCount_95d88_1 rfl rfl ?_
  refine jq_iconst (v := (nI 1)) dJ13_bitCount_95d88_2 (by decide) ?_
  refine jq_lushr dJ13_bitCount_95d88_3 (wb_shr (k := 1) hm (by decide)) ?_
  refine jq_ldc2 dJ13_bitCount_95d88_4 pc_c1 ?_
  refine jq_land dJ13_bitCount_95d88_7 ?_
  rw [wb_and (by omega) hmk1]
  refine jq_lsub dJ13_bitCount_95d88_8 ?_
  rw [lN_sub (by simpa using k1)]
  refine jq_lstore_n dJ13_bitCount_95d88_9 rfl (by decide) rfl rfl ?_
  exact h10
