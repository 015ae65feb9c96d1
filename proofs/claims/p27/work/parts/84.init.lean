/-! printed by program: THE MAKERS: an object's and an array's making in the light judgement, then the makers of the classes and of the reference -/
def jq_df (ty : Nat → FieldType) (N : Nat) : List Value := (List.range N).map (fun j => defaultValue (ty j))
theorem jq_df_at {ty : Nat → FieldType} {N : Nat} : ∀ j, j < N → defaultValue (ty j) = vp_V (jq_df ty N) j := by
  intro j hj
  simp [jq_df, vp_V, List.getD, List.getElem?_map, List.getElem?_range hj]
theorem jn_obj : Cond.instanceMethod Lib.objectInit ∈ jq_big := jq_in1 45 (by decide +kernel) rfl
theorem jc_obj : Cond.code Lib.objectInit ⟨#[0xb1]⟩ 1 none ∈ jq_big := jq_in1 46 (by decide +kernel) rfl
theorem jo_X5 : Cond.methodLink RX5 1 Lib.objectInit ∈ jq_big := jq_in1 44 (by decide +kernel) rfl
theorem jo_X0 : Cond.methodLink RX0 3 Lib.objectInit ∈ jq_big := jq_in1 52 (by decide +kernel) rfl
theorem jo_X4 : Cond.methodLink RX4 3 Lib.objectInit ∈ jq_big := jq_in1 128 (by decide +kernel) rfl
theorem jo_X1 : Cond.methodLink RX1 3 Lib.objectInit ∈ jq_big := jq_in1 134 (by decide +kernel) rfl
theorem jo_X2 : Cond.methodLink RX2 3 Lib.objectInit ∈ jq_big := jq_in1 180 (by decide +kernel) rfl
theorem jo_X3 : Cond.methodLink RX3 3 Lib.objectInit ∈ jq_big := jq_in1 217 (by decide +kernel) rfl
section JN
variable {l : Launch} {G : jq_G} {M : jq_M} {R : Room} {Ex : jq_E} {Y : jq_Y} {pc : Nat} {L : jq_L} {st : List Value} {n : Nat} {ad : Nat → Nat} {mem : Nat → va_E} {cells slots : Nat}
theorem jq_obj {idx a : Nat} (hd : decode M.2.1 pc = .ok (.invokespecial idx, 3)) (hk : Cond.methodLink M.1.cls idx Lib.objectInit ∈ jq_big) (hf : 1 ≤ R.frames ∧ 12 ≤ R.locals) (k : jq_J l G M R Ex Y (pc + 3) L [] n ad mem cells slots) : jq_J l G M R Ex Y pc L [.ref a] n ad mem cells slots :=
  fun p e s m args below meth c A hC hE H locs ls hl hP hD hS => W.objInit hC.1.1 hC.1.2.1 hC.1.2.2.2 (hC.2.1 _ hk) (hC.2.1 _ jn_obj) (hC.2.1 _ jc_obj) rfl (hl.1.trans hC.1.2.2.1.symm) rfl hd hf.1 (by have h := hf.2; simpa [JFrame.monitorRoom] using h) (k p e s m args below meth c A hC hE H locs ls hl hP hD hS)
theorem jq_new {idx ci N : Nat} {C : String} {T : u_T} (ty : Nat → FieldType) (hu : Cond.classLink M.1.cls idx C ∈ jq_big) (hi : Cond.instantiable C N ∈ jq_big) (hini : Cond.initialized C ∈ jq_big) (hw : ∀ w ∈ u_ws C T N, w ∈ jq_big) (hty : ∀ k, k < N → parseFieldDescriptor (T k).2.2.1 = some (ty k)) (hc : vwCl[ci]? = some (C, T, N)) (hd : decode M.2.1 pc = .ok (.new idx, 3)) (h1 : cells + 1 ≤ R.cells) (h2 : slots + N ≤ R.slots)
    (k : ∀ q, jq_J l G M R Ex Y (pc + 3) L (.ref q :: st) (n + 1) (va_up ad n q) (va_up mem n (.inr (ci, jq_df ty N))) (cells + 1) (slots + N)) : jq_J l G M R Ex Y pc L st n ad mem cells slots := by
  intro p e s m args below meth c A hC hE H locs ls hl hP hD hS
  refine va_new hC.1.1 hC.1.2.1 (Ts := jq_big) hC.2.1 hw ty hty hC.1.2.2.2 (hC.2.1 _ hu) (hC.2.1 _ hi) (hC.2.1 _ hini) hC.2.2.1 hP hD hS hC.2.2.2.2.1 hc (fs := jq_df ty N) jq_df_at h1 h2 hd (fun q H1 hP1 hD1 hS1 => ?_)
  rw [jq_wl_push] at hP1 hD1
  exact k q p e s m args below meth c A hC hE H1 locs ls hl hP1 hD1 hS1

theorem jq_newI {z : Int32} {N : Nat} (hd : decode M.2.1 pc = .ok (.newarray .int, 2)) (hz : ¬ z < 0) (hN : z.toNatClampNeg = N) (hb : N * componentBytes .int ≤ 536870912) (h1 : cells + 1 ≤ R.cells) (h2 : slots + N ≤ R.slots)
    (k : ∀ q, jq_J l G M R Ex Y (pc + 2) L (.ref q :: st) (n + 1) (va_up ad n q) (va_up mem n (.inl (G.2.1, N, .inl (fun _ => 0)))) (cells + 1) (slots + N)) : jq_J l G M R Ex Y pc L (.int z :: st) n ad mem cells slots := by
  intro p e s m args below meth c A hC hE H locs ls hl hP hD hS
  refine va_newa (atype := .int) hC.1.1 hC.1.2.1 (hC.2.1 _ ja_int) (ty := .int) rfl hC.2.2.1 hP hD hS hC.2.2.2.2.1 (a0 := (N, .inl (fun _ => 0))) (fun _ => rfl) hz hN hb h1 h2 hd (fun q cA H1 hK1 hP1 hD1 hS1 => ?_)
  have e1 : va_RA s cA .int := (hK1.2 2 (cA, .int) rfl).2
  have e2 : va_RA s G.2.1 .int := (hC.2.2.1.2 0 (G.2.1, .int) rfl).2
  have e3 : cA = G.2.1 := Option.some.inj ((show s.vm.findClass _ = some cA from e1).symm.trans e2)
  subst e3
  rw [jq_wl_push] at hP1 hD1
  exact k q p e s m args below meth c A hC hE H1 locs ls hl hP1 hD1 hS1

theorem jq_newL {z : Int32} {N : Nat} (hd : decode M.2.1 pc = .ok (.newarray .long, 2)) (hz : ¬ z < 0) (hN : z.toNatClampNeg = N) (hb : N * componentBytes .long ≤ 536870912) (h1 : cells + 1 ≤ R.cells) (h2 : slots + N ≤ R.slots)
    (k : ∀ q, jq_J l G M R Ex Y (pc + 2) L (.ref q :: st) (n + 1) (va_up ad n q) (va_up mem n (.inl (G.2.2.1, N, .inr (.inl (fun _ => 0))))) (cells + 1) (slots + N)) : jq_J l G M R Ex Y pc L (.int z :: st) n ad mem cells slots := by
  intro p e s m args below meth c A hC hE H locs ls hl hP hD hS
  refine va_newa (atype := .long) hC.1.1 hC.1.2.1 (hC.2.1 _ ja_long) (ty := .long) rfl hC.2.2.1 hP hD hS hC.2.2.2.2.1 (a0 := (N, .inr (.inl (fun _ => 0)))) (fun _ => rfl) hz hN hb h1 h2 hd (fun q cA H1 hK1 hP1 hD1 hS1 => ?_)
  have e1 : va_RA s cA .long := (hK1.2 2 (cA, .long) rfl).2
  have e2 : va_RA s G.2.2.1 .long := (hC.2.2.1.2 1 (G.2.2.1, .long) rfl).2
  have e3 : cA = G.2.2.1 := Option.some.inj ((show s.vm.findClass _ = some cA from e1).symm.trans e2)
  subst e3
  rw [jq_wl_push] at hP1 hD1
  exact k q p e s m args below meth c A hC hE H1 locs ls hl hP1 hD1 hS1

end JN
def xs_0 : xs_T := (fun _ _ => 0, fun _ _ => 0, fun _ _ => 0, fun _ _ => 0)
theorem xs_mem_ad {G : jq_G} {ad ad' : Nat → Nat} {X : xs_T} {q b : Nat} (h : ∀ t, t < b → ad' t = ad t) (hq : (List.range (xs_nf q)).all (fun k => Nat.blt (xs_f q k) (b + 2)) = true) : xs_mem G ad' X q = xs_mem G ad X q := by
  have e : xs_fs ad' X q = xs_fs ad X q := by
    unfold xs_fs
    apply List.map_congr_left
    intro k hk
    have h1 := List.all_eq_true.mp hq k hk
    have h2 : xs_f q k < b + 2 := by simpa using h1
    unfold xs_fv
    cases hf : xs_f q k with
    | zero => rfl
    | succ t => cases t with
      | zero => rfl
      | succ t => dsimp only; rw [h t (by omega)]
  unfold xs_mem
  rw [e]

set_option maxHeartbeats 4000000 in
theorem c_X0_init {l : Launch} {G : jq_G} {ad : Nat → Nat} {mem : Nat → va_E} (hm : mem 1 = .inr (0, jq_df tyX0 16)) : jq_Ct l G mX0_init 1 9 250 [.ref (ad 1)] 2 ad mem (fun r n' ad' mem' => r = none ∧ n' = 11 ∧ (∀ j, j < 2 → ad' j = ad j) ∧ (∀ j, j < 2 → j ≠ 1 → mem' j = mem j) ∧ ∀ j, 1 ≤ j → j < 11 → mem' j = xs_mem G ad' xs_0 j) := by
  refine jq_Ct_of (L := [some (.ref (ad 1))]) rfl (Nat.le_of_ble_eq_true rfl) rfl ?_
  refine jq_mem (ad' := ad) (mem' := va_up mem 1 (.inr (0, jq_df tyX0 16))) ?_ ?_
  · intro k _
    refine ⟨rfl, ?_⟩
    by_cases e : k = 1
    · rw [e, va_up_self, hm]
    · rw [va_up_ne _ _ e]
  refine jq_aload_n dX0_init_0 rfl rfl ?_
  refine jq_obj dX0_init_1 jo_X0 ⟨by decide, by decide⟩ ?_
  refine jq_aload_n dX0_init_4 rfl rfl ?_
  refine jq_bipush (v := 16) dX0_init_5 (by decide) ?_
  refine jq_newI (N := 16) dX0_init_7 (by decide) (by decide) (by decide) (by decide) (by decide) (fun q2 => ?_)
  refine jq_putfinal (q := 1) pX0_9 rfl dX0_init_9 (by decide) rfl rfl rfl (Nat.le_of_ble_eq_true rfl) ?_
  refine jq_aload_n dX0_init_12 rfl rfl ?_
  refine jq_bipush (v := 17) dX0_init_13 (by decide) ?_
  refine jq_newL (N := 17) dX0_init_15 (by decide) (by decide) (by decide) (by decide) (by decide) (fun q3 => ?_)
  refine jq_putfinal (q := 1) pX0_15 rfl dX0_init_17 (by decide) rfl rfl rfl (Nat.le_of_ble_eq_true rfl) ?_
  refine jq_aload_n dX0_init_20 rfl rfl ?_
  refine jq_bipush (v := 25) dX0_init_21 (by decide) ?_
  refine jq_newL (N := 25) dX0_init_23 (by decide) (by decide) (by decide) (by decide) (by decide) (fun q4 => ?_)
  refine jq_putfinal (q := 1) pX0_19 rfl dX0_init_25 (by decide) rfl rfl rfl (Nat.le_of_ble_eq_true rfl) ?_
  refine jq_aload_n dX0_init_28 rfl rfl ?_
  refine jq_bipush (v := 40) dX0_init_29 (by decide) ?_
  refine jq_newI (N := 40) dX0_init_31 (by decide) (by decide) (by decide) (by decide) (by decide) (fun q5 => ?_)
  refine jq_putfinal (q := 1) pX0_22 rfl dX0_init_33 (by decide) rfl rfl rfl (Nat.le_of_ble_eq_true rfl) ?_
  refine jq_aload_n dX0_init_36 rfl rfl ?_
  refine jq_bipush (v := 40) dX0_init_37 (by decide) ?_
  refine jq_newI (N := 40) dX0_init_39 (by decide) (by decide) (by decide) (by decide) (by decide) (fun q6 => ?_)
  refine jq_putfinal (q := 1) pX0_25 rfl dX0_init_41 (by decide) rfl rfl rfl (Nat.le_of_ble_eq_true rfl) ?_
  refine jq_aload_n dX0_init_44 rfl rfl ?_
  refine jq_bipush (v := 40) dX0_init_45 (by decide) ?_
  refine jq_newI (N := 40) dX0_init_47 (by decide) (by decide) (by decide) (by decide) (by decide) (fun q7 => ?_)
  refine jq_putfinal (q := 1) pX0_28 rfl dX0_init_49 (by decide) rfl rfl rfl (Nat.le_of_ble_eq_true rfl) ?_
  refine jq_aload_n dX0_init_52 rfl rfl ?_
  refine jq_bipush (v := 40) dX0_init_53 (by decide) ?_
  refine jq_newI (N := 40) dX0_init_55 (by decide) (by decide) (by decide) (by decide) (by decide) (fun q8 => ?_)
  refine jq_putfinal (q := 1) pX0_31 rfl dX0_init_57 (by decide) rfl rfl rfl (Nat.le_of_ble_eq_true rfl) ?_
  refine jq_aload_n dX0_init_60 rfl rfl ?_
  refine jq_bipush (v := 16) dX0_init_61 (by decide) ?_
  refine jq_newI (N := 16) dX0_init_63 (by decide) (by decide) (by decide) (by decide) (by decide) (fun q9 => ?_)
  refine jq_putfinal (q := 1) pX0_34 rfl dX0_init_65 (by decide) rfl rfl rfl (Nat.le_of_ble_eq_true rfl) ?_
  refine jq_aload_n dX0_init_68 rfl rfl ?_
  refine jq_bipush (v := 16) dX0_init_69 (by decide) ?_
  refine jq_newL (N := 16) dX0_init_71 (by decide) (by decide) (by decide) (by decide) (by decide) (fun q10 => ?_)
  refine jq_putfinal (q := 1) pX0_37 rfl dX0_init_73 (by decide) rfl rfl rfl (Nat.le_of_ble_eq_true rfl) ?_
  refine jq_return rfl dX0_init_76 rfl (Nat.le_refl _) (Nat.le_refl _) ⟨rfl, rfl, fun j hj => ?_, fun j hj hq => ?_, fun j h1 h2 => ?_⟩
  · rw [va_up_ne _ _ (show j ≠ 10 by omega), va_up_ne _ _ (show j ≠ 9 by omega), va_up_ne _ _ (show j ≠ 8 by omega), va_up_ne _ _ (show j ≠ 7 by omega), va_up_ne _ _ (show j ≠ 6 by omega), va_up_ne _ _ (show j ≠ 5 by omega), va_up_ne _ _ (show j ≠ 4 by omega), va_up_ne _ _ (show j ≠ 3 by omega), va_up_ne _ _ (show j ≠ 2 by omega)]
  · rw [va_up_ne _ _ (show j ≠ 1 by omega), va_up_ne _ _ (show j ≠ 10 by omega), va_up_ne _ _ (show j ≠ 1 by omega), va_up_ne _ _ (show j ≠ 9 by omega), va_up_ne _ _ (show j ≠ 1 by omega), va_up_ne _ _ (show j ≠ 8 by omega), va_up_ne _ _ (show j ≠ 1 by omega), va_up_ne _ _ (show j ≠ 7 by omega), va_up_ne _ _ (show j ≠ 1 by omega), va_up_ne _ _ (show j ≠ 6 by omega), va_up_ne _ _ (show j ≠ 1 by omega), va_up_ne _ _ (show j ≠ 5 by omega), va_up_ne _ _ (show j ≠ 1 by omega), va_up_ne _ _ (show j ≠ 4 by omega), va_up_ne _ _ (show j ≠ 1 by omega), va_up_ne _ _ (show j ≠ 3 by omega), va_up_ne _ _ (show j ≠ 1 by omega), va_up_ne _ _ (show j ≠ 2 by omega), va_up_ne _ _ (show j ≠ 1 by omega)]
  · rcases (show j = 1 ∨ j = 2 ∨ j = 3 ∨ j = 4 ∨ j = 5 ∨ j = 6 ∨ j = 7 ∨ j = 8 ∨ j = 9 ∨ j = 10 by omega) with rfl | rfl | rfl | rfl | rfl | rfl | rfl | rfl | rfl | rfl <;> rfl
set_option maxHeartbeats 4000000 in
theorem c_X1_init {l : Launch} {G : jq_G} {ad : Nat → Nat} {mem : Nat → va_E} (hm : mem 12 = .inr (1, jq_df tyX1 4)) : jq_Ct l G mX1_init 1 2 34 [.ref (ad 12)] 13 ad mem (fun r n' ad' mem' => r = none ∧ n' = 15 ∧ (∀ j, j < 13 → ad' j = ad j) ∧ (∀ j, j < 13 → j ≠ 12 → mem' j = mem j) ∧ ∀ j, 12 ≤ j → j < 15 → mem' j = xs_mem G ad' xs_0 j) := by
  refine jq_Ct_of (L := [some (.ref (ad 12))]) rfl (Nat.le_of_ble_eq_true rfl) rfl ?_
  refine jq_mem (ad' := ad) (mem' := va_up mem 12 (.inr (1, jq_df tyX1 4))) ?_ ?_
  · intro k _
    refine ⟨rfl, ?_⟩
    by_cases e : k = 12
    · rw [e, va_up_self, hm]
    · rw [va_up_ne _ _ e]
  refine jq_aload_n dX1_init_0 rfl rfl ?_
  refine jq_obj dX1_init_1 jo_X1 ⟨by decide, by decide⟩ ?_
  refine jq_aload_n dX1_init_4 rfl rfl ?_
  refine jq_bipush (v := 17) dX1_init_5 (by decide) ?_
  refine jq_newI (N := 17) dX1_init_7 (by decide) (by decide) (by decide) (by decide) (by decide) (fun q13 => ?_)
  refine jq_putfinal (q := 12) pX1_9 rfl dX1_init_9 (by decide) rfl rfl rfl (Nat.le_of_ble_eq_true rfl) ?_
  refine jq_aload_n dX1_init_12 rfl rfl ?_
  refine jq_bipush (v := 17) dX1_init_13 (by decide) ?_
  refine jq_newI (N := 17) dX1_init_15 (by decide) (by decide) (by decide) (by decide) (by decide) (fun q14 => ?_)
  refine jq_putfinal (q := 12) pX1_15 rfl dX1_init_17 (by decide) rfl rfl rfl (Nat.le_of_ble_eq_true rfl) ?_
  refine jq_return rfl dX1_init_20 rfl (Nat.le_refl _) (Nat.le_refl _) ⟨rfl, rfl, fun j hj => ?_, fun j hj hq => ?_, fun j h1 h2 => ?_⟩
  · rw [va_up_ne _ _ (show j ≠ 14 by omega), va_up_ne _ _ (show j ≠ 13 by omega)]
  · rw [va_up_ne _ _ (show j ≠ 12 by omega), va_up_ne _ _ (show j ≠ 14 by omega), va_up_ne _ _ (show j ≠ 12 by omega), va_up_ne _ _ (show j ≠ 13 by omega), va_up_ne _ _ (show j ≠ 12 by omega)]
  · rcases (show j = 12 ∨ j = 13 ∨ j = 14 by omega) with rfl | rfl | rfl <;> rfl
set_option maxHeartbeats 4000000 in
theorem c_X2_init {l : Launch} {G : jq_G} {ad : Nat → Nat} {mem : Nat → va_E} (hm : mem 16 = .inr (2, jq_df tyX2 8)) : jq_Ct l G mX2_init 1 2 80 [.ref (ad 16), .ref (ad 1), .ref (ad 11)] 17 ad mem (fun r n' ad' mem' => r = none ∧ n' = 19 ∧ (∀ j, j < 17 → ad' j = ad j) ∧ (∀ j, j < 17 → j ≠ 16 → mem' j = mem j) ∧ ∀ j, 16 ≤ j → j < 19 → mem' j = xs_mem G ad' xs_0 j) := by
  refine jq_Ct_of (L := [some (.ref (ad 16)), some (.ref (ad 1)), some (.ref (ad 11))]) rfl (Nat.le_of_ble_eq_true rfl) rfl ?_
  refine jq_mem (ad' := ad) (mem' := va_up mem 16 (.inr (2, jq_df tyX2 8))) ?_ ?_
  · intro k _
    refine ⟨rfl, ?_⟩
    by_cases e : k = 16
    · rw [e, va_up_self, hm]
    · rw [va_up_ne _ _ e]
  refine jq_aload_n dX2_init_0 rfl rfl ?_
  refine jq_obj dX2_init_1 jo_X2 ⟨by decide, by decide⟩ ?_
  refine jq_aload_n dX2_init_4 rfl rfl ?_
  refine jq_bipush (v := 40) dX2_init_5 (by decide) ?_
  refine jq_newI (N := 40) dX2_init_7 (by decide) (by decide) (by decide) (by decide) (by decide) (fun q17 => ?_)
  refine jq_putfinal (q := 16) pX2_9 rfl dX2_init_9 (by decide) rfl rfl rfl (Nat.le_of_ble_eq_true rfl) ?_
  refine jq_aload_n dX2_init_12 rfl rfl ?_
  refine jq_bipush (v := 40) dX2_init_13 (by decide) ?_
  refine jq_newI (N := 40) dX2_init_15 (by decide) (by decide) (by decide) (by decide) (by decide) (fun q18 => ?_)
  refine jq_putfinal (q := 16) pX2_15 rfl dX2_init_17 (by decide) rfl rfl rfl (Nat.le_of_ble_eq_true rfl) ?_
  refine jq_aload_n dX2_init_20 rfl rfl ?_
  refine jq_aload_n dX2_init_21 rfl rfl ?_
  refine jq_putfinal (q := 16) pX2_18 rfl dX2_init_22 (by decide) rfl rfl rfl (Nat.le_of_ble_eq_true rfl) ?_
  refine jq_aload_n dX2_init_25 rfl rfl ?_
  refine jq_aload_n dX2_init_26 rfl rfl ?_
  refine jq_putfinal (q := 16) pX2_22 rfl dX2_init_27 (by decide) rfl rfl rfl (Nat.le_of_ble_eq_true rfl) ?_
  refine jq_return rfl dX2_init_30 rfl (Nat.le_refl _) (Nat.le_refl _) ⟨rfl, rfl, fun j hj => ?_, fun j hj hq => ?_, fun j h1 h2 => ?_⟩
  · rw [va_up_ne _ _ (show j ≠ 18 by omega), va_up_ne _ _ (show j ≠ 17 by omega)]
  · rw [va_up_ne _ _ (show j ≠ 16 by omega), va_up_ne _ _ (show j ≠ 16 by omega), va_up_ne _ _ (show j ≠ 16 by omega), va_up_ne _ _ (show j ≠ 18 by omega), va_up_ne _ _ (show j ≠ 16 by omega), va_up_ne _ _ (show j ≠ 17 by omega), va_up_ne _ _ (show j ≠ 16 by omega)]
  · rcases (show j = 16 ∨ j = 17 ∨ j = 18 by omega) with rfl | rfl | rfl <;> rfl
set_option maxHeartbeats 4000000 in
theorem c_X3_init {l : Launch} {G : jq_G} {ad : Nat → Nat} {mem : Nat → va_E} (hm : mem 19 = .inr (3, jq_df tyX3 4)) : jq_Ct l G mX3_init 1 1 9349 [.ref (ad 19), .ref (ad 1)] 20 ad mem (fun r n' ad' mem' => r = none ∧ n' = 21 ∧ (∀ j, j < 20 → ad' j = ad j) ∧ (∀ j, j < 20 → j ≠ 19 → mem' j = mem j) ∧ ∀ j, 19 ≤ j → j < 21 → mem' j = xs_mem G ad' xs_0 j) := by
  refine jq_Ct_of (L := [some (.ref (ad 19)), some (.ref (ad 1))]) rfl (Nat.le_of_ble_eq_true rfl) rfl ?_
  refine jq_mem (ad' := ad) (mem' := va_up mem 19 (.inr (3, jq_df tyX3 4))) ?_ ?_
  · intro k _
    refine ⟨rfl, ?_⟩
    by_cases e : k = 19
    · rw [e, va_up_self, hm]
    · rw [va_up_ne _ _ e]
  refine jq_aload_n dX3_init_0 rfl rfl ?_
  refine jq_obj dX3_init_1 jo_X3 ⟨by decide, by decide⟩ ?_
  refine jq_aload_n dX3_init_4 rfl rfl ?_
  refine jq_sipush (v := 9349) dX3_init_5 (by decide) ?_
  refine jq_newL (N := 9349) dX3_init_8 (by decide) (by decide) (by decide) (by decide) (by decide) (fun q20 => ?_)
  refine jq_putfinal (q := 19) pX3_9 rfl dX3_init_10 (by decide) rfl rfl rfl (Nat.le_of_ble_eq_true rfl) ?_
  refine jq_aload_n dX3_init_13 rfl rfl ?_
  refine jq_aload_n dX3_init_14 rfl rfl ?_
  refine jq_putfinal (q := 19) pX3_15 rfl dX3_init_15 (by decide) rfl rfl rfl (Nat.le_of_ble_eq_true rfl) ?_
  refine jq_return rfl dX3_init_18 rfl (Nat.le_refl _) (Nat.le_refl _) ⟨rfl, rfl, fun j hj => ?_, fun j hj hq => ?_, fun j h1 h2 => ?_⟩
  · rw [va_up_ne _ _ (show j ≠ 20 by omega)]
  · rw [va_up_ne _ _ (show j ≠ 19 by omega), va_up_ne _ _ (show j ≠ 19 by omega), va_up_ne _ _ (show j ≠ 20 by omega), va_up_ne _ _ (show j ≠ 19 by omega)]
  · rcases (show j = 19 ∨ j = 20 by omega) with rfl | rfl <;> rfl
set_option maxHeartbeats 4000000 in
theorem c_X4_init {l : Launch} {G : jq_G} {ad : Nat → Nat} {mem : Nat → va_E} (hm : mem 11 = .inr (4, jq_df tyX4 7)) : jq_Ct l G mX4_init 2 4 46 [.ref (ad 11), .ref (ad 1)] 12 ad mem (fun r n' ad' mem' => r = none ∧ n' = 16 ∧ (∀ j, j < 12 → ad' j = ad j) ∧ (∀ j, j < 12 → j ≠ 11 → mem' j = mem j) ∧ ∀ j, 11 ≤ j → j < 16 → mem' j = xs_mem G ad' xs_0 j) := by
  refine jq_Ct_of (L := [some (.ref (ad 11)), some (.ref (ad 1))]) rfl (Nat.le_of_ble_eq_true rfl) rfl ?_
  refine jq_aload_n dX4_init_0 rfl rfl ?_
  refine jq_obj dX4_init_1 jo_X4 ⟨by decide, by decide⟩ ?_
  refine jq_aload_n dX4_init_4 rfl rfl ?_
  refine jq_new tyX1 uX4_9 jx_X1 ji_X1 jw_X1 tyX1_ok (ci := 1) rfl dX4_init_5 (by decide) (by decide) (fun q12 => ?_)
  refine jq_dup dX4_init_8 rfl ?_
  refine jq_invI (q := 12) (As := []) (rest := [.ref q12, .ref (ad 11)]) dX4_init_9 kX4_11 (c_X1_init (by rfl)) rfl rfl (Nat.le_of_ble_eq_true rfl) ⟨⟨by decide, by decide⟩, by decide, by decide⟩ (fun r n' ad2 mem2 hr => ?_)
  obtain ⟨rfl, rfl, a2, b2, c2⟩ := hr
  have e11 : ad2 11 = ad 11 := (a2 11 (by decide)).trans rfl
  have e1 : ad2 1 = ad 1 := (a2 1 (by decide)).trans rfl
  have e12 : ad2 12 = q12 := (a2 12 (by decide)).trans rfl
  refine jq_mem (ad' := ad2) (mem' := va_up (fun j => if j < 12 then mem j else xs_mem G ad2 xs_0 j) 11 (.inr (4, jq_df tyX4 7))) ?_ ?_
  · intro k hk
    refine ⟨rfl, ?_⟩
    by_cases z : k = 11
    · rw [z, va_up_self, b2 11 (by decide) (by decide), va_up_ne _ _ (by decide), hm]
    · rw [va_up_ne _ _ z]
      by_cases z2 : k < 12
      · rw [if_pos z2, b2 k (by omega) (by omega), va_up_ne _ _ (by omega)]
      · rw [if_neg z2, c2 k (by omega) hk]
  rw [← e11, ← e1, ← e12]
  refine jq_putfinal (q := 11) pX4_12 rfl dX4_init_12 (by decide) rfl rfl rfl (Nat.le_of_ble_eq_true rfl) ?_
  refine jq_aload_n dX4_init_15 rfl rfl ?_
  refine jq_bipush (v := 8) dX4_init_16 (by decide) ?_
  refine jq_newL (N := 8) dX4_init_18 (by decide) (by decide) (by decide) (by decide) (by decide) (fun q15 => ?_)
  refine jq_putfinal (q := 11) pX4_18 rfl dX4_init_20 (by decide) rfl rfl rfl (Nat.le_of_ble_eq_true rfl) ?_
  refine jq_aload_n dX4_init_23 rfl rfl ?_
  refine jq_aload_n dX4_init_24 rfl rfl ?_
  refine jq_putfinal (q := 11) pX4_22 rfl dX4_init_25 (by decide) rfl rfl rfl (Nat.le_of_ble_eq_true rfl) ?_
  refine jq_return rfl dX4_init_28 rfl (Nat.le_refl _) (Nat.le_refl _) ⟨rfl, rfl, fun j hj => ?_, fun j hj hq => ?_, fun j h1 h2 => ?_⟩
  · rw [va_up_ne _ _ (show j ≠ 15 by omega), a2 j (by omega), va_up_ne _ _ (show j ≠ 12 by omega)]
  · rw [va_up_ne _ _ hq, va_up_ne _ _ hq, va_up_ne _ _ (show j ≠ 15 by omega), va_up_ne _ _ hq, va_up_ne _ _ hq, if_pos hj]
  · rcases (show j = 11 ∨ j = 12 ∨ j = 13 ∨ j = 14 ∨ j = 15 by omega) with rfl | rfl | rfl | rfl | rfl <;> rfl
set_option maxHeartbeats 4000000 in
theorem c_X5_init {l : Launch} {G : jq_G} {ad : Nat → Nat} {mem : Nat → va_E} (hm : mem 0 = .inr (5, jq_df tyX5 6)) : jq_Ct l G mX5_init 4 20 9760 [.ref (ad 0)] 1 ad mem (fun r n' ad' mem' => r = none ∧ n' = 21 ∧ ad' 0 = ad 0 ∧ ∃ X', mem' = xs_mem G ad' X' ∧ dv_A 3 3 (fun _ => -1) (fun _ => 0) X' ∧ dv_LC 3 3 X') := by
  refine jq_Ct_of (L := [some (.ref (ad 0))]) rfl (Nat.le_of_ble_eq_true rfl) rfl ?_
  refine jq_aload_n dX5_init_0 rfl rfl ?_
  refine jq_obj dX5_init_1 jo_X5 ⟨by decide, by decide⟩ ?_
  refine jq_aload_n dX5_init_4 rfl rfl ?_
  refine jq_new tyX0 uX5_7 jx_X0 ji_X0 jw_X0 tyX0_ok (ci := 0) rfl dX5_init_5 (by decide) (by decide) (fun q1 => ?_)
  refine jq_dup dX5_init_8 rfl ?_
  refine jq_invI (q := 1) (As := []) (rest := [.ref q1, .ref (ad 0)]) dX5_init_9 kX5_9 (c_X0_init (by rfl)) rfl rfl (Nat.le_of_ble_eq_true rfl) ⟨⟨by decide, by decide⟩, by decide, by decide⟩ (fun r n' ad1 mem1 hr => ?_)
  obtain ⟨rfl, rfl, a1, b1, c1⟩ := hr
  have f0 : ad1 0 = ad 0 := (a1 0 (by decide)).trans rfl
  have f1 : ad1 1 = q1 := (a1 1 (by decide)).trans rfl
  refine jq_mem (ad' := ad1) (mem' := va_up (xs_mem G ad1 xs_0) 0 (.inr (5, jq_df tyX5 6))) ?_ ?_
  · intro k hk
    refine ⟨rfl, ?_⟩
    by_cases z : k = 0
    · rw [z, va_up_self, b1 0 (by decide) (by decide), va_up_ne _ _ (by decide), hm]
    · rw [va_up_ne _ _ z, c1 k (by omega) hk]
  rw [← f0, ← f1]
  refine jq_putfinal (q := 0) pX5_10 rfl dX5_init_12 (by decide) rfl rfl rfl (Nat.le_of_ble_eq_true rfl) ?_
  refine jq_aload_n dX5_init_15 rfl rfl ?_
  refine jq_new tyX4 uX5_16 jx_X4 ji_X4 jw_X4 tyX4_ok (ci := 4) rfl dX5_init_16 (by decide) (by decide) (fun q11 => ?_)
  refine jq_dup dX5_init_19 rfl ?_
  refine jq_aload_n dX5_init_20 rfl rfl ?_
  refine jq_getfield (q := 0) fX5_10 dX5_init_21 (by decide) rfl rfl ?_
  refine jq_invI (q := 11) (As := [.ref (ad1 1)]) (rest := [.ref q11, .ref (ad1 0)]) dX5_init_24 kX5_18 (c_X4_init (by rfl)) rfl rfl (Nat.le_of_ble_eq_true rfl) ⟨⟨by decide, by decide⟩, by decide, by decide⟩ (fun r n' ad2 mem2 hr => ?_)
  obtain ⟨rfl, rfl, a2, b2, c2⟩ := hr
  have g0 : ad2 0 = ad1 0 := (a2 0 (by decide)).trans rfl
  have g11 : ad2 11 = q11 := (a2 11 (by decide)).trans rfl
  have g1 : ∀ t, t < 11 → ad2 t = ad1 t := fun t ht => (a2 t (by omega)).trans (va_up_ne _ _ (by omega))
  refine jq_mem (ad' := ad2) (mem' := va_up (xs_mem G ad2 xs_0) 0 (.inr (5, (jq_df tyX5 6).set 0 (.ref (ad2 1))))) ?_ ?_
  · intro k hk
    refine ⟨rfl, ?_⟩
    by_cases z : k = 0
    · rw [z, va_up_self, b2 0 (by decide) (by decide), g1 1 (by decide)]
      rfl
    · rw [va_up_ne _ _ z]
      by_cases z2 : k < 11
      · rw [b2 k (by omega) (by omega), va_up_ne _ _ (by omega), va_up_ne _ _ z, va_up_ne _ _ z]
        exact (xs_mem_ad g1 (by rcases (show k = 1 ∨ k = 2 ∨ k = 3 ∨ k = 4 ∨ k = 5 ∨ k = 6 ∨ k = 7 ∨ k = 8 ∨ k = 9 ∨ k = 10 by omega) with rfl | rfl | rfl | rfl | rfl | rfl | rfl | rfl | rfl | rfl <;> decide)).symm
      · exact c2 k (by omega) hk
  rw [← g0, ← g11]
  refine jq_putfinal (q := 0) pX5_21 rfl dX5_init_27 (by decide) rfl rfl rfl (Nat.le_of_ble_eq_true rfl) ?_
  refine jq_aload_n dX5_init_30 rfl rfl ?_
  refine jq_new tyX2 uX5_25 jx_X2 ji_X2 jw_X2 tyX2_ok (ci := 2) rfl dX5_init_31 (by decide) (by decide) (fun q16 => ?_)
  refine jq_dup dX5_init_34 rfl ?_
  refine jq_aload_n dX5_init_35 rfl rfl ?_
  refine jq_getfield (q := 0) fX5_10 dX5_init_36 (by decide) rfl rfl ?_
  refine jq_aload_n dX5_init_39 rfl rfl ?_
  refine jq_getfield (q := 0) fX5_21 dX5_init_40 (by decide) rfl rfl ?_
  refine jq_invI (q := 16) (As := [.ref (ad2 1), .ref (ad2 11)]) (rest := [.ref q16, .ref (ad2 0)]) dX5_init_43 kX5_27 (c_X2_init (by rfl)) rfl rfl (Nat.le_of_ble_eq_true rfl) ⟨⟨by decide, by decide⟩, by decide, by decide⟩ (fun r n' ad3 mem3 hr => ?_)
  obtain ⟨rfl, rfl, a3, b3, c3⟩ := hr
  have i0 : ad3 0 = ad2 0 := (a3 0 (by decide)).trans rfl
  have i16 : ad3 16 = q16 := (a3 16 (by decide)).trans rfl
  have i1 : ∀ t, t < 16 → ad3 t = ad2 t := fun t ht => (a3 t (by omega)).trans (va_up_ne _ _ (by omega))
  refine jq_mem (ad' := ad3) (mem' := va_up (xs_mem G ad3 xs_0) 0 (.inr (5, ((jq_df tyX5 6).set 0 (.ref (ad3 1))).set 1 (.ref (ad3 11))))) ?_ ?_
  · intro k hk
    refine ⟨rfl, ?_⟩
    by_cases z : k = 0
    · rw [z, va_up_self, b3 0 (by decide) (by decide), i1 1 (by decide), i1 11 (by decide)]
      rfl
    · rw [va_up_ne _ _ z]
      by_cases z2 : k < 16
      · rw [b3 k (by omega) (by omega), va_up_ne _ _ (by omega), va_up_ne _ _ z, va_up_ne _ _ z]
        exact (xs_mem_ad i1 (by rcases (show k = 1 ∨ k = 2 ∨ k = 3 ∨ k = 4 ∨ k = 5 ∨ k = 6 ∨ k = 7 ∨ k = 8 ∨ k = 9 ∨ k = 10 ∨ k = 11 ∨ k = 12 ∨ k = 13 ∨ k = 14 ∨ k = 15 by omega) with rfl | rfl | rfl | rfl | rfl | rfl | rfl | rfl | rfl | rfl | rfl | rfl | rfl | rfl | rfl <;> decide)).symm
      · exact c3 k (by omega) hk
  rw [← i0, ← i16]
  refine jq_putfinal (q := 0) pX5_30 rfl dX5_init_46 (by decide) rfl rfl rfl (Nat.le_of_ble_eq_true rfl) ?_
  refine jq_aload_n dX5_init_49 rfl rfl ?_
  refine jq_new tyX3 uX5_34 jx_X3 ji_X3 jw_X3 tyX3_ok (ci := 3) rfl dX5_init_50 (by decide) (by decide) (fun q19 => ?_)
  refine jq_dup dX5_init_53 rfl ?_
  refine jq_aload_n dX5_init_54 rfl rfl ?_
  refine jq_getfield (q := 0) fX5_10 dX5_init_55 (by decide) rfl rfl ?_
  refine jq_invI (q := 19) (As := [.ref (ad3 1)]) (rest := [.ref q19, .ref (ad3 0)]) dX5_init_58 kX5_36 (c_X3_init (by rfl)) rfl rfl (Nat.le_of_ble_eq_true rfl) ⟨⟨by decide, by decide⟩, by decide, by decide⟩ (fun r n' ad4 mem4 hr => ?_)
  obtain ⟨rfl, rfl, a4, b4, c4⟩ := hr
  have j0 : ad4 0 = ad3 0 := (a4 0 (by decide)).trans rfl
  have j19 : ad4 19 = q19 := (a4 19 (by decide)).trans rfl
  have j1 : ∀ t, t < 19 → ad4 t = ad3 t := fun t ht => (a4 t (by omega)).trans (va_up_ne _ _ (by omega))
  refine jq_mem (ad' := ad4) (mem' := va_up (xs_mem G ad4 xs_0) 0 (.inr (5, (((jq_df tyX5 6).set 0 (.ref (ad4 1))).set 1 (.ref (ad4 11))).set 2 (.ref (ad4 16))))) ?_ ?_
  · intro k hk
    refine ⟨rfl, ?_⟩
    by_cases z : k = 0
    · rw [z, va_up_self, b4 0 (by decide) (by decide), j1 1 (by decide), j1 11 (by decide), j1 16 (by decide)]
      rfl
    · rw [va_up_ne _ _ z]
      by_cases z2 : k < 19
      · rw [b4 k (by omega) (by omega), va_up_ne _ _ (by omega), va_up_ne _ _ z, va_up_ne _ _ z]
        exact (xs_mem_ad j1 (by rcases (show k = 1 ∨ k = 2 ∨ k = 3 ∨ k = 4 ∨ k = 5 ∨ k = 6 ∨ k = 7 ∨ k = 8 ∨ k = 9 ∨ k = 10 ∨ k = 11 ∨ k = 12 ∨ k = 13 ∨ k = 14 ∨ k = 15 ∨ k = 16 ∨ k = 17 ∨ k = 18 by omega) with rfl | rfl | rfl | rfl | rfl | rfl | rfl | rfl | rfl | rfl | rfl | rfl | rfl | rfl | rfl | rfl | rfl | rfl <;> decide)).symm
      · exact c4 k (by omega) hk
  rw [← j0, ← j19]
  refine jq_putfinal (q := 0) pX5_37 rfl dX5_init_61 (by decide) rfl rfl rfl (Nat.le_of_ble_eq_true rfl) ?_
  refine jq_mem (ad' := ad4) (mem' := xs_mem G ad4 xs_0) ?_ ?_
  · intro k hk
    refine ⟨rfl, ?_⟩
    by_cases z : k = 0
    · subst z
      rfl
    · rw [va_up_ne _ _ z, va_up_ne _ _ z]
  refine jq_aload_n dX5_init_64 rfl rfl ?_
  refine xq_getR 1 fX5_10 dX5_init_65 (by decide) (by decide) ?_
  refine jq_iconst (v := (nI 3)) dX5_init_68 (by decide) ?_
  refine jq_iconst (v := (nI 3)) dX5_init_69 (by decide) ?_
  refine xq_invV dX5_init_70 kX5_41 (c_X0_build (Nat.le_refl _) (w := 3) (h := 3) ⟨by decide, by decide, by decide, by decide⟩) (by decide) ⟨by decide, by decide⟩ rfl rfl (by decide) ⟨⟨by decide, by decide⟩, by decide, by decide⟩ (fun r X' hr => ?_)
  obtain ⟨rfl, hf, hT, hN⟩ := hr
  refine jq_return rfl dX5_init_73 rfl (Nat.le_refl _) (Nat.le_refl _) ⟨rfl, rfl, ?_, X', rfl, ⟨hT, hN, ⟨?_, ?_⟩, fun _ _ => Nat.zero_le 2⟩, Or.inl ?_⟩
  · rw [j0, i0, g0, f0]
  · exact xs_fl hf 0 4 (show xs_0.2.1 0 4 = _ by decide) (by decide)
  · exact xs_fl hf 0 5 (show xs_0.2.1 0 5 = _ by decide) (by decide)
  · exact xs_fi hf 19 3 rfl (by decide)
