/-! THE START of the law: the object and the three rows are made, the numbers wiped, then the loop -/
theorem lw_go {n : Nat} {X1 X : xs_T} (hA : dv_A 3 3 (fun _ => -1) (fun _ => 0) X1) (hC : dv_LC 3 3 X1) (hf : xs_fr [21, 22, 23] [(21, 0), (22, 0), (23, 0)] X1 X) (z21 : X.1 21 0 = nI 2) (z22 : X.1 22 0 = nI 9) (z23 : X.1 23 0 = nI 24) (b0 : X.2.2.1 21 0 = nI 3) (b1 : X.2.2.1 21 1 = nI 3) (hnum : ∀ j, j < 9 → X.2.2.1 22 j = -1) (hmk : ∀ j, j < 24 → X.2.2.1 23 j = 0) : lk_Z X := by
  refine ⟨3, 3, (fun _ => -1), (fun _ => 0), ⟨⟨⟨by decide, by decide, by rw [z21]; decide⟩, b0, b1, ⟨by decide, by decide, by decide, by decide⟩⟩, ⟨⟨by decide, by decide, by rw [z22]; decide⟩, fun c hc => ?_⟩, ⟨⟨by decide, by decide, by rw [z23]; decide⟩, fun e he => ⟨?_, Nat.zero_le 2⟩⟩⟩, dv_afr hA hf, dv_lcfr hC hf, fun c hc => (show tb_numOk (-1) = true by decide)⟩
  · have h9 : c < 9 := hc
    exact xs_rd (hnum c h9) (by omega)
  · have h24 : e < 24 := he
    exact xs_rd (hmk e h24) (by omega)
set_option maxHeartbeats 8000000 in
theorem lw_wipe {l : Launch} {G : jq_G} {nm : String} {ad : Nat → Nat} {b Ln : Nat} {xs : Nat → Int32} {X1 X0 : xs_T} (hl : l.stackTraces = false) (hLn : Ln ≤ 1000) (hA : dv_A 3 3 (fun _ => -1) (fun _ => 0) X1) (hC : dv_LC 3 3 X1) (hf : xs_fr [21, 22, 23] [(21, 0), (22, 0), (23, 0)] X1 X0) (z21 : X0.1 21 0 = nI 2) (z22 : X0.1 22 0 = nI 9) (z23 : X0.1 23 0 = nI 24) (b0 : X0.2.2.1 21 0 = nI 3) (b1 : X0.2.2.1 21 1 = nI 3) (hmk : ∀ j, j < 24 → X0.2.2.1 23 j = 0) : ∀ (k c : Nat) (X : xs_T), c + k = 9 → xs_fr [22] [] X0 X → (∀ j, j < c → X.2.2.1 22 j = -1) → jq_J l G (mlaw nm) room_1 (lw_E b Ln xs) lw_Y 34 [some (.ref b), some (.ref (ad 0)), some (.ref (ad 21)), some (.ref (ad 22)), some (.ref (ad 23)), some (.int (nI c)), none, none, none, none] [] 24 ad (xs_mem G ad X) 25 10000 := by
  intro k
  induction k with
  | zero =>
    intro c X hc hfx hnum
    have e1 : c = 9 := by omega
    subst e1
    refine jq_iload dL_law_34 rfl ?_
    refine jq_bipush (v := (nI 9)) dL_law_36 (by decide) ?_
    refine jq_geN (tgt := 52) dL_law_38 (by decide) ⟨by decide, by decide⟩ (fun _ => ?_) (fun z => absurd z (by decide))
    refine jq_iconst (v := (nI 0)) dL_law_52 (by decide) ?_
    refine jq_istore dL_law_53 (Nat.le_of_ble_eq_true rfl) rfl rfl ?_
    refine lw_loop hl hLn 60 0 X _ _ _ _ (by decide) (lw_go (n := 0) hA hC (xs_fr_tr hf (xs_fr_mo hfx (by decide))) ?_ ?_ ?_ ?_ ?_ hnum ?_)
    · rw [(hfx.1 21 0 (by simp)).1]; exact z21
    · rw [(hfx.1 22 0 (by simp)).1]; exact z22
    · rw [(hfx.1 23 0 (by simp)).1]; exact z23
    · rw [xs_fa hfx 21]; exact b0
    · rw [xs_fa hfx 21]; exact b1
    · rw [xs_fa hfx 23]; exact hmk
  | succ k ih =>
    intro c X hc hfx hnum
    refine jq_iload dL_law_34 rfl ?_
    refine jq_bipush (v := (nI 9)) dL_law_36 (by decide) ?_
    refine jq_geN (tgt := 52) dL_law_38 (by decide) ⟨by omega, by decide⟩ (fun z => absurd z (by omega)) (fun _ => ?_)
    refine jq_aload_n dL_law_41 rfl rfl ?_
    refine jq_iload dL_law_42 rfl ?_
    refine jq_iconst (v := (-1)) dL_law_44 (by decide) ?_
    refine xq_iast dL_law_45 (z := 9) ⟨by decide, by decide, by rw [(hfx.1 22 0 (by simp)).1, z22]; decide⟩ (vp_inN (by omega) (by decide)) ?_
    refine jq_iincN dL_law_46 (Nat.le_of_ble_eq_true rfl) rfl rfl rfl ?_
    refine jq_goto (tgt := 34) dL_law_49 (by decide) ?_
    refine ih (c + 1) _ (by omega) (xs_fr_ai hfx (by simp)) (fun j hj => ?_)
    rw [xs_ai_at]
    by_cases z : j = c
    · subst z; exact xs_upd_at (by omega)
    · rw [xs_upd_ne (by omega) z]; exact hnum j (by omega)
set_option maxHeartbeats 8000000 in
theorem lw_begin {l : Launch} {G : jq_G} {nm : String} {b Ln : Nat} {xs : Nat → Int32} {ad : Nat → Nat} {mem : Nat → va_E} (hl : l.stackTraces = false) (hLn : Ln ≤ 1000) : jq_J l G (mlaw nm) room_1 (lw_E b Ln xs) lw_Y 0 [some (.ref b), none, none, none, none, none, none, none, none, none] [] 0 ad mem 0 0 := by
  refine jq_new tyX5 uL_83 jx_X5 ji_X5 jw_X5 tyX5_ok (ci := 5) rfl dL_law_0 (Nat.le_of_ble_eq_true rfl) (Nat.le_of_ble_eq_true rfl) (fun q0 => ?_)
  refine jq_dup dL_law_3 rfl ?_
  refine jq_invI (q := 0) (As := []) (rest := [.ref q0]) dL_law_4 kL_201 (c_X5_init (by rfl)) rfl rfl (Nat.le_of_ble_eq_true rfl) ⟨⟨Nat.le_of_ble_eq_true rfl, Nat.le_of_ble_eq_true rfl⟩, Nat.le_of_ble_eq_true rfl, Nat.le_of_ble_eq_true rfl⟩ (fun r n' ad1 mem1 hr => ?_)
  obtain ⟨rfl, rfl, e0, X1, rfl, hA, hC⟩ := hr
  have e1 : ad1 0 = q0 := e0.trans rfl
  rw [← e1]
  refine jq_astore_n dL_law_7 rfl (Nat.le_of_ble_eq_true rfl) rfl rfl ?_
  refine jq_iconst (v := (nI 2)) dL_law_8 (by decide) ?_
  refine xm_newI dL_law_9 (by decide) (by decide) ⟨Nat.le_of_ble_eq_true rfl, Nat.le_of_ble_eq_true rfl⟩ (fun ad2 ha2 => ?_)
  rw [← ha2 0 (by decide)]
  refine jq_astore_n dL_law_11 rfl (Nat.le_of_ble_eq_true rfl) rfl rfl ?_
  refine jq_bipush (v := (nI 9)) dL_law_12 (by decide) ?_
  refine xm_newI dL_law_14 (by decide) (by decide) ⟨Nat.le_of_ble_eq_true rfl, Nat.le_of_ble_eq_true rfl⟩ (fun ad3 ha3 => ?_)
  rw [← ha3 0 (by decide), ← ha3 21 (by decide)]
  refine jq_astore_n dL_law_16 rfl (Nat.le_of_ble_eq_true rfl) rfl rfl ?_
  refine jq_bipush (v := (nI 24)) dL_law_17 (by decide) ?_
  refine xm_newI dL_law_19 (by decide) (by decide) ⟨Nat.le_of_ble_eq_true rfl, Nat.le_of_ble_eq_true rfl⟩ (fun ad4 ha4 => ?_)
  rw [← ha4 0 (by decide), ← ha4 21 (by decide), ← ha4 22 (by decide)]
  refine jq_astore dL_law_21 (Nat.le_of_ble_eq_true rfl) rfl rfl ?_
  have hf0 : xs_fr [21, 22, 23] [(21, 0), (22, 0), (23, 0)] X1 (xs_nw (xs_nw (xs_nw X1 21 2) 22 9) 23 24) :=
    xs_fr_tr (xs_fr_tr (xs_fr_mo xs_nw_fr (by decide)) (xs_fr_mo xs_nw_fr (by decide))) (xs_fr_mo xs_nw_fr (by decide))
  have z21 : (xs_nw (xs_nw (xs_nw X1 21 2) 22 9) 23 24).1 21 0 = nI 2 := by
    rw [(xs_nw_fr.1 21 0 (by decide)).1, (xs_nw_fr.1 21 0 (by decide)).1, xs_nw_at]
  have z22 : (xs_nw (xs_nw (xs_nw X1 21 2) 22 9) 23 24).1 22 0 = nI 9 := by
    rw [(xs_nw_fr.1 22 0 (by decide)).1, xs_nw_at]
  have z23 : (xs_nw (xs_nw (xs_nw X1 21 2) 22 9) 23 24).1 23 0 = nI 24 := xs_nw_at
  have m23 : (xs_nw (xs_nw (xs_nw X1 21 2) 22 9) 23 24).2.2.1 23 = fun _ => 0 := xs_nw_row
  refine lw_up (c' := 25) (s' := 10000) (by decide) (by decide) ?_
  generalize xs_nw (xs_nw (xs_nw X1 21 2) 22 9) 23 24 = X0 at *
  refine jq_aload_n dL_law_23 rfl rfl ?_
  refine jq_iconst (v := (nI 0)) dL_law_24 (by decide) ?_
  refine jq_iconst (v := (nI 3)) dL_law_25 (by decide) ?_
  refine xq_iast dL_law_26 (z := 2) ⟨by decide, by decide, by rw [z21]; decide⟩ lr_v0 ?_
  refine jq_aload_n dL_law_27 rfl rfl ?_
  refine jq_iconst (v := (nI 1)) dL_law_28 (by decide) ?_
  refine jq_iconst (v := (nI 3)) dL_law_29 (by decide) ?_
  refine xq_iast dL_law_30 (z := 2) ⟨by decide, by decide, by show (X0.1 21 0).toNatClampNeg = 2; rw [z21]; decide⟩ lr_v1 ?_
  refine jq_iconst (v := (nI 0)) dL_law_31 (by decide) ?_
  refine jq_istore dL_law_32 (Nat.le_of_ble_eq_true rfl) rfl rfl ?_
  have hg : xs_fr [21] [] X0 (xs_ai X0 21 (upd (X0.2.2.1 21) (nI 0).toNatClampNeg (nI 3))) := xs_fr_ai xs_fr_rf (by simp)
  have hg2 : xs_fr [21] [] X0 (xs_ai (xs_ai X0 21 (upd (X0.2.2.1 21) (nI 0).toNatClampNeg (nI 3))) 21 (upd ((xs_ai X0 21 (upd (X0.2.2.1 21) (nI 0).toNatClampNeg (nI 3))).2.2.1 21) (nI 1).toNatClampNeg (nI 3))) := xs_fr_ai hg (by simp)
  refine lw_wipe hl hLn hA hC (xs_fr_tr hf0 (xs_fr_mo hg2 (by decide))) z21 z22 z23 ?_ ?_ (fun j hj => ?_) 9 0 _ (by decide) xs_fr_rf (fun j hj => absurd hj (Nat.not_lt_zero j))
  · rw [xs_ai_at, xs_upd_ne (by decide) (by decide), xs_ai_at, xs_upd_at (by decide)]
  · rw [xs_ai_at, xs_upd_at (by decide)]
  · rw [xs_fa hg2 23, m23]
theorem lw_strs : ∀ z ∈ jx_str, Cond.stringRef "SlitherFence" z.1 z.2 ∈ lw_tbl :=
  List.forall_mem_cons.mpr ⟨List.mem_of_getElem? (i := 339) (by decide +kernel), List.forall_mem_cons.mpr ⟨List.mem_of_getElem? (i := 395) (by decide +kernel), List.forall_mem_cons.mpr ⟨List.mem_of_getElem? (i := 402) (by decide +kernel), List.forall_mem_cons.mpr ⟨List.mem_of_getElem? (i := 411) (by decide +kernel), List.forall_mem_cons.mpr ⟨List.mem_of_getElem? (i := 412) (by decide +kernel), List.forall_mem_cons.mpr ⟨List.mem_of_getElem? (i := 624) (by decide +kernel), List.forall_mem_cons.mpr ⟨List.mem_of_getElem? (i := 667) (by decide +kernel), List.forall_mem_cons.mpr ⟨List.mem_of_getElem? (i := 758) (by decide +kernel), fun _ h => absurd h List.not_mem_nil⟩⟩⟩⟩⟩⟩⟩⟩
theorem lw_exs : ∀ z ∈ jx_str, Cond.exactly (Term.string "SlitherFence" z.1) "java/lang/String" ∈ flatC (Jvm.Cond.and given_1 narrow_1) :=
  List.forall_mem_cons.mpr ⟨by decide +kernel, List.forall_mem_cons.mpr ⟨by decide +kernel, List.forall_mem_cons.mpr ⟨by decide +kernel, List.forall_mem_cons.mpr ⟨by decide +kernel, List.forall_mem_cons.mpr ⟨by decide +kernel, List.forall_mem_cons.mpr ⟨by decide +kernel, List.forall_mem_cons.mpr ⟨by decide +kernel, List.forall_mem_cons.mpr ⟨by decide +kernel, fun _ h => absurd h List.not_mem_nil⟩⟩⟩⟩⟩⟩⟩⟩
theorem lw_ncs : ∀ z ∈ jx_nc, Cond.not (.castable z.1 z.2) ∈ flatC (Jvm.Cond.and given_1 narrow_1) :=
  List.forall_mem_cons.mpr ⟨by decide +kernel, List.forall_mem_cons.mpr ⟨by decide +kernel, fun _ h => absurd h List.not_mem_nil⟩⟩
theorem lw_nests {s : State} {args : Array Value} (hts : ∀ w ∈ lw_tbl, w.before args s = true) : jq_N s := by
  intro w hw
  obtain ⟨h1, h2⟩ := List.mem_filter.mp hw
  have h3 := hts w h1
  cases w <;> first | (simp [jq_isN] at h2; done) | exact va_Nw.of rfl h3
theorem lw_throws {s : State} {args : Array Value} (hts : ∀ w ∈ lw_tbl, w.before args s = true) (hgv : (Jvm.Cond.and given_1 narrow_1).before args s = true) : jx_N s := by
  have hs := flat_of_before _ hgv
  refine ⟨fun w hw => ?_, fun z hz => va_Nc.of (hs _ (lw_ncs z hz)), fun z hz => ?_⟩
  · obtain ⟨i, -, hi⟩ := List.mem_filterMap.mp hw
    exact va_Nw.of (jx_bad_tabs hw) (hts w (List.mem_of_getElem? hi))
  · obtain ⟨a, c0, ce, k0, ha, -⟩ := Cond.exactly_spec (hs _ (lw_exs z hz))
    exact ⟨a, vk_R.of (hts _ (lw_strs z hz)) ha⟩
theorem lw_zero {s : State} {args : Array Value} {A : Nat → Prop} (hts : ∀ w ∈ lw_tbl, w.before args s = true) (hgv : (Jvm.Cond.and given_1 narrow_1).before args s = true) (hA : ∀ a : Nat, a < s.heap.size → ¬ A a) : jx_H A s s.heap := by
  have hs := flat_of_before _ hgv
  have hi : (Cond.initialized "java/lang/Throwable").before args s = true := hts _ (List.mem_of_getElem? (i := 32) (by decide +kernel))
  exact ⟨vx_Zqof (hts _ (List.mem_of_getElem? (i := 325) (by decide +kernel))) hi (hs _ (by decide +kernel)) hA, vx_Zqof (hts _ (List.mem_of_getElem? (i := 327) (by decide +kernel))) hi (hs _ (by decide +kernel)) hA⟩
theorem lw_world {s : State} {args : Array Value} (hbig : ∀ w ∈ jq_big, w.before args s = true) : ∃ G : jq_G, va_K G.1 vwCl (jq_tys G) s := by
  obtain ⟨d0, i0, k0⟩ := u_known hbig jw_X0 (hbig _ jx_X0)
  obtain ⟨d1, i1, k1⟩ := u_known hbig jw_X1 (hbig _ jx_X1)
  obtain ⟨d2, i2, k2⟩ := u_known hbig jw_X2 (hbig _ jx_X2)
  obtain ⟨d3, i3, k3⟩ := u_known hbig jw_X3 (hbig _ jx_X3)
  obtain ⟨d4, i4, k4⟩ := u_known hbig jw_X4 (hbig _ jx_X4)
  obtain ⟨d5, i5, k5⟩ := u_known hbig jw_X5 (hbig _ jx_X5)
  obtain ⟨cI, kI, oI, a1, a2, a3⟩ := Cond.arrayClass_spec (hbig _ ja_int)
  obtain ⟨cL, kL, oL, b1, b2, b3⟩ := Cond.arrayClass_spec (hbig _ ja_long)
  refine ⟨((fun c => ([d0, d1, d2, d3, d4, d5] : List ClassId).getD c d0, fun c => ([i0, i1, i2, i3, i4, i5] : List (Nat → Nat)).getD c i0), cI, cL, cL), fun c q hq => ?_, fun k q hq => ?_⟩
  · have hc : c < 6 := (List.getElem?_eq_some_iff.mp hq).1
    rcases (show c = 0 ∨ c = 1 ∨ c = 2 ∨ c = 3 ∨ c = 4 ∨ c = 5 by omega) with rfl | rfl | rfl | rfl | rfl | rfl
    · cases (Option.some.inj (hq.symm.trans (show vwCl[0]? = some (RX0, TX0, 16) from rfl))); exact k0
    · cases (Option.some.inj (hq.symm.trans (show vwCl[1]? = some (RX1, TX1, 4) from rfl))); exact k1
    · cases (Option.some.inj (hq.symm.trans (show vwCl[2]? = some (RX2, TX2, 8) from rfl))); exact k2
    · cases (Option.some.inj (hq.symm.trans (show vwCl[3]? = some (RX3, TX3, 4) from rfl))); exact k3
    · cases (Option.some.inj (hq.symm.trans (show vwCl[4]? = some (RX4, TX4, 7) from rfl))); exact k4
    · cases (Option.some.inj (hq.symm.trans (show vwCl[5]? = some (RX5, TX5, 6) from rfl))); exact k5
  · have hk : k < 2 := (List.getElem?_eq_some_iff.mp hq).1
    rcases (show k = 0 ∨ k = 1 by omega) with rfl | rfl
    · cases hq
      exact ⟨fun n z => ⟨fun k h => (by cases h), kI, a2, oI, a3⟩, a1⟩
    · cases hq
      exact ⟨fun n z => ⟨fun k h => (by cases h), kL, b2, oL, b3⟩, b1⟩
set_option maxHeartbeats 4000000 in
theorem whole_start {p : Program} {e : Env} {s : State} {m : MethodId} {below : List Frame} {meth : Method} {c : Code} (l : Launch) (hflags : l.flags = flags0) {b L : Nat} {xs : Nat → Int32} (hL : L ≤ 260) (C0 : lw_At p s m meth c b L xs) : W p l e room_1 s m #[Value.ref b] below meth c s.heap [] 0 0 (lw_Z below #[Value.ref b] s) (entryFrame m ([Value.ref b] : List Value).toArray 10) := by
  obtain ⟨hx, hb, hr, hml, hown, hts, hX, hbl, hlk, hgv⟩ := C0
  have hst : l.stackTraces = false := by
    unfold Launch.stackTraces
    rw [hflags]
    decide
  have hbig : ∀ w ∈ jq_big, w.before #[Value.ref b] s = true := fun w hw => hts w (List.mem_filter.mp hw).1
  obtain ⟨G, hK⟩ := lw_world hbig
  have hl := lv_entry [Value.ref b] (n := 10) (Nat.le_of_ble_eq_true rfl)
  rw [lg_entry_eq]
  have hl2 : jq_lh ((lg_sl [Value.ref b] ++ List.replicate (10 - (lg_sl [Value.ref b]).length) Slot.unset).toArray) 10 [some (.ref b), none, none, none, none, none, none, none, none, none] := by
    refine jq_lh_mono (jq_lh_entry hl) (jq_le_at ?_)
    exact ⟨rfl, trivial⟩
  exact lw_begin (nm := meth.name) (ad := fun _ => 0) (mem := fun _ => .inr (0, [])) hst (by omega) p e s m #[Value.ref b] below meth c (fun q => s.heap.size ≤ q) ⟨⟨hx, hb, hml, hown⟩, hbig, hK, lw_nests hts, fun q h => h, hr, hlk, rfl⟩ ⟨⟨lw_throws hts hgv, lw_zero hts hgv (fun a ha => Nat.not_le.mpr ha)⟩, hX, hbl, Nat.not_le.mpr hbl, rfl, fun q h => h⟩ s.heap [] _ hl2 (fun k q h => by simp [jq_wl] at h) ⟨fun i j p q h => by simp [jq_wl] at h, fun k q h => by simp [jq_wl] at h⟩ va_S.rf
