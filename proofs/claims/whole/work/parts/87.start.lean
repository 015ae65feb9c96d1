/-! THE START of the law: the three objects are made, then the loop; what the law's entry gives -/
set_option maxHeartbeats 4000000 in
theorem lw_begin {l : Launch} {G : jq_G} {nm : String} {b Ln : Nat} {xs : Nat → Int32} {ad : Nat → Nat} {mem : Nat → va_E} (hl : l.stackTraces = false) (hLn : Ln ≤ 1536) : jq_J l G (mlaw nm) room_1 (lw_E b Ln xs) lw_Y 0 [some (.ref b), none, none, none, none, none, none, none] [] 0 ad mem 0 0 := by
  refine jq_new tyX5 uL_8 jx_X5 ji_X5 jw_X5 tyX5_ok (ci := 5) rfl dL_law_0 (Nat.le_of_ble_eq_true rfl) (Nat.le_of_ble_eq_true rfl) (fun q0 => ?_)
  refine jq_dup dL_law_3 rfl ?_
  refine jq_invI (q := 0) (As := []) (rest := [.ref q0]) dL_law_4 kL_58 (c_X5_init (by rfl)) rfl rfl (Nat.le_of_ble_eq_true rfl) ⟨⟨Nat.le_of_ble_eq_true rfl, Nat.le_of_ble_eq_true rfl⟩, Nat.le_of_ble_eq_true rfl, Nat.le_of_ble_eq_true rfl⟩ (fun r n' ad1 mem1 hr => ?_)
  obtain ⟨rfl, rfl, e0, X1, rfl, hA, hL⟩ := hr
  have e1 : ad1 0 = q0 := e0.trans rfl
  rw [← e1]
  refine jq_astore_n dL_law_7 rfl (Nat.le_of_ble_eq_true rfl) rfl rfl ?_
  refine jq_new tyX6 uL_59 jx_X6 ji_X6 jw_X6 tyX6_ok (ci := 6) rfl dL_law_8 (Nat.le_of_ble_eq_true rfl) (Nat.le_of_ble_eq_true rfl) (fun q21 => ?_)
  refine jq_dup dL_law_11 rfl ?_
  have hx : ∀ j, j < 21 → va_up (xs_mem G ad1 X1) 21 (.inr (6, jq_df tyX6 27)) j = xs_mem G (va_up ad1 21 q21) X1 j := by
    intro j hj
    rw [va_up_ne _ _ (show j ≠ 21 by omega)]
    exact (xs_mem_ad (b := 21) (fun t ht => va_up_ne _ _ (by omega)) ((show ∀ k, k < 21 → (List.range (xs_nf k)).all (fun j => Nat.blt (xs_f k j) (21 + 2)) = true by decide) j hj)).symm
  refine jq_invI (q := 21) (As := []) (rest := [.ref q21]) dL_law_12 kL_61 (c_X6_init hx (by rfl)) rfl rfl (Nat.le_of_ble_eq_true rfl) ⟨⟨Nat.le_of_ble_eq_true rfl, Nat.le_of_ble_eq_true rfl⟩, Nat.le_of_ble_eq_true rfl, Nat.le_of_ble_eq_true rfl⟩ (fun r n' ad2 mem2 hr => ?_)
  obtain ⟨rfl, rfl, a2, X2, rfl, hf, hR, hv⟩ := hr
  have g0 : ad2 0 = ad1 0 := (a2 0 (by decide)).trans rfl
  have g21 : ad2 21 = q21 := (a2 21 (by decide)).trans rfl
  rw [← g0, ← g21]
  refine jq_astore_n dL_law_15 rfl (Nat.le_of_ble_eq_true rfl) rfl rfl ?_
  refine jq_iconst (v := 1) dL_law_16 (by decide) ?_
  refine jq_newL (N := 1) dL_law_17 (by decide) (by decide) (by decide) (Nat.le_of_ble_eq_true rfl) (Nat.le_of_ble_eq_true rfl) (fun q39 => ?_)
  refine jq_mem (ad' := va_up ad2 39 q39) (mem' := xs_mem G (va_up ad2 39 q39) (xs_al X2 39 (fun _ => 0))) ?_ ?_
  · intro k hk
    refine ⟨rfl, ?_⟩
    by_cases z : k = 39
    · subst z
      rfl
    · rw [va_up_ne _ _ z, xs_mem_ad (ad := ad2) (ad' := va_up ad2 39 q39) (b := 39) (fun t ht => va_up_ne _ _ (by omega)) ((show ∀ k, k < 39 → (List.range (xs_nf k)).all (fun j => Nat.blt (xs_f k j) (39 + 2)) = true by decide) k (by omega))]
      exact xs_mem_congr rfl rfl rfl (xs_al_ne z).symm
  refine jq_astore_n dL_law_19 rfl (Nat.le_of_ble_eq_true rfl) rfl rfl ?_
  refine jq_iconst (v := nI 0) dL_law_20 (by decide) ?_
  refine jq_istore dL_law_21 (Nat.le_of_ble_eq_true rfl) rfl rfl ?_
  have ho : xs_fr [39] [] X2 (xs_al X2 39 (fun _ => 0)) := xs_fr_al xs_fr_rf (by decide)
  have hW : tb_W 3 3 := ⟨by decide, by decide, by decide, by decide⟩
  have hC : rf_LC X2 := ⟨0, by omega, hv.trans (by decide), fun w h hW e => absurd e (by have := hW.1; omega)⟩
  refine lw_loop (G := G) (nm := nm) (ad := va_up ad2 39 q39) (b := b) (xs := xs) hl hLn 512 0 _ 40 19758 (by omega) (by decide) ⟨3, 3, _, _, hW, dv_afr (dv_afr hA hf) ho, dv_lcfr (dv_lcfr hL hf) ho, rf_afr hR ho, rf_lcfr hC ho⟩ (by omega) (by omega)
theorem lw_strs : ∀ z ∈ jx_str, Cond.stringRef "SlitherFence" z.1 z.2 ∈ lw_tbl :=
  List.forall_mem_cons.mpr ⟨List.mem_of_getElem? (i := 563) (by decide +kernel), List.forall_mem_cons.mpr ⟨List.mem_of_getElem? (i := 615) (by decide +kernel), List.forall_mem_cons.mpr ⟨List.mem_of_getElem? (i := 622) (by decide +kernel), List.forall_mem_cons.mpr ⟨List.mem_of_getElem? (i := 634) (by decide +kernel), List.forall_mem_cons.mpr ⟨List.mem_of_getElem? (i := 635) (by decide +kernel), List.forall_mem_cons.mpr ⟨List.mem_of_getElem? (i := 646) (by decide +kernel), List.forall_mem_cons.mpr ⟨List.mem_of_getElem? (i := 687) (by decide +kernel), List.forall_mem_cons.mpr ⟨List.mem_of_getElem? (i := 716) (by decide +kernel), fun _ h => absurd h List.not_mem_nil⟩⟩⟩⟩⟩⟩⟩⟩
theorem lw_exs : ∀ z ∈ jx_str, Cond.exactly (Term.string "SlitherFence" z.1) "java/lang/String" ∈ flatC (Jvm.Cond.and given_1 narrow_1) :=
  List.forall_mem_cons.mpr ⟨by decide +kernel, List.forall_mem_cons.mpr ⟨by decide +kernel, List.forall_mem_cons.mpr ⟨by decide +kernel, List.forall_mem_cons.mpr ⟨by decide +kernel, List.forall_mem_cons.mpr ⟨by decide +kernel, List.forall_mem_cons.mpr ⟨by decide +kernel, List.forall_mem_cons.mpr ⟨by decide +kernel, List.forall_mem_cons.mpr ⟨by decide +kernel, fun _ h => absurd h List.not_mem_nil⟩⟩⟩⟩⟩⟩⟩⟩
theorem lw_ncs : ∀ z ∈ jx_nc, Cond.not (.castable z.1 z.2) ∈ flatC (Jvm.Cond.and given_1 narrow_1) :=
  List.forall_mem_cons.mpr ⟨by decide +kernel, List.forall_mem_cons.mpr ⟨by decide +kernel, fun _ h => absurd h List.not_mem_nil⟩⟩
theorem lw_nests {s : State} {args : Array Value} (hts : ∀ w ∈ lw_tbl, w.before args s = true) : jq_N s := by
  intro w hw
  obtain ⟨h1, h2⟩ := List.mem_filter.mp hw
  have h3 := hts w h1
  cases w <;> first | (simp [jq_isN] at h2; done) | exact va_Nw.of rfl h3
theorem lw_throws {s : State} {args : Array Value} (hts : ∀ w ∈ lw_tbl, w.before args s = true) (hgv : (Jvm.Cond.and given_1 narrow_1).before args s = true) : jx_N s := by
  have hs := flat_of_before _ hgv
  refine ⟨fun w hw => ?_, fun z hz => va_Nc.of (hs _ (lw_ncs z hz)), fun z hz => ?_⟩
  · obtain ⟨i, -, hi⟩ := List.mem_filterMap.mp hw
    exact va_Nw.of (jx_bad_tabs hw) (hts w (List.mem_of_getElem? hi))
  · obtain ⟨a, c0, ce, k0, ha, -⟩ := Cond.exactly_spec (hs _ (lw_exs z hz))
    exact ⟨a, vk_R.of (hts _ (lw_strs z hz)) ha⟩
theorem lw_zero {s : State} {args : Array Value} {A : Nat → Prop} (hts : ∀ w ∈ lw_tbl, w.before args s = true) (hgv : (Jvm.Cond.and given_1 narrow_1).before args s = true) (hA : ∀ a : Nat, a < s.heap.size → ¬ A a) : jx_H A s s.heap := by
  have hs := flat_of_before _ hgv
  have hi : (Cond.initialized "java/lang/Throwable").before args s = true := hts _ (List.mem_of_getElem? (i := 62) (by decide +kernel))
  exact ⟨vx_Zqof (hts _ (List.mem_of_getElem? (i := 549) (by decide +kernel))) hi (hs _ (by decide +kernel)) hA, vx_Zqof (hts _ (List.mem_of_getElem? (i := 551) (by decide +kernel))) hi (hs _ (by decide +kernel)) hA⟩
theorem lw_world {s : State} {args : Array Value} (hbig : ∀ w ∈ jq_big, w.before args s = true) : ∃ G : jq_G, va_K G.1 vwCl (jq_tys G) s := by
  obtain ⟨d0, i0, k0⟩ := u_known hbig jw_X0 (hbig _ jx_X0)
  obtain ⟨d1, i1, k1⟩ := u_known hbig jw_X1 (hbig _ jx_X1)
  obtain ⟨d2, i2, k2⟩ := u_known hbig jw_X2 (hbig _ jx_X2)
  obtain ⟨d3, i3, k3⟩ := u_known hbig jw_X3 (hbig _ jx_X3)
  obtain ⟨d4, i4, k4⟩ := u_known hbig jw_X4 (hbig _ jx_X4)
  obtain ⟨d5, i5, k5⟩ := u_known hbig jw_X5 (hbig _ jx_X5)
  obtain ⟨d6, i6, k6⟩ := u_known hbig jw_X6 (hbig _ jx_X6)
  obtain ⟨cI, kI, oI, a1, a2, a3⟩ := Cond.arrayClass_spec (hbig _ ja_int)
  obtain ⟨cL, kL, oL, b1, b2, b3⟩ := Cond.arrayClass_spec (hbig _ ja_long)
  obtain ⟨cZ, kZ, oZ, z1, z2, z3⟩ := Cond.arrayClass_spec (hbig _ ja_boolean)
  refine ⟨((fun c => ([d0, d1, d2, d3, d4, d5, d6] : List ClassId).getD c d0, fun c => ([i0, i1, i2, i3, i4, i5, i6] : List (Nat → Nat)).getD c i0), cI, cL, cZ), fun c q hq => ?_, fun k q hq => ?_⟩
  · have hc : c < 7 := (List.getElem?_eq_some_iff.mp hq).1
    rcases (show c = 0 ∨ c = 1 ∨ c = 2 ∨ c = 3 ∨ c = 4 ∨ c = 5 ∨ c = 6 by omega) with rfl | rfl | rfl | rfl | rfl | rfl | rfl
    · cases (Option.some.inj (hq.symm.trans (show vwCl[0]? = some (RX0, TX0, 16) from rfl))); exact k0
    · cases (Option.some.inj (hq.symm.trans (show vwCl[1]? = some (RX1, TX1, 4) from rfl))); exact k1
    · cases (Option.some.inj (hq.symm.trans (show vwCl[2]? = some (RX2, TX2, 8) from rfl))); exact k2
    · cases (Option.some.inj (hq.symm.trans (show vwCl[3]? = some (RX3, TX3, 4) from rfl))); exact k3
    · cases (Option.some.inj (hq.symm.trans (show vwCl[4]? = some (RX4, TX4, 7) from rfl))); exact k4
    · cases (Option.some.inj (hq.symm.trans (show vwCl[5]? = some (RX5, TX5, 6) from rfl))); exact k5
    · cases (Option.some.inj (hq.symm.trans (show vwCl[6]? = some (RX6, TX6, 27) from rfl))); exact k6
  · have hk : k < 3 := (List.getElem?_eq_some_iff.mp hq).1
    rcases (show k = 0 ∨ k = 1 ∨ k = 2 by omega) with rfl | rfl | rfl
    · cases hq
      exact ⟨fun n z => ⟨fun k h => (by cases h), kI, a2, oI, a3⟩, a1⟩
    · cases hq
      exact ⟨fun n z => ⟨fun k h => (by cases h), kL, b2, oL, b3⟩, b1⟩
    · cases hq
      exact ⟨fun n z => ⟨fun k h => (by cases h), kZ, z2, oZ, z3⟩, z1⟩
set_option maxHeartbeats 4000000 in
theorem whole_start {p : Program} {e : Env} {s : State} {m : MethodId} {below : List Frame} {meth : Method} {c : Code} (l : Launch) (hflags : l.flags = flags0) {b L : Nat} {xs : Nat → Int32} (hL : L ≤ 1536) (C0 : lw_At p s m meth c b L xs) : W p l e room_1 s m #[Value.ref b] below meth c s.heap [] 0 0 (lw_Z below #[Value.ref b] s) (entryFrame m ([Value.ref b] : List Value).toArray 8) := by
  obtain ⟨hx, hb, hr, hml, hown, hts, hX, hbl, hlk, hgv⟩ := C0
  have hst : l.stackTraces = false := by
    unfold Launch.stackTraces
    rw [hflags]
    decide
  have hbig : ∀ w ∈ jq_big, w.before #[Value.ref b] s = true := fun w hw => hts w (List.mem_filter.mp hw).1
  obtain ⟨G, hK⟩ := lw_world hbig
  have hl := lv_entry [Value.ref b] (n := 8) (Nat.le_of_ble_eq_true rfl)
  rw [lg_entry_eq]
  have hl2 : jq_lh ((lg_sl [Value.ref b] ++ List.replicate (8 - (lg_sl [Value.ref b]).length) Slot.unset).toArray) 8 [some (.ref b), none, none, none, none, none, none, none] := by
    refine jq_lh_mono (jq_lh_entry hl) (jq_le_at ?_)
    exact ⟨rfl, trivial⟩
  exact lw_begin (nm := meth.name) (ad := fun _ => 0) (mem := fun _ => .inr (0, [])) hst hL p e s m #[Value.ref b] below meth c (fun q => s.heap.size ≤ q) ⟨⟨hx, hb, hml, hown⟩, hbig, hK, lw_nests hts, fun q h => h, hr, hlk, rfl⟩ ⟨⟨lw_throws hts hgv, lw_zero hts hgv (fun a ha => Nat.not_le.mpr ha)⟩, hX, hbl, Nat.not_le.mpr hbl, rfl, fun q h => h⟩ s.heap [] _ hl2 (fun k q h => by simp [jq_wl] at h) ⟨fun i j p q h => by simp [jq_wl] at h, fun k q h => by simp [jq_wl] at h⟩ va_S.rf
