/-! a choice out of the script, and a number out of a choice -/
def lx_E (b Ln : Nat) (xs : Nat → Int32) : jq_E := fun s _ A => va_X b Ln xs s s.heap ∧ b < s.heap.size ∧ ¬ A b
def lx_Pre (G : jq_G) (b Ln : Nat) (xs : Nat → Int32) (sz : Nat) (U : State) : Prop := jq_Pre G 0 (fun _ => 0) (fun _ => .inr (0, [])) sz U ∧ va_X b Ln xs U U.heap ∧ b < sz
abbrev lx_A (sz : Nat) : Nat → Prop := va_A (jq_wl 0 (fun _ => 0) (fun _ => .inr (0, []))) sz
def lx_Ct (l : Launch) (G : jq_G) (M : jq_M) (d : Nat) (av : List Value) (b Ln : Nat) (xs : Nat → Int32) (P : Option Value → Nat → (Nat → Nat) → (Nat → va_E) → Prop) : Prop :=
  ∀ sz, Met l M.1 (jq_ws M) (jq_R d 0 0) (va_Pc av (lx_Pre G b Ln xs sz)) (jq_Q G P (lx_A sz)) 0 0 (lx_A sz)
theorem lx_free (sz q : Nat) : lx_A sz q ↔ sz ≤ q := by
  constructor
  · rintro (⟨k, e, h⟩ | h)
    · rw [jq_wl_out (Nat.zero_le _)] at h; cases h
    · exact h
  · exact Or.inr
theorem lx_Ct_of {l : Launch} {G : jq_G} {M : jq_M} {d : Nat} {av : List Value} {b Ln : Nat} {xs : Nat → Int32} {P : Option Value → Nat → (Nat → Nat) → (Nat → va_E) → Prop} {L : jq_L}
    (hy : plainName M.1.cls = true) (hlen : (lg_sl av).length ≤ M.2.2.1) (hL : jq_ent av ++ List.replicate (M.2.2.1 - (jq_ent av).length) none = L)
    (k : jq_J l G M (jq_R d 0 0) (lx_E b Ln xs) (jq_Ye G P 0 0) 0 L [] 0 (fun _ => 0) (fun _ => .inr (0, [])) 0 0) : lx_Ct l G M d av b Ln xs P := by
  intro sz
  refine Met.ofW (cc := M.2.1) (maxL := M.2.2.1) (ret := M.2.2.2) hy rfl ?_
  intro p e s m args below meth c s₁ B hml hv
  obtain ⟨rfl, ⟨hsz, hP, hK, hN, hD0⟩, hX, hbl⟩ := hv
  have hts := atoms_spec (ws := jq_ws M) B.pre
  subst hsz
  have hD := hD0.self (sz := s.heap.size)
  have hl := lv_entry av (n := M.2.2.1) hlen
  rw [lg_entry_eq]
  have hl2 : jq_lh ((lg_sl av ++ List.replicate (M.2.2.1 - (lg_sl av).length) Slot.unset).toArray) M.2.2.1 L := by
    refine jq_lh_mono (jq_lh_entry hl) (fun i v h => ?_)
    rw [← hL] at h
    rcases Nat.lt_or_ge i (jq_ent av).length with z | z
    · rw [List.getElem?_append_left z] at h; exact h
    · rw [List.getElem?_append_right z] at h
      have h3 := List.mem_of_getElem? h
      rw [List.mem_replicate] at h3
      exact absurd h3.2 (fun q => by cases q)
  exact k p e s m _ below meth c (lx_A s.heap.size) ⟨⟨B.exec, B.bytes, hml, findClass_of_methodNamed B.named⟩, fun w hw => hts w (List.mem_cons_of_mem _ hw), hK, hN, fun q h => Or.inr h, B.returns, B.notSynchronized, (name_of_methodNamed B.named B.method).1⟩ ⟨hX, hbl, fun z => absurd ((lx_free _ _).mp z) (Nat.not_le.mpr hbl)⟩ s.heap [] _ hl2 hP hD va_S.rf
section LX
variable {l : Launch} {G : jq_G} {M M' : jq_M} {R : Room} {Ex : jq_E} {Y : jq_Y} {pc idx na d' : Nat} {L : jq_L} {st As rest : List Value} {n : Nat} {ad : Nat → Nat} {mem : Nat → va_E} {cells slots b Ln : Nat} {xs : Nat → Int32} {P' : Option Value → Nat → (Nat → Nat) → (Nat → va_E) → Prop}
theorem lx_sload {i : Int32} (hd : decode M.2.1 pc = .ok (.iaload, 1)) (hin : vp_in i Ln) (k : jq_J l G M R (lx_E b Ln xs) Y (pc + 1) L (.int (xs i.toNatClampNeg) :: st) n ad mem cells slots) : jq_J l G M R (lx_E b Ln xs) Y pc L (.int i :: .ref b :: st) n ad mem cells slots :=
  fun p e s m args below meth c A hC hE H locs ls hl hP hD hS => va_sld hC.1.1 hC.1.2.1 hE.1 hE.2.1 hE.2.2 hS hin hd (k p e s m args below meth c A hC hE H locs ls hl hP hD hS)
theorem lx_slen (hd : decode M.2.1 pc = .ok (.arraylength, 1)) (k : jq_J l G M R (lx_E b Ln xs) Y (pc + 1) L (.int (nI Ln) :: st) n ad mem cells slots) : jq_J l G M R (lx_E b Ln xs) Y pc L (.ref b :: st) n ad mem cells slots :=
  fun p e s m args below meth c A hC hE H locs ls hl hP hD hS => va_slen hC.1.1 hC.1.2.1 hE.1 hE.2.1 hE.2.2 hS hd (k p e s m args below meth c A hC hE H locs ls hl hP hD hS)
/-- the law calls what looks at the script alone: the world stays -/
theorem lx_invS (hEx : ∀ s args A, Ex s args A → va_X b Ln xs s s.heap ∧ b < s.heap.size ∧ ¬ A b) (hd : decode M.2.1 pc = .ok (.invokestatic idx, 3)) (F : jq_LS M.1.cls idx M' na) (hF2 : Cond.methodLink M.1.cls idx M'.1 ∈ jq_big) (hCt : lx_Ct l G M' d' As b Ln xs P') (hn : As.length = na) (hst : st = As.reverse ++ rest) (hw : (rest.map fun v => v.category).sum ≤ 8) (hf : jq_fit R M' d' 0 0 cells slots)
    (k : ∀ r, (∃ n' ad' mem', P' r n' ad' mem') → jq_J l G M R Ex Y (pc + 3) L (r.toList ++ rest) n ad mem cells slots) : jq_J l G M R Ex Y pc L st n ad mem cells slots := by
  intro p e s m args below meth c A hC hE H locs ls hl hP hD hS
  obtain ⟨⟨f1, f2, f3, f4⟩, f5⟩ := F
  obtain ⟨⟨r1, r2⟩, r3⟩ := hf
  obtain ⟨x1, x2, x3⟩ := hEx _ _ _ hE
  have hb : H[b]? = s.heap[b]? := hS.2.1 b x2 x3
  have hbH : b < H.size := Nat.lt_of_lt_of_le x2 hS.1
  have hpre : PreS s H (va_Pc As (lx_Pre G b Ln xs H.size)) As := by
    refine ⟨fun a U g mk q => ?_, fun U hU hW => ⟨rfl, ⟨by rw [hU], fun k q h => by simp [jq_wl] at h, va_K.moved hW.alike hC.2.2.1, hC.2.2.2.1.warm hW, ⟨fun i j p q h => by simp [jq_wl] at h, fun k q h => by simp [jq_wl] at h⟩⟩, ?_, hbH⟩⟩
    · obtain ⟨h0, ⟨h1, hP, hK, hN, hD⟩, hX, hbl⟩ := q
      exact ⟨h0, ⟨h1, hP, va_K.moved (u := U) (U := U.calling g mk a) (Vm.Alike.refl U.vm) hK, jq_N.same (u := U) (U := U.calling g mk a) rfl hN, hD⟩, va_X.moved (u := U) (U := U.calling g mk a) (Vm.Alike.refl U.vm) hX, hbl⟩
    · rw [hU]
      exact va_X.moved hW.alike (va_X.kept x1 hb)
  have hfin : va_Run p l e R s m args below meth c H locs cells slots 0 0 (F0 m pc ls st) rest (jq_Q G P' (lx_A H.size) As.toArray) (lx_A H.size) := va_runS (Ts := jq_big) (own := M.1.cls) ⟨hC.1.1, hC.1.2.1, hC.1.2.2.1, hC.1.2.2.2, hC.2.1⟩ (hCt H.size) ⟨callB_of na hC.2.1 (jq_wsG f2) rfl rfl rfl (hC.2.1 _ f1) (hC.2.1 _ hF2) f3 ⟨r1, r2⟩, hC.2.1 _ f5⟩ hpre rfl hn hl.1 hst (lv_room hw) hd r3
  have hF : ∀ q, lx_A H.size q → A q := fun q hq => hC.2.2.2.2.1 q (Nat.le_trans hS.1 ((lx_free _ _).mp hq))
  intro T hT X
  obtain ⟨v, st₀, t, T', Lx, h0, X', hL, e1, e2, ⟨⟨r, n', ad', mem', hv, hp, -, -⟩, hz, hk⟩, stp⟩ := hfin T hT X
  cases hv
  rw [h0] at hz hk
  have hkeep : ∀ q, q < H.size → T'.heap[q]? = H[q]? := fun q hq => by rw [e1]; exact hk q hq (fun z => absurd ((lx_free _ _).mp z) (Nat.not_le.mpr hq))
  have hz2 : H.size ≤ T'.heap.size := by rw [e1]; exact hz
  obtain ⟨t2, a1, b1⟩ := k v ⟨n', ad', mem', hp⟩ p e s m args below meth c A hC hE T'.heap (locs ++ Lx) ls hl (hP.kept (fun k q h => hkeep q.1 (hP k q h).lt)) hD
    ⟨Nat.le_trans hS.1 hz2, fun q h1 h2 => by rw [hkeep q (Nat.lt_of_lt_of_le h1 hS.1)]; exact hS.2.1 q h1 h2, fun q hq => by
      rcases List.mem_append.mp hq with h | h
      · exact hS.2.2 q h
      · exact hF _ (hL q h)⟩ T' rfl X'
  exact ⟨t2, stp t2 a1, b1⟩
end LX
set_option maxHeartbeats 4000000 in
theorem c_L_cell {l : Launch} {G : jq_G} {b Ln : Nat} {xs : Nat → Int32} (hLn : Ln ≤ 1000) {k : Nat} (hk : k < 1000) : lx_Ct l G mL_cell 1 [.ref b, .int (nI k)] b Ln xs (fun r _ _ _ => ∃ v, r = some (.int v)) := by
  refine lx_Ct_of (L := [some (.ref b), some (.int (nI k))]) rfl (Nat.le_of_ble_eq_true rfl) rfl ?_
  refine jq_iload_n dL_cell_0 rfl rfl ?_
  refine jq_aload_n dL_cell_1 rfl rfl ?_
  refine lx_slen dL_cell_2 ?_
  refine jq_geN (tgt := 12) dL_cell_3 (by decide) ⟨by omega, by omega⟩ (fun c3 => ?_) (fun c3 => ?_)
  · refine jq_ldc2 dL_cell_12 vL_7 ?_
    refine jq_iload_n dL_cell_15 rfl rfl ?_
    refine jq_iconst (v := (nI 4)) dL_cell_16 (by decide) ?_
    refine jq_iaddN dL_cell_17 ?_
    refine jq_i2l dL_cell_18 rfl ?_
    refine jq_lmul dL_cell_19 ?_
    refine jq_bipush (v := (nI 8)) dL_cell_20 (by decide) ?_
    refine jq_lushr dL_cell_22 rfl ?_
    refine jq_l2i dL_cell_23 rfl ?_
    exact jq_ireturn dL_cell_24 rfl rfl (Nat.le_refl _) (Nat.le_refl _) ⟨_, rfl⟩
  · refine jq_aload_n dL_cell_6 rfl rfl ?_
    refine jq_iload_n dL_cell_7 rfl rfl ?_
    refine lx_sload dL_cell_8 (vp_inN c3 (by omega)) ?_
    refine jq_goto (tgt := 24) dL_cell_9 (by decide) ?_
    exact jq_ireturn dL_cell_24 rfl rfl (Nat.le_refl _) (Nat.le_refl _) ⟨_, rfl⟩
def lr_sm (v : Int32) (m : Nat) : Nat := v.toUInt32.toNat / 4 % m
theorem lr_ushr2 (v : Int32) : (v.toUInt32 >>> ((nI 2).toUInt32 &&& Int32.toUInt32 31)).toInt32 = nI (v.toUInt32.toNat / 4) := by
  apply Int32.toBitVec_inj.mp
  show (v.toUInt32 >>> ((nI 2).toUInt32 &&& Int32.toUInt32 31)).toBitVec = BitVec.ofNat 32 (v.toUInt32.toNat / 4)
  apply BitVec.eq_of_toNat_eq
  rw [show ((nI 2).toUInt32 &&& Int32.toUInt32 31) = 2 by decide, BitVec.toNat_ofNat]
  show (v.toUInt32 >>> 2).toNat = _
  rw [UInt32.toNat_shiftRight, show (2 : UInt32).toNat % 32 = 2 by decide, Nat.shiftRight_eq_div_pow, Nat.mod_eq_of_lt (Nat.lt_of_le_of_lt (Nat.div_le_self _ _) v.toUInt32.toNat_lt)]
theorem lr_sm_lt (v : Int32) {m : Nat} (hm : 0 < m) : lr_sm v m < m := Nat.mod_lt _ hm
set_option maxHeartbeats 4000000 in
theorem c_L_some {l : Launch} {G : jq_G} {n : Nat} {ad : Nat → Nat} {X : xs_T} (v : Int32) {m : Nat} (hm : 0 < m) (hm2 : m < 2 ^ 31) : xs_Ct l G mL_some 1 [.int (v), .int (nI (m))] n ad X (xs_pd (some (.int (nI (lr_sm v m)))) X) := by
  have hb : v.toUInt32.toNat / 4 < 2 ^ 31 := by have := v.toUInt32.toNat_lt; omega
  refine xs_Ct_of (L := [some (.int (v)), some (.int (nI (m)))]) rfl (Nat.le_of_ble_eq_true rfl) rfl ?_
  refine jq_iload_n dL_some_0 rfl rfl ?_
  refine jq_iconst (v := (nI 2)) dL_some_1 (by decide) ?_
  refine jq_iushr dL_some_2 (lr_ushr2 v) ?_
  refine jq_iload_n dL_some_3 rfl rfl ?_
  refine jq_iremN dL_some_4 (⟨hb, hm, hm2⟩) ?_
  exact xq_ireturn dL_some_5 rfl rfl (⟨rfl, rfl⟩)
