/-! THE LIGHT JUDGEMENT: cells, contracts, calls -/
/-- a field by its link: a method of the class own, its pool's entry idx: field k of the objects of kind ci -/
def jq_FL (own : String) (idx ci k : Nat) : Prop := ∃ (C : String) (T : u_T) (N : Nat), vwCl[ci]? = some (C, T, N) ∧ k < N ∧ (∀ w ∈ u_ws C T N, w ∈ jq_big) ∧
  (Cond.fieldLink own idx (T k).1 (T k).2.1 (T k).2.2.1 ∈ jq_big ∨ ∃ host, Cond.fieldLinkNest own idx (T k).1 (T k).2.1 (T k).2.2.1 host ∈ jq_nst)
def jq_FP (own : String) (idx ci k : Nat) (fin : Bool) (ty : FieldType) : Prop := ∃ (C : String) (T : u_T) (N : Nat) (ty0 : Nat → FieldType), vwCl[ci]? = some (C, T, N) ∧ k < N ∧ (∀ w ∈ u_ws C T N, w ∈ jq_big) ∧
  (∀ k, k < N → parseFieldDescriptor (T k).2.2.1 = some (ty0 k)) ∧ (∀ a, a < N → ∀ b, b < N → a ≠ b → (T a).2.1 ≠ (T b).2.1) ∧ ((T k).2.2.2 = fin ∧ parseFieldDescriptor (T k).2.2.1 = some ty ∧ ((T k).1 = own ∨ fin = false)) ∧
  ((Cond.fieldLink own idx (T k).1 (T k).2.1 (T k).2.2.1 ∈ jq_big) ∨ (fin = false ∧ ∃ host, Cond.fieldLinkNest own idx (T k).1 (T k).2.1 (T k).2.2.1 host ∈ jq_nst))
section JH
variable {l : Launch} {G : jq_G} {M : jq_M} {R : Room} {Ex : jq_E} {Y : jq_Y} {pc : Nat} {L : jq_L} {st : List Value} {n : Nat} {ad : Nat → Nat} {mem : Nat → va_E} {cells slots : Nat}
theorem jq_iaload {q z : Nat} {f : Nat → Int32} {i : Int32} (hd : decode M.2.1 pc = .ok (.iaload, 1)) (hq : q < n) (hm : mem q = .inl (G.2.1, z, .inl f)) (hin : vp_in i z) (k : jq_J l G M R Ex Y (pc + 1) L (.int (f i.toNatClampNeg) :: st) n ad mem cells slots) : jq_J l G M R Ex Y pc L (.int i :: .ref (ad q) :: st) n ad mem cells slots :=
  fun p e s m args below meth c A hC hE H locs ls hl hP hD hS => va_iald hC.1.1 hC.1.2.1 hC.2.2.1 hP q 0 (by rw [jq_wl_get hq, hm]) rfl hin hd (k p e s m args below meth c A hC hE H locs ls hl hP hD hS)
theorem jq_laload {q z : Nat} {f : Nat → Int64} {i : Int32} (hd : decode M.2.1 pc = .ok (.laload, 1)) (hq : q < n) (hm : mem q = .inl (G.2.2.1, z, .inr (.inl f))) (hin : vp_in i z) (k : jq_J l G M R Ex Y (pc + 1) L (.long (f i.toNatClampNeg) :: st) n ad mem cells slots) : jq_J l G M R Ex Y pc L (.int i :: .ref (ad q) :: st) n ad mem cells slots :=
  fun p e s m args below meth c A hC hE H locs ls hl hP hD hS => va_lald hC.1.1 hC.1.2.1 hC.2.2.1 hP q 1 (by rw [jq_wl_get hq, hm]) rfl hin hd (k p e s m args below meth c A hC hE H locs ls hl hP hD hS)
theorem jq_iastore {q z : Nat} {f : Nat → Int32} {i x : Int32} (hd : decode M.2.1 pc = .ok (.iastore, 1)) (hq : q < n) (hm : mem q = .inl (G.2.1, z, .inl f)) (hin : vp_in i z) (k : jq_J l G M R Ex Y (pc + 1) L st n ad (va_up mem q (.inl (G.2.1, z, .inl (upd f i.toNatClampNeg x)))) cells slots) : jq_J l G M R Ex Y pc L (.int x :: .int i :: .ref (ad q) :: st) n ad mem cells slots :=
  fun p e s m args below meth c A hC hE H locs ls hl hP hD hS => va_iast hC.1.1 hC.1.2.1 hC.2.2.1 hP hD hS q 0 (by rw [jq_wl_get hq, hm]) rfl hin hd (fun H1 locs1 hP1 hD1 hS1 => k p e s m args below meth c A hC hE H1 locs1 ls hl (by rw [jq_wl_set hq] at hP1; exact hP1) (by rw [jq_wl_set hq] at hD1; exact hD1) hS1)
theorem jq_lastore {q z : Nat} {f : Nat → Int64} {i : Int32} {x : Int64} (hd : decode M.2.1 pc = .ok (.lastore, 1)) (hq : q < n) (hm : mem q = .inl (G.2.2.1, z, .inr (.inl f))) (hin : vp_in i z) (k : jq_J l G M R Ex Y (pc + 1) L st n ad (va_up mem q (.inl (G.2.2.1, z, .inr (.inl (vp_updL f i.toNatClampNeg x))))) cells slots) : jq_J l G M R Ex Y pc L (.long x :: .int i :: .ref (ad q) :: st) n ad mem cells slots :=
  fun p e s m args below meth c A hC hE H locs ls hl hP hD hS => va_last hC.1.1 hC.1.2.1 hC.2.2.1 hP hD hS q 1 (by rw [jq_wl_get hq, hm]) rfl hin hd (fun H1 locs1 hP1 hD1 hS1 => k p e s m args below meth c A hC hE H1 locs1 ls hl (by rw [jq_wl_set hq] at hP1; exact hP1) (by rw [jq_wl_set hq] at hD1; exact hD1) hS1)
theorem jq_alenI {q z : Nat} {f : Nat → Int32} (hd : decode M.2.1 pc = .ok (.arraylength, 1)) (hq : q < n) (hm : mem q = .inl (G.2.1, z, .inl f)) (k : jq_J l G M R Ex Y (pc + 1) L (.int (nI z) :: st) n ad mem cells slots) : jq_J l G M R Ex Y pc L (.ref (ad q) :: st) n ad mem cells slots :=
  fun p e s m args below meth c A hC hE H locs ls hl hP hD hS => va_alen hC.1.1 hC.1.2.1 hC.2.2.1 hP q 0 (x := (z, .inl f)) (by rw [jq_wl_get hq, hm]) (ty := .int) rfl rfl hd (k p e s m args below meth c A hC hE H locs ls hl hP hD hS)
theorem jq_alenL {q z : Nat} {f : Nat → Int64} (hd : decode M.2.1 pc = .ok (.arraylength, 1)) (hq : q < n) (hm : mem q = .inl (G.2.2.1, z, .inr (.inl f))) (k : jq_J l G M R Ex Y (pc + 1) L (.int (nI z) :: st) n ad mem cells slots) : jq_J l G M R Ex Y pc L (.ref (ad q) :: st) n ad mem cells slots :=
  fun p e s m args below meth c A hC hE H locs ls hl hP hD hS => va_alen hC.1.1 hC.1.2.1 hC.2.2.1 hP q 1 (x := (z, .inr (.inl f))) (by rw [jq_wl_get hq, hm]) (ty := .long) rfl rfl hd (k p e s m args below meth c A hC hE H locs ls hl hP hD hS)
theorem jq_getfield {idx ci k q : Nat} {fs : List Value} {v : Value} (F : jq_FL M.1.cls idx ci k) (hd : decode M.2.1 pc = .ok (.getfield idx, 3)) (hq : q < n) (hm : mem q = .inr (ci, fs)) (hv : fs[k]? = some v) (k : jq_J l G M R Ex Y (pc + 3) L (v :: st) n ad mem cells slots) : jq_J l G M R Ex Y pc L (.ref (ad q) :: st) n ad mem cells slots := by
  intro p e s m args below meth c A hC hE H locs ls hl hP hD hS
  obtain ⟨C, T, N, hc, hk, hw, h | ⟨host, h⟩⟩ := F
  · exact va_get hC.1.1 hC.1.2.1 (Ts := jq_big) hC.2.1 hw hC.1.2.2.2 hC.2.2.1 hP q (by rw [jq_wl_get hq, hm]) hc _ hk (hC.2.1 _ h) (fun x hx => hx) hv hd (k p e s m args below meth c A hC hE H locs ls hl hP hD hS)
  · exact va_getN hC.1.1 hC.1.2.1 (Ts := jq_big) hC.2.1 hw hC.1.2.2.2 hC.2.2.1 hP q (by rw [jq_wl_get hq, hm]) hc _ hk (va_Nw.use rfl (hC.2.2.2.1 _ h)) (fun x hx => hx) hv hd (k p e s m args below meth c A hC hE H locs ls hl hP hD hS)
theorem jq_putfield {idx ci k q : Nat} {fs : List Value} {v : Value} {ty : FieldType} (F : jq_FP M.1.cls idx ci k false ty) (hd : decode M.2.1 pc = .ok (.putfield idx, 3)) (hq : q < n) (hm : mem q = .inr (ci, fs)) (hn : narrow ty v = v) (hf : fits ty v = true) (hk0 : k < fs.length) (kk : jq_J l G M R Ex Y (pc + 3) L st n ad (va_up mem q (.inr (ci, fs.set k v))) cells slots) : jq_J l G M R Ex Y pc L (v :: .ref (ad q) :: st) n ad mem cells slots := by
  intro p e s m args below meth c A hC hE H locs ls hl hP hD hS
  obtain ⟨C, T, N, ty0, hc, hk, hw, h1, h2, ⟨h3, h4, -⟩, h | ⟨-, host, h⟩⟩ := F
  · exact va_put hC.1.1 hC.1.2.1 (Ts := jq_big) hC.2.1 hw ty0 h1 h2 hC.1.2.2.2 hC.2.2.1 hP hD hS q (by rw [jq_wl_get hq, hm]) hc _ hk (hC.2.1 _ h) (fun x hx => hx) h3 h4 hn hf hk0 hd (fun H1 locs1 hP1 hD1 hS1 => kk p e s m args below meth c A hC hE H1 locs1 ls hl (by rw [jq_wl_set hq] at hP1; exact hP1) (by rw [jq_wl_set hq] at hD1; exact hD1) hS1)
  · exact va_putN hC.1.1 hC.1.2.1 (Ts := jq_big) hC.2.1 hw ty0 h1 h2 hC.1.2.2.2 hC.2.2.1 hP hD hS q (by rw [jq_wl_get hq, hm]) hc _ hk (va_Nw.use rfl (hC.2.2.2.1 _ h)) (fun x hx => hx) h3 h4 hn hf hk0 hd (fun H1 locs1 hP1 hD1 hS1 => kk p e s m args below meth c A hC hE H1 locs1 ls hl (by rw [jq_wl_set hq] at hP1; exact hP1) (by rw [jq_wl_set hq] at hD1; exact hD1) hS1)
theorem jq_putfinal {idx ci k q : Nat} {fs : List Value} {v : Value} {ty : FieldType} (F : jq_FP M.1.cls idx ci k true ty) (hi : M.1.name = "<init>") (hd : decode M.2.1 pc = .ok (.putfield idx, 3)) (hq : q < n) (hm : mem q = .inr (ci, fs)) (hn : narrow ty v = v) (hf : fits ty v = true) (hk0 : k < fs.length) (kk : jq_J l G M R Ex Y (pc + 3) L st n ad (va_up mem q (.inr (ci, fs.set k v))) cells slots) : jq_J l G M R Ex Y pc L (v :: .ref (ad q) :: st) n ad mem cells slots := by
  intro p e s m args below meth c A hC hE H locs ls hl hP hD hS
  obtain ⟨C, T, N, ty0, hc, hk, hw, h1, h2, ⟨h3, h4, h5 | h5⟩, h | ⟨h6, -⟩⟩ := F
  · exact va_putF hC.1.1 hC.1.2.1 (Ts := jq_big) hC.2.1 hw ty0 h1 h2 hC.1.2.2.2 hC.2.2.1 hP hD hS q (by rw [jq_wl_get hq, hm]) hc _ hk (hC.2.1 _ h) (fun x hx => hx) h3 (hC.2.2.2.2.2.2.2.trans hi) h5 h4 hn hf hk0 hd (fun H1 locs1 hP1 hD1 hS1 => kk p e s m args below meth c A hC hE H1 locs1 ls hl (by rw [jq_wl_set hq] at hP1; exact hP1) (by rw [jq_wl_set hq] at hD1; exact hD1) hS1)
  · cases h6
  · cases h5
  · cases h5
end JH
/-! contracts -/
def jq_Q (G : jq_G) (P : Option Value → Nat → (Nat → Nat) → (Nat → va_E) → Prop) (A : Nat → Prop) : Array Value → State → Outcome → State → Prop := fun _ st o t =>
  (∃ (r : Option Value) (n' : Nat) (ad' : Nat → Nat) (mem' : Nat → va_E), o = .returned r ∧ P r n' ad' mem' ∧ va_P G.1 vwCl (jq_wl n' ad' mem') t.heap ∧ va_D A (jq_wl n' ad' mem')) ∧ va_F A st t
def jq_R (d mc ms : Nat) : Room := { frames := d, cells := mc, slots := ms, locals := 40 * d }
def jq_Pre (G : jq_G) (n : Nat) (ad : Nat → Nat) (mem : Nat → va_E) (sz : Nat) (U : State) : Prop := U.heap.size = sz ∧ va_P G.1 vwCl (jq_wl n ad mem) U.heap ∧ va_K G.1 vwCl (jq_tys G) U ∧ jq_N U ∧ va_D (fun _ => True) (jq_wl n ad mem)
def jq_Ct (l : Launch) (G : jq_G) (M : jq_M) (d mc ms : Nat) (av : List Value) (n : Nat) (ad : Nat → Nat) (mem : Nat → va_E) (P : Option Value → Nat → (Nat → Nat) → (Nat → va_E) → Prop) : Prop :=
  ∀ sz, Met l M.1 (jq_ws M) (jq_R d mc ms) (va_Pc av (jq_Pre G n ad mem sz)) (jq_Q G P (va_A (jq_wl n ad mem) sz)) mc ms (va_A (jq_wl n ad mem) sz)
def jq_Ye (G : jq_G) (P : Option Value → Nat → (Nat → Nat) → (Nat → va_E) → Prop) (mc ms : Nat) : jq_Y := fun below args s A => MQ below (jq_Q G P A) args s mc ms A
def jq_E0 : jq_E := fun _ _ _ => True
theorem jq_blind {G : jq_G} {av : List Value} {n : Nat} {ad : Nat → Nat} {mem : Nat → va_E} {sz : Nat} : FrameBlind (va_Pc av (jq_Pre G n ad mem sz)) := by
  intro a U g mk q
  obtain ⟨h0, h1, hP, hK, hN, hD⟩ := q
  exact ⟨h0, h1, hP, va_K.moved (u := U) (U := U.calling g mk a) (Vm.Alike.refl U.vm) hK, jq_N.same (u := U) (U := U.calling g mk a) rfl hN, hD⟩
theorem jq_Ct_of {l : Launch} {G : jq_G} {M : jq_M} {d mc ms : Nat} {av : List Value} {n : Nat} {ad : Nat → Nat} {mem : Nat → va_E} {P : Option Value → Nat → (Nat → Nat) → (Nat → va_E) → Prop} {L : jq_L}
    (hy : plainName M.1.cls = true) (hlen : (lg_sl av).length ≤ M.2.2.1) (hL : jq_ent av ++ List.replicate (M.2.2.1 - (jq_ent av).length) none = L)
    (k : jq_J l G M (jq_R d mc ms) jq_E0 (jq_Ye G P mc ms) 0 L [] n ad mem 0 0) : jq_Ct l G M d mc ms av n ad mem P := by
  intro sz
  refine Met.ofW (cc := M.2.1) (maxL := M.2.2.1) (ret := M.2.2.2) hy rfl ?_
  intro p e s m args below meth c s₁ B hml hv
  obtain ⟨rfl, hsz, hP, hK, hN, hD0⟩ := hv
  have hts := atoms_spec (ws := jq_ws M) B.pre
  subst hsz
  have hD := hD0.self (sz := s.heap.size)
  have hl := lv_entry av (n := M.2.2.1) hlen
  rw [lg_entry_eq]
  have hl2 : jq_lh ((lg_sl av ++ List.replicate (M.2.2.1 - (lg_sl av).length) Slot.unset).toArray) M.2.2.1 L := by
    refine jq_lh_mono (jq_lh_entry hl) (fun i v h => ?_)
    rw [← hL] at h
    rcases Nat.lt_or_ge i (jq_ent av).length with z | z
    · rw [List.getElem?_append_left z] at h; exact h
    · rw [List.getElem?_append_right z] at h
      have h3 := List.mem_of_getElem? h
      rw [List.mem_replicate] at h3
      exact absurd h3.2 (fun q => by cases q)
  exact k p e s m _ below meth c (va_A (jq_wl n ad mem) s.heap.size) ⟨⟨B.exec, B.bytes, hml, findClass_of_methodNamed B.named⟩, fun w hw => hts w (List.mem_cons_of_mem _ hw), hK, hN, fun q h => Or.inr h, B.returns, B.notSynchronized, (name_of_methodNamed B.named B.method).1⟩ trivial s.heap [] _ hl2 hP hD va_S.rf
section JR
variable {l : Launch} {G : jq_G} {M : jq_M} {R : Room} {Ex : jq_E} {P : Option Value → Nat → (Nat → Nat) → (Nat → va_E) → Prop} {mc ms pc : Nat} {L : jq_L} {n : Nat} {ad : Nat → Nat} {mem : Nat → va_E} {cells slots : Nat}
theorem jq_ireturn {v : Int32} {ty : FieldType} (hd : decode M.2.1 pc = .ok (.ireturn, 1)) (hr : M.2.2.2 = some ty) (hn : narrow ty (.int v) = .int v) (hc : cells ≤ mc) (hs : slots ≤ ms) (k : P (some (.int v)) n ad mem) : jq_J l G M R Ex (jq_Ye G P mc ms) pc L [.int v] n ad mem cells slots :=
  fun p e s m args below meth c A hC hE H locs ls hl hP hD hS => W.widen hc hs (W.zret hC.1.1 hC.1.2.1 (hC.2.2.2.2.2.1.trans hr) hn (fun t ht hW => ⟨⟨_, n, ad, mem, rfl, k, by rw [ht]; exact hP, hD⟩, hS.F ht⟩) hS.2.2 hd hC.2.2.2.2.2.2.1)
theorem jq_lreturn {v : Int64} (hd : decode M.2.1 pc = .ok (.lreturn, 1)) (hr : M.2.2.2 = some .long) (hc : cells ≤ mc) (hs : slots ≤ ms) (k : P (some (.long v)) n ad mem) : jq_J l G M R Ex (jq_Ye G P mc ms) pc L [.long v] n ad mem cells slots :=
  fun p e s m args below meth c A hC hE H locs ls hl hP hD hS => W.widen hc hs (W.lret hC.1.1 hC.1.2.1 (hC.2.2.2.2.2.1.trans hr) (fun t ht hW => ⟨⟨_, n, ad, mem, rfl, k, by rw [ht]; exact hP, hD⟩, hS.F ht⟩) hS.2.2 hd hC.2.2.2.2.2.2.1)
theorem jq_return {st : List Value} (hst : st = []) (hd : decode M.2.1 pc = .ok (.return_, 1)) (hr : M.2.2.2 = none) (hc : cells ≤ mc) (hs : slots ≤ ms) (k : P none n ad mem) : jq_J l G M R Ex (jq_Ye G P mc ms) pc L st n ad mem cells slots := by
  subst hst
  exact fun p e s m args below meth c A hC hE H locs ls hl hP hD hS => W.widen hc hs (W.vret hC.1.1 hC.1.2.1 (hC.2.2.2.2.2.1.trans hr) (fun t ht hW => ⟨⟨_, n, ad, mem, rfl, k, by rw [ht]; exact hP, hD⟩, hS.F ht⟩) hS.2.2 hd hC.2.2.2.2.2.2.1)
end JR
/-! calls -/
def jq_LM (own : String) (idx : Nat) (M' : jq_M) (na : Nat) : Prop := Cond.initialized M'.1.cls ∈ jq_big ∧ Cond.code M'.1 M'.2.1 M'.2.2.1 M'.2.2.2 ∈ jq_big ∧
  (M'.1.cls ≠ "java/lang/invoke/MethodHandle" ∧ M'.1.cls ≠ "java/lang/invoke/VarHandle" ∧ (parseMethodDescriptor M'.1.desc).map (fun d => d.parameters.length) = some na) ∧
  (Cond.methodLink own idx M'.1 ∈ jq_big ∨ ∃ host, Cond.methodLinkNest own idx M'.1 host ∈ jq_nst)
def jq_LV (own : String) (idx : Nat) (M' : jq_M) (na : Nat) : Prop := jq_LM own idx M' na ∧ Cond.instanceMethod M'.1 ∈ jq_big ∧ Cond.selects M'.1.cls M'.1 M'.1 ∈ jq_big
def jq_LS (own : String) (idx : Nat) (M' : jq_M) (na : Nat) : Prop := jq_LM own idx M' na ∧ Cond.static M'.1 ∈ jq_big
def jq_LI (own : String) (idx : Nat) (M' : jq_M) (na : Nat) : Prop := jq_LM own idx M' na ∧ Cond.instanceMethod M'.1 ∈ jq_big ∧ M'.1.name = "<init>" ∧ M'.2.2.2 = none
theorem jq_wsG {M' : jq_M} (h : Cond.code M'.1 M'.2.1 M'.2.2.1 M'.2.2.2 ∈ jq_big) : GoodIn jq_big (jq_ws M') := fun w hw => (List.mem_cons.mp hw).elim (fun e => by rw [e]; exact jq_good _ h) (fun h => jq_good w h)
def jq_fit (R : Room) (M' : jq_M) (d' mc' ms' cells slots : Nat) : Prop := (d' + 1 ≤ R.frames ∧ 8 + (M'.2.2.1 + 11) + 40 * d' ≤ R.locals) ∧ cells + mc' ≤ R.cells ∧ slots + ms' ≤ R.slots
theorem jq_back {p : Program} {l : Launch} {e : Env} {R : Room} {s : State} {m : MethodId} {args : Array Value} {below : List Frame} {meth : Method} {c : Code} {H : Heap} {locs : List Loc} {cells slots mc ms : Nat} {Q : State → Prop} {G : jq_G} {P : Option Value → Nat → (Nat → Nat) → (Nat → va_E) → Prop} {pc : Nat} {ls : Array Slot} {st0 rest : List Value} {a : Array Value} {A0 : Nat → Prop} {n : Nat} {ad : Nat → Nat} {mem : Nat → va_E}
    (hr : va_Run p l e R s m args below meth c H locs cells slots mc ms (F0 m pc ls st0) rest (jq_Q G P (va_A (jq_wl n ad mem) H.size) a) (va_A (jq_wl n ad mem) H.size)) (hD : va_D A0 (jq_wl n ad mem)) (hA : ∀ q, s.heap.size ≤ q → A0 q) (hS : va_S A0 s.heap H locs)
    (kk : ∀ (r : Option Value) (n' : Nat) (ad' : Nat → Nat) (mem' : Nat → va_E) (H1 : Heap) (locs1 : List Loc), P r n' ad' mem' → va_P G.1 vwCl (jq_wl n' ad' mem') H1 → va_D A0 (jq_wl n' ad' mem') → va_S A0 s.heap H1 locs1 → W p l e R s m args below meth c H1 locs1 (cells + mc) (slots + ms) Q (F0 m (pc + 3) ls (r.toList ++ rest))) : W p l e R s m args below meth c H locs cells slots Q (F0 m pc ls st0) := by
  have hF : ∀ q, va_A (jq_wl n ad mem) H.size q → A0 q := by
    intro q hq
    rcases hq with ⟨k, e, h⟩ | h
    · exact hD.2 k (q, e) h
    · exact hA q (Nat.le_trans hS.1 h)
  intro T hT X
  obtain ⟨v, st₀, t, T', L, h0, X', hL, e1, e2, ⟨⟨r, n', ad', mem', hv, hp, hP1, hD1⟩, hz, hk⟩, st⟩ := hr T hT X
  cases hv
  rw [h0] at hz hk
  obtain ⟨t2, a1, b1⟩ := kk v n' ad' mem' T'.heap (locs ++ L) hp (by rw [e1]; exact hP1) (hD1.weaken (fun _ q _ h => hF q.1 h))
    ⟨Nat.le_trans hS.1 (by rw [e1]; exact hz), fun q h1 h2 => by rw [e1, hk q (Nat.lt_of_lt_of_le h1 hS.1) (fun z => h2 (hF q z))]; exact hS.2.1 q h1 h2, fun q hq => by
      rcases List.mem_append.mp hq with h | h
      · exact hS.2.2 q h
      · exact hF _ (hL q h)⟩ T' rfl X'
  exact ⟨t2, st t2 a1, b1⟩
section JC
variable {l : Launch} {G : jq_G} {M M' : jq_M} {R : Room} {Ex : jq_E} {Y : jq_Y} {P' : Option Value → Nat → (Nat → Nat) → (Nat → va_E) → Prop} {pc idx na d' mc' ms' : Nat} {L : jq_L} {st As rest : List Value} {n : Nat} {ad : Nat → Nat} {mem : Nat → va_E} {cells slots : Nat}
theorem jq_pre {s : State} {H : Heap} {A : Nat → Prop} (hP : va_P G.1 vwCl (jq_wl n ad mem) H) (hK : va_K G.1 vwCl (jq_tys G) s) (hN : jq_N s) (hD : va_D A (jq_wl n ad mem)) (av : List Value) : ∀ U : State, U.heap = H → s.WarmedH U.vm → va_Pc av (jq_Pre G n ad mem H.size) av.toArray U :=
  fun U hU hW => ⟨rfl, by rw [hU], by rw [hU]; exact hP, va_K.moved hW.alike hK, hN.warm hW, hD.weaken (fun _ _ _ _ => trivial)⟩
theorem jq_invV {q ci : Nat} {fs : List Value} (hd : decode M.2.1 pc = .ok (.invokevirtual idx, 3)) (F : jq_LV M.1.cls idx M' na) (hCt : jq_Ct l G M' d' mc' ms' (.ref (ad q) :: As) n ad mem P') (hq : q < n) (hm : mem q = .inr (ci, fs)) (hci : (vwCl[ci]?).map (fun z => z.1) = some M'.1.cls) (hn : As.length = na) (hst : st = As.reverse ++ .ref (ad q) :: rest) (hw : (rest.map fun v => v.category).sum ≤ 8) (hf : jq_fit R M' d' mc' ms' cells slots)
    (k : ∀ r n' ad' mem', P' r n' ad' mem' → jq_J l G M R Ex Y (pc + 3) L (r.toList ++ rest) n' ad' mem' (cells + mc') (slots + ms')) : jq_J l G M R Ex Y pc L st n ad mem cells slots := by
  intro p e s m args below meth c A hC hE H locs ls hl hP hD hS
  obtain ⟨⟨f1, f2, f3, f4⟩, f5, f6⟩ := F
  obtain ⟨⟨r1, r2⟩, r3⟩ := hf
  have hcl : ∃ z : vw_C, vwCl[ci]? = some z ∧ z.1 = M'.1.cls := by
    cases hz : vwCl[ci]? with
    | none => rw [hz] at hci; cases hci
    | some z => rw [hz] at hci; exact ⟨z, rfl, Option.some.inj hci⟩
  obtain ⟨z, hz1, hz2⟩ := hcl
  have hrecv := va_recv hC.2.2.1 hP hz1 (show (jq_wl n ad mem)[q]? = some (ad q, .inr (ci, fs)) by rw [jq_wl_get hq, hm])
  rw [hz2] at hrecv
  have hpre : PreV s H M'.1.cls (ad q) (va_Pc (.ref (ad q) :: As) (jq_Pre G n ad mem H.size)) As := ⟨jq_blind, hrecv, jq_pre hP hC.2.2.1 hC.2.2.2.1 hD _⟩
  have hfin : va_Run p l e R s m args below meth c H locs cells slots mc' ms' (F0 m pc ls st) rest (jq_Q G P' (va_A (jq_wl n ad mem) H.size) (Value.ref (ad q) :: As).toArray) (va_A (jq_wl n ad mem) H.size) := by
    rcases f4 with f4 | ⟨host, f4⟩
    · exact va_runV (Ts := jq_big) (own := M.1.cls) ⟨hC.1.1, hC.1.2.1, hC.1.2.2.1, hC.1.2.2.2, hC.2.1⟩ (hCt H.size) ⟨callB_of na hC.2.1 (jq_wsG f2) rfl rfl rfl (hC.2.1 _ f1) (hC.2.1 _ f4) f3 ⟨r1, r2⟩, hC.2.1 _ f5, hC.2.1 _ f6⟩ hpre rfl hn hl.1 hst (lv_room hw) hd r3
    · exact va_runVN (Ts := jq_big) (own := M.1.cls) (host := host) ⟨hC.1.1, hC.1.2.1, hC.1.2.2.1, hC.1.2.2.2, hC.2.1⟩ (hCt H.size) ⟨va_cnB na hC.2.1 (jq_wsG f2) rfl rfl rfl (hC.2.2.2.1 _ f4) (hC.2.1 _ f1) f3 ⟨r1, r2⟩, hC.2.1 _ f5, hC.2.1 _ f6⟩ hpre rfl hn hl.1 hst (lv_room hw) hd r3
  exact jq_back hfin hD hC.2.2.2.2.1 hS (fun r n' ad' mem' H1 locs1 hp hP1 hD1 hS1 => k r n' ad' mem' hp p e s m args below meth c A hC hE H1 locs1 ls hl hP1 hD1 hS1)
theorem jq_invS (hd : decode M.2.1 pc = .ok (.invokestatic idx, 3)) (F : jq_LS M.1.cls idx M' na) (hCt : jq_Ct l G M' d' mc' ms' As n ad mem P') (hn : As.length = na) (hst : st = As.reverse ++ rest) (hw : (rest.map fun v => v.category).sum ≤ 8) (hf : jq_fit R M' d' mc' ms' cells slots)
    (k : ∀ r n' ad' mem', P' r n' ad' mem' → jq_J l G M R Ex Y (pc + 3) L (r.toList ++ rest) n' ad' mem' (cells + mc') (slots + ms')) : jq_J l G M R Ex Y pc L st n ad mem cells slots := by
  intro p e s m args below meth c A hC hE H locs ls hl hP hD hS
  obtain ⟨⟨f1, f2, f3, f4⟩, f5⟩ := F
  obtain ⟨⟨r1, r2⟩, r3⟩ := hf
  have hpre : PreS s H (va_Pc As (jq_Pre G n ad mem H.size)) As := ⟨jq_blind, jq_pre hP hC.2.2.1 hC.2.2.2.1 hD _⟩
  have hfin : va_Run p l e R s m args below meth c H locs cells slots mc' ms' (F0 m pc ls st) rest (jq_Q G P' (va_A (jq_wl n ad mem) H.size) As.toArray) (va_A (jq_wl n ad mem) H.size) := by
    rcases f4 with f4 | ⟨host, f4⟩
    · exact va_runS (Ts := jq_big) (own := M.1.cls) ⟨hC.1.1, hC.1.2.1, hC.1.2.2.1, hC.1.2.2.2, hC.2.1⟩ (hCt H.size) ⟨callB_of na hC.2.1 (jq_wsG f2) rfl rfl rfl (hC.2.1 _ f1) (hC.2.1 _ f4) f3 ⟨r1, r2⟩, hC.2.1 _ f5⟩ hpre rfl hn hl.1 hst (lv_room hw) hd r3
    · exact va_runSN (Ts := jq_big) (own := M.1.cls) (host := host) ⟨hC.1.1, hC.1.2.1, hC.1.2.2.1, hC.1.2.2.2, hC.2.1⟩ (hCt H.size) ⟨va_cnB na hC.2.1 (jq_wsG f2) rfl rfl rfl (hC.2.2.2.1 _ f4) (hC.2.1 _ f1) f3 ⟨r1, r2⟩, hC.2.1 _ f5, trivial⟩ hpre rfl hn hl.1 hst (lv_room hw) hd r3
  exact jq_back hfin hD hC.2.2.2.2.1 hS (fun r n' ad' mem' H1 locs1 hp hP1 hD1 hS1 => k r n' ad' mem' hp p e s m args below meth c A hC hE H1 locs1 ls hl hP1 hD1 hS1)
theorem jq_invI {q : Nat} {M' : MethodName × ByteArray × Nat × Option FieldType} (hd : decode M.2.1 pc = .ok (.invokespecial idx, 3)) (F : jq_LI M.1.cls idx M' na) (hCt : jq_Ct l G M' d' mc' ms' (.ref (ad q) :: As) n ad mem P') (hn : As.length = na) (hst : st = As.reverse ++ .ref (ad q) :: rest) (hw : (rest.map fun v => v.category).sum ≤ 8) (hf : jq_fit R M' d' mc' ms' cells slots)
    (k : ∀ r n' ad' mem', P' r n' ad' mem' → jq_J l G M R Ex Y (pc + 3) L (r.toList ++ rest) n' ad' mem' (cells + mc') (slots + ms')) : jq_J l G M R Ex Y pc L st n ad mem cells slots := by
  intro p e s m args below meth c A hC hE H locs ls hl hP hD hS
  obtain ⟨y', b', nL', ret'⟩ := M'
  obtain ⟨⟨f1, f2, f3, f4⟩, f5, f6, f7⟩ := F
  obtain ⟨⟨r1, r2⟩, r3⟩ := hf
  dsimp only at f7
  subst f7
  have hpre : PreS s H (va_Pc (.ref (ad q) :: As) (jq_Pre G n ad mem H.size)) (.ref (ad q) :: As) := ⟨jq_blind, jq_pre hP hC.2.2.1 hC.2.2.2.1 hD _⟩
  have hfin : va_Run p l e R s m args below meth c H locs cells slots mc' ms' (F0 m pc ls st) rest (jq_Q G P' (va_A (jq_wl n ad mem) H.size) (Value.ref (ad q) :: As).toArray) (va_A (jq_wl n ad mem) H.size) := by
    rcases f4 with f4 | ⟨host, f4⟩
    · exact va_runI (Ts := jq_big) (own := M.1.cls) ⟨hC.1.1, hC.1.2.1, hC.1.2.2.1, hC.1.2.2.2, hC.2.1⟩ (hCt H.size) ⟨callB_of na hC.2.1 (jq_wsG f2) rfl rfl rfl (hC.2.1 _ f1) (hC.2.1 _ f4) f3 ⟨r1, r2⟩, f6, hC.2.1 _ f5⟩ hpre rfl hn hl.1 hst (lv_room hw) hd r3
    · exact va_runIN (Ts := jq_big) (own := M.1.cls) (host := host) ⟨hC.1.1, hC.1.2.1, hC.1.2.2.1, hC.1.2.2.2, hC.2.1⟩ (hCt H.size) ⟨va_cnB na hC.2.1 (jq_wsG f2) rfl rfl rfl (hC.2.2.2.1 _ f4) (hC.2.1 _ f1) f3 ⟨r1, r2⟩, f6, hC.2.1 _ f5⟩ hpre rfl hn hl.1 hst (lv_room hw) hd r3
  exact jq_back hfin hD hC.2.2.2.2.1 hS (fun r n' ad' mem' H1 locs1 hp hP1 hD1 hS1 => k r n' ad' mem' hp p e s m args below meth c A hC hE H1 locs1 ls hl hP1 hD1 hS1)
end JC
