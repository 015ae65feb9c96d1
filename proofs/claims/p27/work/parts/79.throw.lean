/-! THROWING in the light judgement: what a throw rests on, contracts that return or throw, calls of them. printed by wip/p27/gen/mk79.py -/
def jx_bad : List Cond := [300, 302, 304, 306, 388, 751].filterMap (fun i => lw_tbl[i]?)
def jx_nm : List String := ["java/lang/RuntimeException", "java/lang/Exception"]
def jx_nc : List (String × String) := [("java/lang/IllegalArgumentException", "java/lang/IndexOutOfBoundsException"), ("java/lang/IllegalStateException", "java/lang/IndexOutOfBoundsException")]
def jx_str : List (Nat × String) := [(47, "width and height are 1 to 4"), (181, "no such cell"), (69, "a number is 0 to 3, or NONE"), (183, "no such edge"), (78, "a state is UNKNOWN, LINE or CROSS"), (110, "no such side"), (189, "there are not so many answers"), (193, "there is no answer")]
def jx_N (U : State) : Prop := (∀ w ∈ jx_bad, va_Nw w U) ∧ (∀ z ∈ jx_nc, va_Nc z.1 z.2 U) ∧ ∀ z ∈ jx_str, ∃ sa, vk_R "SlitherFence" z.1 z.2 sa U
theorem jx_bad_all {P : Cond → Prop} (h : ∀ w ∈ jx_bad, P w) : ∀ i ∈ ([300, 302, 304, 306, 388, 751] : List Nat), ∀ w, lw_tbl[i]? = some w → P w := fun i hi w hw => h w (List.mem_filterMap.mpr ⟨i, hi, hw⟩)
theorem jx_bad_kind : ∀ w ∈ jx_bad, (∃ x, w = .declares x) ∨ ∃ a b, w = .castable a b := by
  have h : jx_bad.all (fun w => match w with | .declares _ => true | .castable _ _ => true | _ => false) = true := by decide +kernel
  intro w hw
  have := List.all_eq_true.mp h w hw
  cases w <;> first | (simp at this; done) | exact Or.inl ⟨_, rfl⟩ | exact Or.inr ⟨_, _, rfl⟩
theorem jx_N.warm {s U : State} (hW : s.WarmedH U.vm) (h : jx_N s) : jx_N U := by
  refine ⟨fun w hw => ?_, fun z hz => va_Nc.moved hW.alike (h.2.1 z hz), fun z hz => ?_⟩
  · have h1 := h.1 w hw
    rcases jx_bad_kind w hw with ⟨x, rfl⟩ | ⟨a, b, rfl⟩
    · exact va_Nw.warmD hW h1
    · exact va_Nw.warmC hW h1
  · obtain ⟨sa, h1⟩ := h.2.2 z hz
    exact ⟨sa, vk_R.warm hW h1⟩
theorem jx_N.same {u U : State} (hv : u.vm = U.vm) (h : jx_N u) : jx_N U := by
  refine ⟨fun w hw => ?_, fun z hz => va_Nc.moved (by rw [← hv]; exact Vm.Alike.refl _) (h.2.1 z hz), fun z hz => ?_⟩
  · have h1 := h.1 w hw
    rcases jx_bad_kind w hw with ⟨x, rfl⟩ | ⟨a, b, rfl⟩
    · exact va_Nw.same rfl hv h1
    · exact va_Nw.same rfl hv h1
  · obtain ⟨sa, h1⟩ := h.2.2 z hz
    exact ⟨sa, vk_R.same hv.symm h1⟩
def jx_H (A : Nat → Prop) (U : State) (H : Heap) : Prop := vx_Zq Bundle.tN "UNASSIGNED_STACK" Bundle.steD A U H ∧ vx_Zq Bundle.tN "SUPPRESSED_SENTINEL" Bundle.listD A U H
theorem jx_H.moved {A : Nat → Prop} {u U : State} {H : Heap} (hv : u.vm.Alike U.vm) (h : jx_H A u H) : jx_H A U H := ⟨vx_Zq.moved hv h.1, vx_Zq.moved hv h.2⟩
theorem jx_H.kept {A : Nat → Prop} {U : State} {H H1 : Heap} (h : jx_H A U H) (hq : ∀ a : Nat, a < H.size → ¬ A a → H1[a]? = H[a]?) : jx_H A U H1 := ⟨vx_Zq.kept h.1 hq, vx_Zq.kept h.2 hq⟩
theorem jx_H.narrow {A B : Nat → Prop} {U : State} {H : Heap} (h : jx_H A U H) (hAB : ∀ q, B q → A q) : jx_H B U H := ⟨vx_Zq.narrow h.1 hAB, vx_Zq.narrow h.2 hAB⟩
/-- the frame's own table of handlers -/
def jx_tb (tb : List ExceptionTableEntry) (s : State) (args : Array Value) : Prop := ∀ (m : MethodId) (below : List Frame) (meth : Method) (c : Code), s.frames = .invoking m args :: below → s.vm.method? m = some meth → meth.code = some c → c.exceptionTable.toList = tb
def jx_E (tb : List ExceptionTableEntry) : jq_E := fun s args A => jx_N s ∧ jx_H A s s.heap ∧ jx_tb tb s args
def jx_Pre (G : jq_G) (n : Nat) (ad : Nat → Nat) (mem : Nat → va_E) (sz : Nat) (U : State) : Prop := jq_Pre G n ad mem sz U ∧ jx_N U ∧ jx_H (va_A (jq_wl n ad mem) sz) U U.heap
def jx_XC (G : jq_G) (PX : String → Nat → (Nat → Nat) → (Nat → va_E) → Prop) (A : Nat → Prop) : String → State → State → Prop := fun E st t =>
  (∃ (n' : Nat) (ad' : Nat → Nat) (mem' : Nat → va_E), PX E n' ad' mem' ∧ va_P G.1 vwCl (jq_wl n' ad' mem') t.heap ∧ va_D A (jq_wl n' ad' mem')) ∧ va_F A st t
def jx_Ct (l : Launch) (G : jq_G) (M : jq_M) (hd : Cond) (d mc ms : Nat) (av : List Value) (n : Nat) (ad : Nat → Nat) (mem : Nat → va_E) (P : Option Value → Nat → (Nat → Nat) → (Nat → va_E) → Prop) (PX : String → Nat → (Nat → Nat) → (Nat → va_E) → Prop) : Prop :=
  ∀ sz, vx_Met l M.1 (hd :: jq_big) (jq_R d mc ms) (va_Pc av (jx_Pre G n ad mem sz)) (jq_Q G P (va_A (jq_wl n ad mem) sz)) (jx_XC G PX (va_A (jq_wl n ad mem) sz)) mc ms (va_A (jq_wl n ad mem) sz)
def jx_Ye (G : jq_G) (P : Option Value → Nat → (Nat → Nat) → (Nat → va_E) → Prop) (PX : String → Nat → (Nat → Nat) → (Nat → va_E) → Prop) (mc ms : Nat) : jq_Y := fun below args s A => vx_MQ below (jq_Q G P A) (jx_XC G PX A) args s mc ms A
theorem jx_blind {G : jq_G} {av : List Value} {n : Nat} {ad : Nat → Nat} {mem : Nat → va_E} {sz : Nat} : FrameBlind (va_Pc av (jx_Pre G n ad mem sz)) := by
  intro a U g mk q
  obtain ⟨h0, ⟨h1, hP, hK, hN, hD⟩, hx, hH⟩ := q
  exact ⟨h0, ⟨h1, hP, va_K.moved (u := U) (U := U.calling g mk a) (Vm.Alike.refl U.vm) hK, jq_N.same (u := U) (U := U.calling g mk a) rfl hN, hD⟩, jx_N.same (u := U) (U := U.calling g mk a) rfl hx, jx_H.moved (u := U) (U := U.calling g mk a) (Vm.Alike.refl U.vm) hH⟩
def jx_cd (M : jq_M) : Cond := .code M.1 M.2.1 M.2.2.1 M.2.2.2
def jx_cw (M : jq_M) (hh : List (Nat × Nat × Nat × Nat)) : Cond := .codeWith M.1 M.2.1 M.2.2.1 M.2.2.2 hh
theorem jx_body {l : Launch} {G : jq_G} {M : jq_M} {hd : Cond} {d mc ms : Nat} {av : List Value} {n : Nat} {ad : Nat → Nat} {mem : Nat → va_E} {P : Option Value → Nat → (Nat → Nat) → (Nat → va_E) → Prop} {PX : String → Nat → (Nat → Nat) → (Nat → va_E) → Prop} {L : jq_L} {tb : List ExceptionTableEntry}
    (hlen : (lg_sl av).length ≤ M.2.2.1) (hL : jq_ent av ++ List.replicate (M.2.2.1 - (jq_ent av).length) none = L)
    (k : jq_J l G M (jq_R d mc ms) (jx_E tb) (jx_Ye G P PX mc ms) 0 L [] n ad mem 0 0) {sz : Nat} {p : Program} {e : Env} {s : State} {m : MethodId} {args : Array Value} {below : List Frame} {meth : Method} {c : Code} {s₁ : State}
    (B : BodyLoose p l M.1 (headSpec (hd :: jq_big) (jq_R d mc ms)) M.2.1 M.2.2.1 M.2.2.2 e s m args below meth c s₁) (hml : c.maxLocals = M.2.2.1) (htb : c.exceptionTable.toList = tb) (hv : va_Pc av (jx_Pre G n ad mem sz) args s) :
    W p l e (headSpec (hd :: jq_big) (jq_R d mc ms)).room s m args below meth c s.heap [] 0 0 (vx_MQ below (jq_Q G P (va_A (jq_wl n ad mem) sz)) (jx_XC G PX (va_A (jq_wl n ad mem) sz)) args s mc ms (va_A (jq_wl n ad mem) sz)) (entryFrame m args M.2.2.1) := by
  have X := Stand.of_body B
  obtain ⟨rfl, ⟨hsz, hP, hK, hN, hD0⟩, hx, hH⟩ := hv
  have hts := atoms_spec (ws := hd :: jq_big) B.pre
  subst hsz
  have hD := hD0.self (sz := s.heap.size)
  have hl := lv_entry av (n := M.2.2.1) hlen
  rw [lg_entry_eq]
  have hl2 : jq_lh ((lg_sl av ++ List.replicate (M.2.2.1 - (lg_sl av).length) Slot.unset).toArray) M.2.2.1 L := by
    refine jq_lh_mono (jq_lh_entry hl) (fun i v h => ?_)
    rw [← hL] at h
    rcases Nat.lt_or_ge i (jq_ent av).length with z | z
    · rw [List.getElem?_append_left z] at h; exact h
    · rw [List.getElem?_append_right z] at h
      have h3 := List.mem_of_getElem? h
      rw [List.mem_replicate] at h3
      exact absurd h3.2 (fun q => by cases q)
  have htbl : jx_tb tb s av.toArray := by
    intro m' below' meth' c' e1 e2 e3
    have e4 := e1.symm.trans X.frames
    injection e4 with e5 e6
    injection e5 with e7 e8
    subst e7
    cases Option.some.inj (e2.symm.trans X.method)
    cases Option.some.inj (e3.symm.trans X.code)
    exact htb
  exact k p e s m _ below meth c (va_A (jq_wl n ad mem) s.heap.size) ⟨⟨B.exec, B.bytes, hml, findClass_of_methodNamed B.named⟩, fun w hw => hts w (List.mem_cons_of_mem _ hw), hK, hN, fun q h => Or.inr h, B.returns, B.notSynchronized, (name_of_methodNamed B.named B.method).1⟩ ⟨hx, hH, htbl⟩ s.heap [] _ hl2 hP hD va_S.rf
theorem jx_Ct_of {l : Launch} {G : jq_G} {M : jq_M} {d mc ms : Nat} {av : List Value} {n : Nat} {ad : Nat → Nat} {mem : Nat → va_E} {P : Option Value → Nat → (Nat → Nat) → (Nat → va_E) → Prop} {PX : String → Nat → (Nat → Nat) → (Nat → va_E) → Prop} {L : jq_L}
    (hy : plainName M.1.cls = true) (hlen : (lg_sl av).length ≤ M.2.2.1) (hL : jq_ent av ++ List.replicate (M.2.2.1 - (jq_ent av).length) none = L)
    (k : jq_J l G M (jq_R d mc ms) (jx_E []) (jx_Ye G P PX mc ms) 0 L [] n ad mem 0 0) : jx_Ct l G M (jx_cd M) d mc ms av n ad mem P PX := by
  intro sz
  refine vx_ofW (cc := M.2.1) (maxL := M.2.2.1) (ret := M.2.2.2) hy rfl ?_
  intro p e s m args below meth c s₁ B hml ht hv
  exact jx_body hlen hL k B hml (List.eq_nil_iff_forall_not_mem.mpr ht) hv
theorem jx_Ct_ofW {l : Launch} {G : jq_G} {M : jq_M} {hh : List (Nat × Nat × Nat × Nat)} {d mc ms : Nat} {av : List Value} {n : Nat} {ad : Nat → Nat} {mem : Nat → va_E} {P : Option Value → Nat → (Nat → Nat) → (Nat → va_E) → Prop} {PX : String → Nat → (Nat → Nat) → (Nat → va_E) → Prop} {L : jq_L}
    (hy : plainName M.1.cls = true) (hlen : (lg_sl av).length ≤ M.2.2.1) (hL : jq_ent av ++ List.replicate (M.2.2.1 - (jq_ent av).length) none = L)
    (k : jq_J l G M (jq_R d mc ms) (jx_E (tableOf hh)) (jx_Ye G P PX mc ms) 0 L [] n ad mem 0 0) : jx_Ct l G M (jx_cw M hh) d mc ms av n ad mem P PX := by
  intro sz
  refine vx_ofWH (cc := M.2.1) (maxL := M.2.2.1) (ret := M.2.2.2) hy rfl ?_
  intro p e s m args below meth c s₁ B hml hv
  exact jx_body hlen hL k B hml (vx_table (x := M.1) B (atoms_spec (ws := jx_cw M hh :: jq_big) B.pre _ List.mem_cons_self)) hv
section JXR
variable {l : Launch} {G : jq_G} {M M' : jq_M} {R : Room} {Ex : jq_E} {Y : jq_Y} {P P' : Option Value → Nat → (Nat → Nat) → (Nat → va_E) → Prop} {PX PX' : String → Nat → (Nat → Nat) → (Nat → va_E) → Prop} {mc ms pc idx na d' mc' ms' : Nat} {L : jq_L} {st As rest : List Value} {n : Nat} {ad : Nat → Nat} {mem : Nat → va_E} {cells slots : Nat} {tb : List ExceptionTableEntry}
theorem jx_ret (k : jq_J l G M R Ex (jq_Ye G P mc ms) pc L st n ad mem cells slots) : jq_J l G M R Ex (jx_Ye G P PX mc ms) pc L st n ad mem cells slots :=
  fun p e s m args below meth c A hC hE H locs ls hl hP hD hS => vx_ret (k p e s m args below meth c A hC hE H locs ls hl hP hD hS)
/-- what is thrown: its class, the pool's entries of the class SlitherFence -/
def jx_T (cls : String) (ik ic : Nat) : Prop := Bundle.fit cls = true ∧ Cond.classLink "SlitherFence" ik cls ∈ jq_big ∧ Cond.initialized cls ∈ jq_big ∧ (∀ w ∈ (vx_atS "SlitherFence" ic cls jx_nm).filter goodWord, w ∈ jq_big) ∧ (∀ w ∈ (vx_atS "SlitherFence" ic cls jx_nm).filter (fun w => !goodWord w), w ∈ jx_bad) ∧ ∀ w ∈ Cond.classLink "SlitherFence" ik cls :: Cond.initialized cls :: vx_atS "SlitherFence" ic cls jx_nm, vx_ot w = true
theorem jx_bad_tabs {w : Cond} (hw : w ∈ jx_bad) : w.onTables = true := by
  rcases jx_bad_kind w hw with ⟨x, rfl⟩ | ⟨a, b, rfl⟩ <;> rfl
theorem jx_throw {cls text : String} {ik ic is : Nat} (hl : l.stackTraces = false) (hT : jx_T cls ik ic) (hown : M.1.cls = "SlitherFence") (hs : (is, text) ∈ jx_str)
    (d0 : decode M.2.1 pc = .ok (.new ik, 3)) (d3 : decode M.2.1 (pc + 3) = .ok (.dup, 1)) (d4 : decode M.2.1 (pc + 4) = .ok (.ldc is, 2)) (d6 : decode M.2.1 (pc + 6) = .ok (.invokespecial ic, 3)) (d9 : decode M.2.1 (pc + 9) = .ok (.athrow, 1))
    (hR : 5 < R.frames ∧ 100 ≤ R.locals ∧ cells + 1 ≤ R.cells ∧ slots + 6 ≤ R.slots) (hw : (st.map fun v => v.category).sum ≤ 8) (hm : cells + 1 ≤ mc ∧ slots + 6 ≤ ms) (k : PX cls n ad mem) : jq_J l G M R (jx_E []) (jx_Ye G P PX mc ms) pc L st n ad mem cells slots := by
  intro p e s m args below meth c A hC hE H locs ls hll hP hD hS T hTT X
  obtain ⟨t1, t2, t3, t4, t5, t6⟩ := hT
  obtain ⟨sa, hsa⟩ := hE.1.2.2 _ hs
  have htab := hE.2.2 m below meth c X.frames X.method X.code
  have hsz : ls.size = c.maxLocals := hll.1.trans hC.1.2.2.1.symm
  refine vx_throwS (names := jx_nm) (A := A) (own := "SlitherFence") (cls := cls) (text := text) (ik := ik) (is := is) (ic := ic) (sa := sa) hC.1.1 hC.1.2.1 hl (by rw [← hown]; exact hC.1.2.2.2) t1 (by decide +kernel) (hC.2.1 _ t2) (hC.2.1 _ t3) hsa
    (vx_hat (B := jx_bad) (fun w hw => hC.2.1 w (t4 w hw)) t5 (fun w hw => va_Nw.use (jx_bad_tabs hw) (hE.1.1 w hw))) t6 hE.2.1.1 hE.2.1.2 hS hsz d0 d3 d4 d6 d9 (by rw [htab]; intro x hx; cases hx) (by show 2 + 3 < R.frames; omega) (by show _ + (13 * (2 + 1) + 43) ≤ R.locals; omega) hR.2.2.1 hR.2.2.2 hC.2.2.2.2.2.2.1
    (fun t ht h1 h2 => ⟨⟨n, ad, mem, k, hP.kept (fun j x hx => h2 x.1 ((hP j x hx).lt)), hD⟩, Nat.le_trans hS.1 h1, fun q q1 q2 => (h2 q (Nat.lt_of_lt_of_le q1 hS.1)).trans (hS.2.1 q q1 q2)⟩) hS.2.2 hm.1 hm.2 T hTT X
theorem jx_back {p : Program} {e : Env} {s : State} {m : MethodId} {args : Array Value} {below : List Frame} {meth : Method} {c : Code} {H : Heap} {locs : List Loc} {Q : State → Prop} {ls : Array Slot} {st0 : List Value} {a : Array Value} {A0 : Nat → Prop}
    (hr : vx_Run p l e R s m args below meth c H locs cells slots mc ms (F0 m pc ls st0) rest (jq_Q G P (va_A (jq_wl n ad mem) H.size) a) (jx_XC G PX (va_A (jq_wl n ad mem) H.size)) (va_A (jq_wl n ad mem) H.size)) (hD : va_D A0 (jq_wl n ad mem)) (hA : ∀ q, s.heap.size ≤ q → A0 q) (hS : va_S A0 s.heap H locs)
    (kx : ∀ (E : String) (ce : Cell) (q9 : Addr) (n' : Nat) (ad' : Nat → Nat) (mem' : Nat → va_E) (H1 : Heap) (locs1 : List Loc), PX E n' ad' mem' → va_P G.1 vwCl (jq_wl n' ad' mem') H1 → va_D A0 (jq_wl n' ad' mem') → va_S A0 s.heap H1 locs1 → H1[q9]? = some ce → ce.vm = .none → s.vm.findClass E = some ce.cls → vx_W p l e R s m args below meth c H1 locs1 (cells + mc) (slots + ms) Q (F0 m pc ls rest) q9)
    (kk : ∀ (r : Option Value) (n' : Nat) (ad' : Nat → Nat) (mem' : Nat → va_E) (H1 : Heap) (locs1 : List Loc), P r n' ad' mem' → va_P G.1 vwCl (jq_wl n' ad' mem') H1 → va_D A0 (jq_wl n' ad' mem') → va_S A0 s.heap H1 locs1 → W p l e R s m args below meth c H1 locs1 (cells + mc) (slots + ms) Q (F0 m (pc + 3) ls (r.toList ++ rest))) : W p l e R s m args below meth c H locs cells slots Q (F0 m pc ls st0) := by
  have hF : ∀ q, va_A (jq_wl n ad mem) H.size q → A0 q := by
    intro q hq
    rcases hq with ⟨k, e, h⟩ | h
    · exact hD.2 k (q, e) h
    · exact hA q (Nat.le_trans hS.1 h)
  have hK : ∀ (t T' : State) (L9 : List Loc), T'.heap = t.heap → H.size ≤ t.heap.size → (∀ q : Nat, q < H.size → ¬ va_A (jq_wl n ad mem) H.size q → t.heap[q]? = H[q]?) → (∀ q ∈ L9, va_A (jq_wl n ad mem) H.size q.base) → va_S A0 s.heap T'.heap (locs ++ L9) := by
    intro t T' L9 e1 hz hk hL
    exact ⟨Nat.le_trans hS.1 (by rw [e1]; exact hz), fun q h1 h2 => by rw [e1, hk q (Nat.lt_of_lt_of_le h1 hS.1) (fun z => h2 (hF q z))]; exact hS.2.1 q h1 h2, fun q hq => by
      rcases List.mem_append.mp hq with h | h
      · exact hS.2.2 q h
      · exact hF _ (hL q h)⟩
  intro T hT X
  rcases hr T hT X with ⟨v, st₀, t, T', L9, h0, X', hL, e1, e2, ⟨⟨r, n', ad', mem', hv, hp, hP1, hD1⟩, hz, hk⟩, st⟩ | ⟨q, st₀, t, T', L9, E, ce, h0, X', hL, e1, e2, ⟨⟨n', ad', mem', hp, hP1, hD1⟩, hz, hk⟩, hce, hcv, hcl, st⟩
  · cases hv
    rw [h0] at hz hk
    obtain ⟨t2, a1, b1⟩ := kk v n' ad' mem' T'.heap (locs ++ L9) hp (by rw [e1]; exact hP1) (hD1.weaken (fun _ q _ h => hF q.1 h)) (hK t T' L9 e1 hz hk hL) T' rfl X'
    exact ⟨t2, st t2 a1, b1⟩
  · rw [h0] at hz hk
    obtain ⟨t2, a1, b1⟩ := kx E ce q n' ad' mem' T'.heap (locs ++ L9) hp (by rw [e1]; exact hP1) (hD1.weaken (fun _ q _ h => hF q.1 h)) (hK t T' L9 e1 hz hk hL) (by rw [e1]; exact hce) hcv hcl T' rfl X'
    exact ⟨t2, st.trans a1, b1⟩
theorem jx_pre {s : State} {H : Heap} {locs : List Loc} {A : Nat → Prop} (hP : va_P G.1 vwCl (jq_wl n ad mem) H) (hK : va_K G.1 vwCl (jq_tys G) s) (hN : jq_N s) (hD : va_D A (jq_wl n ad mem)) (hx : jx_N s) (hH : jx_H A s s.heap) (hA : ∀ q, s.heap.size ≤ q → A q) (hS : va_S A s.heap H locs) (av : List Value) : ∀ U : State, U.heap = H → s.WarmedH U.vm → va_Pc av (jx_Pre G n ad mem H.size) av.toArray U := by
  intro U hU hW
  obtain ⟨h0, h1⟩ := jq_pre hP hK hN hD av U hU hW
  refine ⟨h0, h1, hx.warm hW, ?_⟩
  rw [hU]
  refine jx_H.narrow (jx_H.moved hW.alike (hH.kept hS.2.1)) (fun q hq => ?_)
  rcases hq with ⟨k, e, h⟩ | h
  · exact hD.2 k (q, e) h
  · exact hA q (Nat.le_trans hS.1 h)
/-- what of the machine's state a caller gives to one that may throw -/
def jx_Ok (Ex : jq_E) : Prop := ∀ s args A, Ex s args A → jx_N s ∧ jx_H A s s.heap
theorem jx_E_ok : jx_Ok (jx_E tb) := fun _ _ _ h => ⟨h.1, h.2.1⟩
theorem jx_invVg {q ci : Nat} {fs : List Value} (hOk : jx_Ok Ex) (hd : decode M.2.1 pc = .ok (.invokevirtual idx, 3)) (F : jq_LV M.1.cls idx M' na) (hF2 : Cond.methodLink M.1.cls idx M'.1 ∈ jq_big) (hCt : jx_Ct l G M' (jx_cd M') d' mc' ms' (.ref (ad q) :: As) n ad mem P' PX') (hq : q < n) (hm : mem q = .inr (ci, fs)) (hci : (vwCl[ci]?).map (fun z => z.1) = some M'.1.cls) (hn : As.length = na) (hst : st = As.reverse ++ .ref (ad q) :: rest) (hw : (rest.map fun v => v.category).sum ≤ 8) (hf : jq_fit R M' d' mc' ms' cells slots)
    (kx : ∀ (p : Program) (e : Env) (s : State) (m : MethodId) (args : Array Value) (below : List Frame) (meth : Method) (c : Code) (A : Nat → Prop), jq_Cx G M p s m args meth c A → Ex s args A → ∀ (ls : Array Slot), jq_lh ls M.2.2.1 L → ∀ (E : String) (ce : Cell) (q9 : Addr) (n' : Nat) (ad' : Nat → Nat) (mem' : Nat → va_E) (H1 : Heap) (locs1 : List Loc), PX' E n' ad' mem' → va_P G.1 vwCl (jq_wl n' ad' mem') H1 → va_D A (jq_wl n' ad' mem') → va_S A s.heap H1 locs1 → H1[q9]? = some ce → ce.vm = .none → s.vm.findClass E = some ce.cls → vx_W p l e R s m args below meth c H1 locs1 (cells + mc') (slots + ms') (Y below args s A) (F0 m pc ls rest) q9)
    (k : ∀ r n' ad' mem', P' r n' ad' mem' → jq_J l G M R Ex Y (pc + 3) L (r.toList ++ rest) n' ad' mem' (cells + mc') (slots + ms')) : jq_J l G M R Ex Y pc L st n ad mem cells slots := by
  intro p e s m args below meth c A hC hE H locs ls hl hP hD hS
  obtain ⟨⟨f1, f2, f3, f4⟩, f5, f6⟩ := F
  obtain ⟨⟨r1, r2⟩, r3⟩ := hf
  obtain ⟨o1, o2⟩ := hOk _ _ _ hE
  have hcl : ∃ z : vw_C, vwCl[ci]? = some z ∧ z.1 = M'.1.cls := by
    cases hz : vwCl[ci]? with
    | none => rw [hz] at hci; cases hci
    | some z => rw [hz] at hci; exact ⟨z, rfl, Option.some.inj hci⟩
  obtain ⟨z, hz1, hz2⟩ := hcl
  have hrecv := va_recv hC.2.2.1 hP hz1 (show (jq_wl n ad mem)[q]? = some (ad q, .inr (ci, fs)) by rw [jq_wl_get hq, hm])
  rw [hz2] at hrecv
  have hpre : PreV s H M'.1.cls (ad q) (va_Pc (.ref (ad q) :: As) (jx_Pre G n ad mem H.size)) As := ⟨jx_blind, hrecv, jx_pre hP hC.2.2.1 hC.2.2.2.1 hD o1 o2 hC.2.2.2.2.1 hS _⟩
  have hfin : vx_Run p l e R s m args below meth c H locs cells slots mc' ms' (F0 m pc ls st) rest (jq_Q G P' (va_A (jq_wl n ad mem) H.size) (Value.ref (ad q) :: As).toArray) (jx_XC G PX' (va_A (jq_wl n ad mem) H.size)) (va_A (jq_wl n ad mem) H.size) :=
    vx_runV (Ts := jq_big) (own := M.1.cls) ⟨hC.1.1, hC.1.2.1, hC.1.2.2.1, hC.1.2.2.2, hC.2.1⟩ (hCt H.size) ⟨callB_of na hC.2.1 (jq_wsG f2) rfl rfl rfl (hC.2.1 _ f1) (hC.2.1 _ hF2) f3 ⟨r1, r2⟩, hC.2.1 _ f5, hC.2.1 _ f6⟩ hpre rfl hn hl.1 hst (lv_room hw) hd r3
  exact jx_back hfin hD hC.2.2.2.2.1 hS (kx p e s m args below meth c A hC hE ls hl) (fun r n' ad' mem' H1 locs1 hp hP1 hD1 hS1 => k r n' ad' mem' hp p e s m args below meth c A hC hE H1 locs1 ls hl hP1 hD1 hS1)
/-- .. and what it throws goes on -/
theorem jx_invV {q ci : Nat} {fs : List Value} (hd : decode M.2.1 pc = .ok (.invokevirtual idx, 3)) (F : jq_LV M.1.cls idx M' na) (hF2 : Cond.methodLink M.1.cls idx M'.1 ∈ jq_big) (hCt : jx_Ct l G M' (jx_cd M') d' mc' ms' (.ref (ad q) :: As) n ad mem P' PX') (hq : q < n) (hm : mem q = .inr (ci, fs)) (hci : (vwCl[ci]?).map (fun z => z.1) = some M'.1.cls) (hn : As.length = na) (hst : st = As.reverse ++ .ref (ad q) :: rest) (hw : (rest.map fun v => v.category).sum ≤ 8) (hf : jq_fit R M' d' mc' ms' cells slots) (hm2 : cells + mc' ≤ mc ∧ slots + ms' ≤ ms)
    (kx : ∀ E n' ad' mem', PX' E n' ad' mem' → PX E n' ad' mem')
    (k : ∀ r n' ad' mem', P' r n' ad' mem' → jq_J l G M R (jx_E []) (jx_Ye G P PX mc ms) (pc + 3) L (r.toList ++ rest) n' ad' mem' (cells + mc') (slots + ms')) : jq_J l G M R (jx_E []) (jx_Ye G P PX mc ms) pc L st n ad mem cells slots := by
  refine jx_invVg jx_E_ok hd F hF2 hCt hq hm hci hn hst hw hf ?_ k
  intro p e s m args below meth c A hC hE ls hl E ce q9 n' ad' mem' H1 locs1 hp hP1 hD1 hS1 hce hcv hcl T hT X
  have htab := hE.2.2 m below meth c X.frames X.method X.code
  exact vx_out (by rw [htab]; intro x hx; cases hx) hC.2.2.2.2.2.2.1 hce hcv hcl (fun t ht hv => ⟨⟨n', ad', mem', kx E n' ad' mem' hp, by rw [ht]; exact hP1, hD1⟩, hS1.F ht⟩) hS1.2.2 hm2.1 hm2.2 T hT X
/-- .. and what it throws is caught here -/
def jx_at (tb : List ExceptionTableEntry) (own : String) (pc : Nat) (E : String) (hpc : Nat) : Prop := ∃ (pre : List ExceptionTableEntry) (x : ExceptionTableEntry) (suf : List ExceptionTableEntry) (name : String), tb = pre ++ x :: suf ∧ (∀ z ∈ pre, covers z pc = false ∨ (z.catchType ≠ 0 ∧ ∃ nm : String, Cond.classLink own z.catchType nm ∈ jq_big ∧ (E, nm) ∈ jx_nc)) ∧ (covers x pc = true ∧ x.catchType ≠ 0 ∧ x.handlerPc = hpc) ∧ Cond.classLink own x.catchType name ∈ jq_big ∧ Cond.castable E name ∈ jx_bad
theorem jx_invVc {q ci : Nat} {fs : List Value} (hd : decode M.2.1 pc = .ok (.invokevirtual idx, 3)) (F : jq_LV M.1.cls idx M' na) (hF2 : Cond.methodLink M.1.cls idx M'.1 ∈ jq_big) (hCt : jx_Ct l G M' (jx_cd M') d' mc' ms' (.ref (ad q) :: As) n ad mem P' PX') (hq : q < n) (hm : mem q = .inr (ci, fs)) (hci : (vwCl[ci]?).map (fun z => z.1) = some M'.1.cls) (hn : As.length = na) (hst : st = As.reverse ++ .ref (ad q) :: rest) (hw : (rest.map fun v => v.category).sum ≤ 8) (hf : jq_fit R M' d' mc' ms' cells slots)
    (kx : ∀ E n' ad' mem' q9, PX' E n' ad' mem' → ∃ hpc, jx_at tb M.1.cls pc E hpc ∧ jq_J l G M R (jx_E tb) Y hpc L [.ref q9] n' ad' mem' (cells + mc') (slots + ms'))
    (k : ∀ r n' ad' mem', P' r n' ad' mem' → jq_J l G M R (jx_E tb) Y (pc + 3) L (r.toList ++ rest) n' ad' mem' (cells + mc') (slots + ms')) : jq_J l G M R (jx_E tb) Y pc L st n ad mem cells slots := by
  refine jx_invVg jx_E_ok hd F hF2 hCt hq hm hci hn hst hw hf ?_ k
  intro p e s m args below meth c A hC hE ls hl E ce q9 n' ad' mem' H1 locs1 hp hP1 hD1 hS1 hce hcv hcl T hT X
  have htab := hE.2.2 m below meth c X.frames X.method X.code
  obtain ⟨hpc, ⟨pre, x, suf, name, h1, h2, ⟨h3, h4, h5⟩, h6, h7⟩, kk⟩ := kx E n' ad' mem' q9 hp
  subst h5
  exact vx_catch hC.1.2.2.2 pre x suf (htab.trans h1) (fun z hz => by
    rcases h2 z hz with a | ⟨a, nm, b, c9⟩
    · exact Or.inl a
    · exact Or.inr ⟨a, nm, hC.2.1 _ b, hE.1.2.1 _ c9⟩) h3 h4 (hC.2.1 _ h6) (va_Nw.use (jx_bad_tabs h7) (hE.1.1 _ h7)) hce hcv hcl (kk p e s m args below meth c A hC hE H1 locs1 ls hl hP1 hD1 hS1) T hT X
/-- a static call of a method with handlers, which throws nothing -/
theorem jx_invS {hh : List (Nat × Nat × Nat × Nat)} (hOk : jx_Ok Ex) (hd : decode M.2.1 pc = .ok (.invokestatic idx, 3)) (F1 : Cond.methodLink M.1.cls idx M'.1 ∈ jq_big ∧ Cond.static M'.1 ∈ jq_big ∧ Cond.initialized M'.1.cls ∈ jq_big ∧ jx_cw M' hh ∈ jq_big) (F2 : M'.1.cls ≠ "java/lang/invoke/MethodHandle" ∧ M'.1.cls ≠ "java/lang/invoke/VarHandle" ∧ (parseMethodDescriptor M'.1.desc).map (fun d => d.parameters.length) = some na) (hCt : jx_Ct l G M' (jx_cw M' hh) d' mc' ms' As n ad mem P' (fun _ _ _ _ => False)) (hn : As.length = na) (hst : st = As.reverse ++ rest) (hw : (rest.map fun v => v.category).sum ≤ 8) (hf : jq_fit R M' d' mc' ms' cells slots)
    (k : ∀ r n' ad' mem', P' r n' ad' mem' → jq_J l G M R Ex Y (pc + 3) L (r.toList ++ rest) n' ad' mem' (cells + mc') (slots + ms')) : jq_J l G M R Ex Y pc L st n ad mem cells slots := by
  intro p e s m args below meth c A hC hE H locs ls hl hP hD hS
  obtain ⟨f1, f2, f3, f4⟩ := F1
  obtain ⟨⟨r1, r2⟩, r3⟩ := hf
  obtain ⟨o1, o2⟩ := hOk _ _ _ hE
  have hpre : PreS s H (va_Pc As (jx_Pre G n ad mem H.size)) As := ⟨jx_blind, jx_pre hP hC.2.2.1 hC.2.2.2.1 hD o1 o2 hC.2.2.2.2.1 hS _⟩
  have hG : GoodIn jq_big (va_wsS M.1.cls idx M'.1 (jx_cw M' hh :: jq_big)) := by
    intro w hw
    unfold va_wsS at hw
    rcases List.mem_append.mp hw with h | h
    · simp only [List.mem_cons, List.not_mem_nil, or_false] at h
      rcases h with rfl | rfl | rfl
      all_goals first | exact jq_good _ f1 | exact jq_good _ f2 | exact jq_good _ f3
    · rcases List.mem_cons.mp h with rfl | h
      · exact jq_good _ f4
      · exact jq_good _ h
  have hfin : vx_Run p l e R s m args below meth c H locs cells slots mc' ms' (F0 m pc ls st) rest (jq_Q G P' (va_A (jq_wl n ad mem) H.size) As.toArray) (jx_XC G (fun _ _ _ _ => False) (va_A (jq_wl n ad mem) H.size)) (va_A (jq_wl n ad mem) H.size) :=
    vx_runSX (Ts := jq_big) (own := M.1.cls) (hh := hh) (bytes := M'.2.1) (maxL := M'.2.2.1) (ret := M'.2.2.2) ⟨hC.1.1, hC.1.2.1, hC.1.2.2.1, hC.1.2.2.2, hC.2.1⟩ (hCt H.size) (vx_cwSW na hC.2.1 hG rfl rfl rfl F2 ⟨r1, r2⟩) hpre rfl hn hl.1 hst (lv_room hw) hd r3
  exact jx_back hfin hD hC.2.2.2.2.1 hS (fun E ce q9 n' ad' mem' H1 locs1 hp => hp.elim) (fun r n' ad' mem' H1 locs1 hp hP1 hD1 hS1 => k r n' ad' mem' hp p e s m args below meth c A hC hE H1 locs1 ls hl hP1 hD1 hS1)
end JXR
def jx_nA : String := "java/lang/IllegalArgumentException"
theorem jx_TA : jx_T jx_nA 45 49 := ⟨by decide +kernel, jq_in1 298 (by decide +kernel) rfl, jq_in1 35 (by decide +kernel) rfl, jq_inbig [32, 320, 329, 333, 336, 338, 321, 322, 45, 46, 323, 328, 334, 354, 310, 355, 312, 356, 314, 324, 326, 316, 350, 351, 353, 316, 341, 342, 343, 344, 344, 345, 346, 347, 347, 348, 349, 350, 340, 299, 307, 308, 309, 311, 313, 315, 319, 318, 317] (by decide +kernel) (by decide +kernel), by decide +kernel, by decide +kernel⟩
def jx_nB : String := "java/lang/IndexOutOfBoundsException"
theorem jx_TB : jx_T jx_nB 108 112 := ⟨by decide +kernel, jq_in1 386 (by decide +kernel) rfl, jq_in1 36 (by decide +kernel) rfl, jq_inbig [32, 320, 329, 333, 336, 338, 321, 322, 45, 46, 323, 328, 334, 354, 310, 355, 312, 356, 314, 324, 326, 316, 350, 351, 353, 316, 397, 398, 399, 344, 344, 345, 346, 347, 347, 348, 349, 350, 396, 387, 389, 332, 390, 391, 392, 393, 319, 318, 394] (by decide +kernel) (by decide +kernel), by decide +kernel, by decide +kernel⟩
def jx_nS : String := "java/lang/IllegalStateException"
theorem jx_TS : jx_T jx_nS 191 195 := ⟨by decide +kernel, jq_in1 749 (by decide +kernel) rfl, jq_in1 38 (by decide +kernel) rfl, jq_inbig [32, 320, 329, 333, 336, 338, 321, 322, 45, 46, 323, 328, 334, 354, 310, 355, 312, 356, 314, 324, 326, 316, 350, 351, 353, 316, 760, 761, 762, 344, 344, 345, 346, 347, 347, 348, 349, 350, 759, 750, 752, 331, 753, 754, 755, 756, 319, 318, 757] (by decide +kernel) (by decide +kernel), by decide +kernel, by decide +kernel⟩
