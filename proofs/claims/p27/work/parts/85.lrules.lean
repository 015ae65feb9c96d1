/-! rules that the law's helpers want: shifts, a world cut down, contracts that make rows and leave them behind, calls from a method that calls what throws -/
section JL
variable {l : Launch} {G : jq_G} {M M' : jq_M} {R : Room} {Ex : jq_E} {Y : jq_Y} {pc : Nat} {L : jq_L} {st : List Value} {n : Nat} {ad : Nat → Nat} {mem : Nat → va_E} {cells slots : Nat}
theorem jq_iushr {x y v : Int32} (hd : decode M.2.1 pc = .ok (.iushr, 1)) (hv : (x.toUInt32 >>> (y.toUInt32 &&& Int32.toUInt32 31)).toInt32 = v) (k : jq_J l G M R Ex Y (pc + 1) L (.int v :: st) n ad mem cells slots) : jq_J l G M R Ex Y pc L (.int y :: .int x :: st) n ad mem cells slots :=
  fun p e s m args below meth c A hC hE H locs ls hl hP hD hS => lv_iushr hC.1.1 hC.1.2.1 hd hv (k p e s m args below meth c A hC hE H locs ls hl hP hD hS)
theorem jq_lmul {x y : Int64} (hd : decode M.2.1 pc = .ok (.lmul, 1)) (k : jq_J l G M R Ex Y (pc + 1) L (.long (x * y) :: st) n ad mem cells slots) : jq_J l G M R Ex Y pc L (.long y :: .long x :: st) n ad mem cells slots :=
  fun p e s m args below meth c A hC hE H locs ls hl hP hD hS => lv_lmul hC.1.1 hC.1.2.1 hd (k p e s m args below meth c A hC hE H locs ls hl hP hD hS)
theorem jq_ineg {x : Int32} (hd : decode M.2.1 pc = .ok (.ineg, 1)) (k : jq_J l G M R Ex Y (pc + 1) L (.int (-x) :: st) n ad mem cells slots) : jq_J l G M R Ex Y pc L (.int x :: st) n ad mem cells slots :=
  fun p e s m args below meth c A hC hE H locs ls hl hP hD hS => lv_ineg hC.1.1 hC.1.2.1 hd (k p e s m args below meth c A hC hE H locs ls hl hP hD hS)
/-- another world out of this one's places -/
theorem jq_rew {n' : Nat} {ad' : Nat → Nat} {mem' : Nat → va_E} (g : Nat → Nat) (hg : ∀ k, k < n' → g k < n ∧ ad (g k) = ad' k ∧ mem (g k) = mem' k) (hi : ∀ i j, i < n' → j < n' → g i = g j → i = j) (k : jq_J l G M R Ex Y pc L st n' ad' mem' cells slots) : jq_J l G M R Ex Y pc L st n ad mem cells slots := by
  intro p e s m args below meth c A hC hE H locs ls hl hP hD hS
  have hh : ∀ (k : Nat) (q : Nat × va_E), (jq_wl n' ad' mem')[k]? = some q → (jq_wl n ad mem)[g k]? = some q := by
    intro k q hk
    rcases Nat.lt_or_ge k n' with z | z
    · obtain ⟨h1, h2, h3⟩ := hg k z
      rw [jq_wl_get z] at hk
      rw [jq_wl_get h1, h2, h3]
      exact hk
    · rw [jq_wl_out z] at hk
      cases hk
  exact k p e s m args below meth c A hC hE H locs ls hl (hP.by g hh) (hD.by g hh (fun i j h1 h2 => hi i j (by rw [jq_wl_len] at h1; exact h1) (by rw [jq_wl_len] at h2; exact h2))) hS
end JL
theorem xs_fok (q : Nat) : (List.range (xs_nf q)).all (fun k => Nat.blt (xs_f q k) (21 + 2)) = true := by
  rcases Nat.lt_or_ge q 21 with h | h
  · exact (show ∀ q, q < 21 → (List.range (xs_nf q)).all (fun k => Nat.blt (xs_f q k) (21 + 2)) = true by decide) q h
  · have e : xs_nf q = 0 := by
      unfold xs_nf
      rw [List.getD_eq_getElem?_getD, List.getElem?_eq_none (by simpa using h)]
      rfl
    rw [e]
    rfl
theorem xs_ad {G : jq_G} {ad ad' : Nat → Nat} {X : xs_T} {n : Nat} (hn : 21 ≤ n) (h : ∀ t, t < n → ad' t = ad t) (q : Nat) : xs_mem G ad' X q = xs_mem G ad X q := xs_mem_ad (b := 21) (fun t ht => h t (Nat.lt_of_lt_of_le ht hn)) (xs_fok q)
/-- a row made at the place n -/
def xs_nw (X : xs_T) (n N : Nat) : xs_T := xs_si (xs_ai X n (fun _ => 0)) n 0 (nI N)
theorem xs_nw_at {X : xs_T} {n N : Nat} : (xs_nw X n N).1 n 0 = nI N := xs_si_at
theorem xs_nw_row {X : xs_T} {n N : Nat} : (xs_nw X n N).2.2.1 n = fun _ => 0 := xs_ai_at
theorem xs_nw_fr {X : xs_T} {n N : Nat} : xs_fr [n] [(n, 0)] X (xs_nw X n N) := xs_fr_si (xs_fr_ai xs_fr_rf (by simp)) (by simp)
/-- a contract that makes rows and leaves them behind -/
def xm_Ct (l : Launch) (G : jq_G) (M : jq_M) (d mc ms : Nat) (av : List Value) (n : Nat) (ad : Nat → Nat) (X : xs_T) (Pr : Option Value → xs_T → Prop) : Prop :=
  jq_Ct l G M d mc ms av n ad (xs_mem G ad X) (fun r n' ad' mem' => n' = n ∧ ad' = ad ∧ ∃ X', mem' = xs_mem G ad X' ∧ Pr r X')
def xm_Ye (G : jq_G) (n : Nat) (ad : Nat → Nat) (Pr : Option Value → xs_T → Prop) (mc ms : Nat) : jq_Y := jq_Ye G (fun r n' ad' mem' => n' = n ∧ ad' = ad ∧ ∃ X', mem' = xs_mem G ad X' ∧ Pr r X') mc ms
/-- .. and calls what may throw, but throws nothing -/
def xj_Ct (l : Launch) (G : jq_G) (M : jq_M) (d mc ms : Nat) (av : List Value) (n : Nat) (ad : Nat → Nat) (X : xs_T) (Pr : Option Value → xs_T → Prop) : Prop :=
  jx_Ct l G M (jx_cd M) d mc ms av n ad (xs_mem G ad X) (fun r n' ad' mem' => n' = n ∧ ad' = ad ∧ ∃ X', mem' = xs_mem G ad X' ∧ Pr r X') (fun _ _ _ _ => False)
def xj_Ye (G : jq_G) (n : Nat) (ad : Nat → Nat) (Pr : Option Value → xs_T → Prop) (mc ms : Nat) : jq_Y := jx_Ye G (fun r n' ad' mem' => n' = n ∧ ad' = ad ∧ ∃ X', mem' = xs_mem G ad X' ∧ Pr r X') (fun _ _ _ _ => False) mc ms
section JM
variable {l : Launch} {G : jq_G} {M M' : jq_M} {R : Room} {Ex : jq_E} {Y : jq_Y} {pc d d' idx na mc ms mc' ms' : Nat} {L : jq_L} {st As rest av : List Value} {n n2 : Nat} {ad ad2 : Nat → Nat} {X : xs_T} {cells slots : Nat} {Pr Pr' : Option Value → xs_T → Prop}
theorem xm_Ct_of (hy : plainName M.1.cls = true) (hlen : (lg_sl av).length ≤ M.2.2.1) (hL : jq_ent av ++ List.replicate (M.2.2.1 - (jq_ent av).length) none = L)
    (k : jq_J l G M (jq_R d mc ms) jq_E0 (xm_Ye G n ad Pr mc ms) 0 L [] n ad (xs_mem G ad X) 0 0) : xm_Ct l G M d mc ms av n ad X Pr := jq_Ct_of hy hlen hL k
theorem xj_Ct_of (hy : plainName M.1.cls = true) (hlen : (lg_sl av).length ≤ M.2.2.1) (hL : jq_ent av ++ List.replicate (M.2.2.1 - (jq_ent av).length) none = L)
    (k : jq_J l G M (jq_R d mc ms) (jx_E []) (xj_Ye G n ad Pr mc ms) 0 L [] n ad (xs_mem G ad X) 0 0) : xj_Ct l G M d mc ms av n ad X Pr := jx_Ct_of hy hlen hL k
theorem xm_cut (hn : n ≤ n2) (h21 : 21 ≤ n) (ha : ∀ k, k < n → ad2 k = ad k) (k : jq_J l G M R Ex Y pc L st n ad (xs_mem G ad X) cells slots) : jq_J l G M R Ex Y pc L st n2 ad2 (xs_mem G ad2 X) cells slots :=
  jq_rew (fun k => k) (fun k hk => ⟨Nat.lt_of_lt_of_le hk hn, ha k hk, xs_ad h21 ha k⟩) (fun _ _ _ _ e => e) k
theorem xm_ireturn {v : Int32} {ty : FieldType} (hd : decode M.2.1 pc = .ok (.ireturn, 1)) (hr : M.2.2.2 = some ty) (hty : narrow ty (.int v) = .int v) (hc : cells ≤ mc ∧ slots ≤ ms) (hn : n ≤ n2) (h21 : 21 ≤ n) (ha : ∀ k, k < n → ad2 k = ad k) (k : Pr (some (.int v)) X) : jq_J l G M R Ex (xm_Ye G n ad Pr mc ms) pc L [.int v] n2 ad2 (xs_mem G ad2 X) cells slots :=
  xm_cut hn h21 ha (jq_ireturn hd hr hty hc.1 hc.2 ⟨rfl, rfl, X, rfl, k⟩)
theorem xm_lreturn {v : Int64} (hd : decode M.2.1 pc = .ok (.lreturn, 1)) (hr : M.2.2.2 = some .long) (hc : cells ≤ mc ∧ slots ≤ ms) (hn : n ≤ n2) (h21 : 21 ≤ n) (ha : ∀ k, k < n → ad2 k = ad k) (k : Pr (some (.long v)) X) : jq_J l G M R Ex (xm_Ye G n ad Pr mc ms) pc L [.long v] n2 ad2 (xs_mem G ad2 X) cells slots :=
  xm_cut hn h21 ha (jq_lreturn hd hr hc.1 hc.2 ⟨rfl, rfl, X, rfl, k⟩)
theorem xm_return (hst : st = []) (hd : decode M.2.1 pc = .ok (.return_, 1)) (hr : M.2.2.2 = none) (hc : cells ≤ mc ∧ slots ≤ ms) (hn : n ≤ n2) (h21 : 21 ≤ n) (ha : ∀ k, k < n → ad2 k = ad k) (k : Pr none X) : jq_J l G M R Ex (xm_Ye G n ad Pr mc ms) pc L st n2 ad2 (xs_mem G ad2 X) cells slots :=
  xm_cut hn h21 ha (jq_return hst hd hr hc.1 hc.2 ⟨rfl, rfl, X, rfl, k⟩)
theorem xj_ireturn {v : Int32} {ty : FieldType} (hd : decode M.2.1 pc = .ok (.ireturn, 1)) (hr : M.2.2.2 = some ty) (hty : narrow ty (.int v) = .int v) (hc : cells ≤ mc ∧ slots ≤ ms) (hn : n ≤ n2) (h21 : 21 ≤ n) (ha : ∀ k, k < n → ad2 k = ad k) (k : Pr (some (.int v)) X) : jq_J l G M R Ex (xj_Ye G n ad Pr mc ms) pc L [.int v] n2 ad2 (xs_mem G ad2 X) cells slots :=
  xm_cut hn h21 ha (jx_ret (jq_ireturn hd hr hty hc.1 hc.2 ⟨rfl, rfl, X, rfl, k⟩))
theorem xm_newI {N : Nat} (hd : decode M.2.1 pc = .ok (.newarray .int, 2)) (h21 : 21 ≤ n) (hN : N < 1000) (h1 : cells + 1 ≤ R.cells ∧ slots + N ≤ R.slots)
    (k : ∀ ad', (∀ j, j < n → ad' j = ad j) → jq_J l G M R Ex Y (pc + 2) L (.ref (ad' n) :: st) (n + 1) ad' (xs_mem G ad' (xs_nw X n N)) (cells + 1) (slots + N)) : jq_J l G M R Ex Y pc L (.int (nI N) :: st) n ad (xs_mem G ad X) cells slots := by
  have hN2 : N < 2 ^ 31 := Nat.lt_trans hN (by decide)
  refine jq_newI (N := N) hd (nI_pos hN2) (nI_clamp hN2) (Nat.le_trans (Nat.mul_le_mul_right _ (Nat.le_of_lt hN)) (by decide)) h1.1 h1.2 (fun q => ?_)
  have ha : ∀ j, j < n → va_up ad n q j = ad j := fun j hj => va_up_ne _ _ (Nat.ne_of_lt hj)
  have kk := k (va_up ad n q) ha
  rw [va_up_self] at kk
  refine jq_rew (fun k => k) (fun k hk => ⟨hk, rfl, ?_⟩) (fun _ _ _ _ e => e) kk
  show va_up (xs_mem G ad X) n _ k = _
  rw [xs_ad h21 ha k]
  by_cases hkn : k = n
  · subst hkn
    rw [va_up_self, xs_m4 (xs_k4 h21), xs_nw_at, xs_nw_row, nI_clamp hN2]
  · rw [va_up_ne _ _ hkn]
    apply xs_mem_congr
    · show X.1 k = va_up X.1 n _ k
      rw [va_up_ne _ _ hkn]
    · rfl
    · show X.2.2.1 k = va_up X.2.2.1 n _ k
      rw [va_up_ne _ _ hkn]
    · rfl
theorem xm_invS (hd : decode M.2.1 pc = .ok (.invokestatic idx, 3)) (F : jq_LS M.1.cls idx M' na) (hCt : xm_Ct l G M' d' mc' ms' As n ad X Pr') (hn : As.length = na) (hst : st = As.reverse ++ rest) (hw : (rest.map fun v => v.category).sum ≤ 8) (hf : jq_fit R M' d' mc' ms' cells slots)
    (k : ∀ r X', Pr' r X' → jq_J l G M R Ex Y (pc + 3) L (r.toList ++ rest) n ad (xs_mem G ad X') (cells + mc') (slots + ms')) : jq_J l G M R Ex Y pc L st n ad (xs_mem G ad X) cells slots :=
  jq_invS hd F hCt hn hst hw hf (fun r n' ad' mem' h => by obtain ⟨rfl, rfl, X', rfl, h⟩ := h; exact k r X' h)
theorem xm_sV (hd : decode M.2.1 pc = .ok (.invokestatic idx, 3)) (F : jq_LS M.1.cls idx M' na) {P : xs_T → Prop} (hCt : xm_Ct l G M' d' mc' ms' As n ad X (xs_pv P)) (hn : As.length = na) (hst : st = As.reverse ++ rest) (hw : (rest.map fun v => v.category).sum ≤ 8) (hf : jq_fit R M' d' mc' ms' cells slots)
    (k : ∀ X', P X' → jq_J l G M R Ex Y (pc + 3) L rest n ad (xs_mem G ad X') (cells + mc') (slots + ms')) : jq_J l G M R Ex Y pc L st n ad (xs_mem G ad X) cells slots :=
  xm_invS hd F hCt hn hst hw hf (fun r X' h => by obtain ⟨rfl, h⟩ := h; exact k X' h)
theorem xm_sI (hd : decode M.2.1 pc = .ok (.invokestatic idx, 3)) (F : jq_LS M.1.cls idx M' na) {P : Int32 → xs_T → Prop} (hCt : xm_Ct l G M' d' mc' ms' As n ad X (xs_pi P)) (hn : As.length = na) (hst : st = As.reverse ++ rest) (hw : (rest.map fun v => v.category).sum ≤ 8) (hf : jq_fit R M' d' mc' ms' cells slots)
    (k : ∀ v X', P v X' → jq_J l G M R Ex Y (pc + 3) L (.int v :: rest) n ad (xs_mem G ad X') (cells + mc') (slots + ms')) : jq_J l G M R Ex Y pc L st n ad (xs_mem G ad X) cells slots :=
  xm_invS hd F hCt hn hst hw hf (fun r X' h => by obtain ⟨v, rfl, h⟩ := h; exact k v X' h)
theorem xm_sL (hd : decode M.2.1 pc = .ok (.invokestatic idx, 3)) (F : jq_LS M.1.cls idx M' na) {P : Int64 → xs_T → Prop} (hCt : xm_Ct l G M' d' mc' ms' As n ad X (xs_pl P)) (hn : As.length = na) (hst : st = As.reverse ++ rest) (hw : (rest.map fun v => v.category).sum ≤ 8) (hf : jq_fit R M' d' mc' ms' cells slots)
    (k : ∀ v X', P v X' → jq_J l G M R Ex Y (pc + 3) L (.long v :: rest) n ad (xs_mem G ad X') (cells + mc') (slots + ms')) : jq_J l G M R Ex Y pc L st n ad (xs_mem G ad X) cells slots :=
  xm_invS hd F hCt hn hst hw hf (fun r X' h => by obtain ⟨v, rfl, h⟩ := h; exact k v X' h)
/-- a static call of a method that calls what may throw -/
theorem xj_invS (hOk : jx_Ok Ex) (hd : decode M.2.1 pc = .ok (.invokestatic idx, 3)) (F : jq_LS M.1.cls idx M' na) (hF2 : Cond.methodLink M.1.cls idx M'.1 ∈ jq_big) (hCt : xj_Ct l G M' d' mc' ms' As n ad X Pr') (hn : As.length = na) (hst : st = As.reverse ++ rest) (hw : (rest.map fun v => v.category).sum ≤ 8) (hf : jq_fit R M' d' mc' ms' cells slots)
    (k : ∀ r X', Pr' r X' → jq_J l G M R Ex Y (pc + 3) L (r.toList ++ rest) n ad (xs_mem G ad X') (cells + mc') (slots + ms')) : jq_J l G M R Ex Y pc L st n ad (xs_mem G ad X) cells slots := by
  intro p e s m args below meth c A hC hE H locs ls hl hP hD hS
  obtain ⟨⟨f1, f2, f3, f4⟩, f5⟩ := F
  obtain ⟨⟨r1, r2⟩, r3⟩ := hf
  obtain ⟨o1, o2⟩ := hOk _ _ _ hE
  have hpre : PreS s H (va_Pc As (jx_Pre G n ad (xs_mem G ad X) H.size)) As := ⟨jx_blind, jx_pre hP hC.2.2.1 hC.2.2.2.1 hD o1 o2 hC.2.2.2.2.1 hS _⟩
  have hfin : vx_Run p l e R s m args below meth c H locs cells slots mc' ms' (F0 m pc ls st) rest (jq_Q G (fun r n' ad' mem' => n' = n ∧ ad' = ad ∧ ∃ X', mem' = xs_mem G ad X' ∧ Pr' r X') (va_A (jq_wl n ad (xs_mem G ad X)) H.size) As.toArray) (jx_XC G (fun _ _ _ _ => False) (va_A (jq_wl n ad (xs_mem G ad X)) H.size)) (va_A (jq_wl n ad (xs_mem G ad X)) H.size) := vx_runS (Ts := jq_big) (own := M.1.cls) ⟨hC.1.1, hC.1.2.1, hC.1.2.2.1, hC.1.2.2.2, hC.2.1⟩ (hCt H.size) ⟨callB_of na hC.2.1 (jq_wsG f2) rfl rfl rfl (hC.2.1 _ f1) (hC.2.1 _ hF2) f3 ⟨r1, r2⟩, hC.2.1 _ f5⟩ hpre rfl hn hl.1 hst (lv_room hw) hd r3
  exact jx_back hfin hD hC.2.2.2.2.1 hS (fun E ce q9 n' ad' mem' H1 locs1 hp => hp.elim) (fun r n' ad' mem' H1 locs1 hp hP1 hD1 hS1 => by
    obtain ⟨rfl, rfl, X', rfl, hp⟩ := hp
    exact k r X' hp p e s m args below meth c A hC hE H1 locs1 ls hl hP1 hD1 hS1)
end JM
/-! numbers under shifts -/
theorem lr_shl {a k : Nat} (hk : k < 32) : nI a <<< (nI k &&& 31) = nI (a * 2 ^ k) := by
  have h1 : nI k &&& 31 = nI k := by
    have := fa_mask k 5
    rw [Nat.mod_eq_of_lt (by omega)] at this
    exact this
  rw [h1]
  apply Int32.toBitVec_inj.mp
  rw [Int32.toBitVec_shiftLeft]
  show BitVec.ofNat 32 a <<< ((BitVec.ofNat 32 k).smod 32) = BitVec.ofNat 32 (a * 2 ^ k)
  have h2 : (BitVec.ofNat 32 k).smod 32 = BitVec.ofNat 32 k := (show ∀ k, k < 32 → (BitVec.ofNat 32 k).smod 32 = BitVec.ofNat 32 k by decide +kernel) k hk
  rw [h2]
  apply BitVec.eq_of_toNat_eq
  rw [BitVec.shiftLeft_eq', BitVec.toNat_shiftLeft, BitVec.toNat_ofNat, BitVec.toNat_ofNat, BitVec.toNat_ofNat, Nat.mod_eq_of_lt (show k < 2 ^ 32 by omega), Nat.shiftLeft_eq, Nat.mod_mul_mod]
theorem lr_shr {a k : Nat} (ha : a < 2 ^ 31) (hk : k < 32) : nI a >>> (nI k &&& 31) = nI (a / 2 ^ k) := by
  have h1 : nI k &&& 31 = nI k := by
    have := fa_mask k 5
    rw [Nat.mod_eq_of_lt (by omega)] at this
    exact this
  rw [h1]
  apply Int32.toBitVec_inj.mp
  rw [Int32.toBitVec_shiftRight]
  show (BitVec.ofNat 32 a).sshiftRight' ((BitVec.ofNat 32 k).smod 32) = BitVec.ofNat 32 (a / 2 ^ k)
  have h2 : (BitVec.ofNat 32 k).smod 32 = BitVec.ofNat 32 k := (show ∀ k, k < 32 → (BitVec.ofNat 32 k).smod 32 = BitVec.ofNat 32 k by decide +kernel) k hk
  have h3 : (BitVec.ofNat 32 a).toNat = a := by rw [BitVec.toNat_ofNat, Nat.mod_eq_of_lt (by omega)]
  have h4 : (BitVec.ofNat 32 k).toNat = k := by rw [BitVec.toNat_ofNat, Nat.mod_eq_of_lt (by omega)]
  have h5 : (BitVec.ofNat 32 a).msb = false := by
    rw [BitVec.msb_eq_false_iff_two_mul_lt, h3]
    omega
  rw [h2, BitVec.sshiftRight_eq', h4, BitVec.sshiftRight_eq_of_msb_false h5]
  apply BitVec.eq_of_toNat_eq
  rw [BitVec.toNat_ushiftRight, h3, BitVec.toNat_ofNat, Nat.shiftRight_eq_div_pow, Nat.mod_eq_of_lt (Nat.lt_of_le_of_lt (Nat.div_le_self _ _) (by omega))]
theorem lr_bit {a k : Nat} : nI (a / 2 ^ k) &&& 1 = nI (if a.testBit k = true then 1 else 0) := by
  have h := fa_mask (a / 2 ^ k) 1
  rw [show ((1 : Int32)) = nI (2 ^ 1 - 1) from rfl, h]
  congr 1
  rw [Nat.testBit_eq_decide_div_mod_eq]
  have : a / 2 ^ k % 2 < 2 := Nat.mod_lt _ (by decide)
  by_cases q : a / 2 ^ k % 2 = 1
  · simp [q]
  · simp [q]; omega
theorem lr_v0 : vp_in (nI 0) 2 := vp_inN (by decide) (by decide)
theorem lr_v1 : vp_in (nI 1) 2 := vp_inN (by decide) (by decide)
