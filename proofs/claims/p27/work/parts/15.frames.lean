/-! what a method leaves alone: rows S and fields F apart, X' is X -/
def xs_fr (S : List Nat) (F : List (Nat × Nat)) (X X' : xs_T) : Prop := (∀ q k, (q, k) ∉ F → X'.1 q k = X.1 q k ∧ X'.2.1 q k = X.2.1 q k) ∧ ∀ q, q ∉ S → X'.2.2.1 q = X.2.2.1 q ∧ X'.2.2.2 q = X.2.2.2 q
theorem xs_fr_rf {S : List Nat} {F : List (Nat × Nat)} {X : xs_T} : xs_fr S F X X := ⟨fun _ _ _ => ⟨rfl, rfl⟩, fun _ _ => ⟨rfl, rfl⟩⟩
theorem xs_fr_tr {S : List Nat} {F : List (Nat × Nat)} {X Y Z : xs_T} (h1 : xs_fr S F X Y) (h2 : xs_fr S F Y Z) : xs_fr S F X Z :=
  ⟨fun q k h => ⟨(h2.1 q k h).1.trans (h1.1 q k h).1, (h2.1 q k h).2.trans (h1.1 q k h).2⟩, fun q h => ⟨(h2.2 q h).1.trans (h1.2 q h).1, (h2.2 q h).2.trans (h1.2 q h).2⟩⟩
theorem xs_fr_mo {S S' : List Nat} {F F' : List (Nat × Nat)} {X Y : xs_T} (h1 : xs_fr S F X Y) (h : (S.all (fun q => decide (q ∈ S')) && F.all (fun q => decide (q ∈ F'))) = true) : xs_fr S' F' X Y := by
  rw [Bool.and_eq_true] at h
  refine ⟨fun q k hq => h1.1 q k (fun z => hq (of_decide_eq_true (List.all_eq_true.mp h.2 _ z))), fun q hq => h1.2 q (fun z => hq (of_decide_eq_true (List.all_eq_true.mp h.1 _ z)))⟩
theorem xs_fr_ai {S : List Nat} {F : List (Nat × Nat)} {X Y : xs_T} {q : Nat} {f : Nat → Int32} (h : xs_fr S F X Y) (hq : q ∈ S) : xs_fr S F X (xs_ai Y q f) :=
  ⟨h.1, fun j hj => ⟨(show va_up Y.2.2.1 q f j = _ by rw [va_up_ne _ _ (fun e => hj (by rw [e]; exact hq))]; exact (h.2 j hj).1), (h.2 j hj).2⟩⟩
theorem xs_fr_al {S : List Nat} {F : List (Nat × Nat)} {X Y : xs_T} {q : Nat} {f : Nat → Int64} (h : xs_fr S F X Y) (hq : q ∈ S) : xs_fr S F X (xs_al Y q f) :=
  ⟨h.1, fun j hj => ⟨(h.2 j hj).1, (show va_up Y.2.2.2 q f j = _ by rw [va_up_ne _ _ (fun e => hj (by rw [e]; exact hq))]; exact (h.2 j hj).2)⟩⟩
theorem xs_fr_si {S : List Nat} {F : List (Nat × Nat)} {X Y : xs_T} {q k : Nat} {v : Int32} (h : xs_fr S F X Y) (hq : (q, k) ∈ F) : xs_fr S F X (xs_si Y q k v) := by
  refine ⟨fun a b hab => ⟨?_, (h.1 a b hab).2⟩, h.2⟩
  show va_up Y.1 q (va_up (Y.1 q) k v) a b = _
  by_cases ha : a = q
  · subst ha
    rw [va_up_self, va_up_ne _ _ (fun e => hab (by rw [e]; exact hq))]
    exact (h.1 a b hab).1
  · rw [va_up_ne _ _ ha]
    exact (h.1 a b hab).1
theorem xs_fr_sl {S : List Nat} {F : List (Nat × Nat)} {X Y : xs_T} {q k : Nat} {v : Int64} (h : xs_fr S F X Y) (hq : (q, k) ∈ F) : xs_fr S F X (xs_sl Y q k v) := by
  refine ⟨fun a b hab => ⟨(h.1 a b hab).1, ?_⟩, h.2⟩
  show va_up Y.2.1 q (va_up (Y.2.1 q) k v) a b = _
  by_cases ha : a = q
  · subst ha
    rw [va_up_self, va_up_ne _ _ (fun e => hab (by rw [e]; exact hq))]
    exact (h.1 a b hab).2
  · rw [va_up_ne _ _ ha]
    exact (h.1 a b hab).2
/-- an int field, a long field, a row: they stay -/
theorem xs_fi {S : List Nat} {F : List (Nat × Nat)} {X Y : xs_T} (h : xs_fr S F X Y) (q k : Nat) {v : Int32} (hv : X.1 q k = v) (hq : decide ((q, k) ∈ F) = false := by decide) : Y.1 q k = v := (h.1 q k (of_decide_eq_false hq)).1.trans hv
theorem xs_fl {S : List Nat} {F : List (Nat × Nat)} {X Y : xs_T} (h : xs_fr S F X Y) (q k : Nat) {v : Int64} (hv : X.2.1 q k = v) (hq : decide ((q, k) ∈ F) = false := by decide) : Y.2.1 q k = v := (h.1 q k (of_decide_eq_false hq)).2.trans hv
theorem xs_fa {S : List Nat} {F : List (Nat × Nat)} {X Y : xs_T} (h : xs_fr S F X Y) (q : Nat) (hq : decide (q ∈ S) = false := by decide) : Y.2.2.1 q = X.2.2.1 q := (h.2 q (of_decide_eq_false hq)).1
theorem xs_fb {S : List Nat} {F : List (Nat × Nat)} {X Y : xs_T} (h : xs_fr S F X Y) (q : Nat) (hq : decide (q ∈ S) = false := by decide) : Y.2.2.2 q = X.2.2.2 q := (h.2 q (of_decide_eq_false hq)).2
theorem xs_ai_at {X : xs_T} {q : Nat} {f : Nat → Int32} : (xs_ai X q f).2.2.1 q = f := va_up_self _ _ _
theorem xs_ai_ne {X : xs_T} {q j : Nat} {f : Nat → Int32} (h : j ≠ q) : (xs_ai X q f).2.2.1 j = X.2.2.1 j := va_up_ne _ _ h
theorem xs_al_at {X : xs_T} {q : Nat} {f : Nat → Int64} : (xs_al X q f).2.2.2 q = f := va_up_self _ _ _
theorem xs_al_ne {X : xs_T} {q j : Nat} {f : Nat → Int64} (h : j ≠ q) : (xs_al X q f).2.2.2 j = X.2.2.2 j := va_up_ne _ _ h
theorem xs_si_at {X : xs_T} {q k : Nat} {v : Int32} : (xs_si X q k v).1 q k = v := by simp [xs_si, va_up]
theorem xs_si_ne {X : xs_T} {q k a b : Nat} {v : Int32} (h : ¬ (a = q ∧ b = k)) : (xs_si X q k v).1 a b = X.1 a b := by
  show va_up X.1 q (va_up (X.1 q) k v) a b = X.1 a b
  by_cases ha : a = q
  · subst ha
    rw [va_up_self, va_up_ne _ _ (fun e => h ⟨rfl, e⟩)]
  · rw [va_up_ne _ _ ha]
theorem xs_sl_at {X : xs_T} {q k : Nat} {v : Int64} : (xs_sl X q k v).2.1 q k = v := by simp [xs_sl, va_up]
theorem xs_sl_ne {X : xs_T} {q k a b : Nat} {v : Int64} (h : ¬ (a = q ∧ b = k)) : (xs_sl X q k v).2.1 a b = X.2.1 a b := by
  show va_up X.2.1 q (va_up (X.2.1 q) k v) a b = X.2.1 a b
  by_cases ha : a = q
  · subst ha
    rw [va_up_self, va_up_ne _ _ (fun e => h ⟨rfl, e⟩)]
  · rw [va_up_ne _ _ ha]
/-- a row's place written: what it holds now, by numbers -/
theorem xs_upd {f g : Nat → Int32} {i : Nat} {v : Int32} (hi : i < 2 ^ 31) (h : ∀ j, j ≠ i → f j = g j) (hv : v = g i) : ∀ j, upd f (nI i).toNatClampNeg v j = g j := by
  intro j
  rw [nI_clamp hi]
  by_cases hj : j = i
  · subst hj; rw [pk_us]; exact hv
  · rw [pk_un hj]; exact h j hj
theorem xs_upd_at {f : Nat → Int32} {i : Nat} {v : Int32} (hi : i < 2 ^ 31) : upd f (nI i).toNatClampNeg v i = v := by rw [nI_clamp hi]; exact pk_us
theorem xs_upd_ne {f : Nat → Int32} {i j : Nat} {v : Int32} (hi : i < 2 ^ 31) (h : j ≠ i) : upd f (nI i).toNatClampNeg v j = f j := by rw [nI_clamp hi]; exact pk_un h
theorem xs_updL_at {f : Nat → Int64} {i : Nat} {v : Int64} (hi : i < 2 ^ 31) : vp_updL f (nI i).toNatClampNeg v i = v := by rw [nI_clamp hi]; exact pk_uLs
theorem xs_updL_ne {f : Nat → Int64} {i j : Nat} {v : Int64} (hi : i < 2 ^ 31) (h : j ≠ i) : vp_updL f (nI i).toNatClampNeg v j = f j := by rw [nI_clamp hi]; exact pk_uLn h
def xs_pv (P : xs_T → Prop) : Option Value → xs_T → Prop := fun r X' => r = none ∧ P X'
def xs_pi (P : Int32 → xs_T → Prop) : Option Value → xs_T → Prop := fun r X' => ∃ v, r = some (.int v) ∧ P v X'
def xs_pl (P : Int64 → xs_T → Prop) : Option Value → xs_T → Prop := fun r X' => ∃ v, r = some (.long v) ∧ P v X'
section JF
variable {l : Launch} {G : jq_G} {M M' : jq_M} {R : Room} {Ex : jq_E} {Y : jq_Y} {pc d d' idx na : Nat} {L : jq_L} {st As rest av : List Value} {n : Nat} {ad : Nat → Nat} {X X2 : xs_T} {cells slots : Nat}
theorem xq_rI {q : Nat} {P : Int32 → xs_T → Prop} (hd : decode M.2.1 pc = .ok (.invokevirtual idx, 3)) (F : jq_LV M.1.cls idx M' na) (hCt : xs_Ct l G M' d' (.ref (ad q) :: As) n ad X (xs_pi P)) (hq : q < n) (hs : xs_k q = 0 ∧ (vwCl[xs_c q]?).map (fun z => z.1) = some M'.1.cls) (hn : As.length = na) (hst : st = As.reverse ++ .ref (ad q) :: rest) (hw : (rest.map fun v => v.category).sum ≤ 8) (hf : xs_fit R M' d' cells slots)
    (k : ∀ v X', P v X' → jq_J l G M R Ex Y (pc + 3) L (.int v :: rest) n ad (xs_mem G ad X') cells slots) : jq_J l G M R Ex Y pc L st n ad (xs_mem G ad X) cells slots :=
  xq_invV hd F hCt hq hs hn hst hw hf (fun r X' h => by obtain ⟨v, rfl, h⟩ := h; exact k v X' h)
theorem xq_rL {q : Nat} {P : Int64 → xs_T → Prop} (hd : decode M.2.1 pc = .ok (.invokevirtual idx, 3)) (F : jq_LV M.1.cls idx M' na) (hCt : xs_Ct l G M' d' (.ref (ad q) :: As) n ad X (xs_pl P)) (hq : q < n) (hs : xs_k q = 0 ∧ (vwCl[xs_c q]?).map (fun z => z.1) = some M'.1.cls) (hn : As.length = na) (hst : st = As.reverse ++ .ref (ad q) :: rest) (hw : (rest.map fun v => v.category).sum ≤ 8) (hf : xs_fit R M' d' cells slots)
    (k : ∀ v X', P v X' → jq_J l G M R Ex Y (pc + 3) L (.long v :: rest) n ad (xs_mem G ad X') cells slots) : jq_J l G M R Ex Y pc L st n ad (xs_mem G ad X) cells slots :=
  xq_invV hd F hCt hq hs hn hst hw hf (fun r X' h => by obtain ⟨v, rfl, h⟩ := h; exact k v X' h)
theorem xq_rV {q : Nat} {P : xs_T → Prop} (hd : decode M.2.1 pc = .ok (.invokevirtual idx, 3)) (F : jq_LV M.1.cls idx M' na) (hCt : xs_Ct l G M' d' (.ref (ad q) :: As) n ad X (xs_pv P)) (hq : q < n) (hs : xs_k q = 0 ∧ (vwCl[xs_c q]?).map (fun z => z.1) = some M'.1.cls) (hn : As.length = na) (hst : st = As.reverse ++ .ref (ad q) :: rest) (hw : (rest.map fun v => v.category).sum ≤ 8) (hf : xs_fit R M' d' cells slots)
    (k : ∀ X', P X' → jq_J l G M R Ex Y (pc + 3) L rest n ad (xs_mem G ad X') cells slots) : jq_J l G M R Ex Y pc L st n ad (xs_mem G ad X) cells slots :=
  xq_invV hd F hCt hq hs hn hst hw hf (fun r X' h => by obtain ⟨rfl, h⟩ := h; exact k X' h)
theorem xq_rSV {P : xs_T → Prop} (hd : decode M.2.1 pc = .ok (.invokestatic idx, 3)) (F : jq_LS M.1.cls idx M' na) (hCt : xs_Ct l G M' d' As n ad X (xs_pv P)) (hn : As.length = na) (hst : st = As.reverse ++ rest) (hw : (rest.map fun v => v.category).sum ≤ 8) (hf : xs_fit R M' d' cells slots)
    (k : ∀ X', P X' → jq_J l G M R Ex Y (pc + 3) L rest n ad (xs_mem G ad X') cells slots) : jq_J l G M R Ex Y pc L st n ad (xs_mem G ad X) cells slots :=
  xq_invS hd F hCt hn hst hw hf (fun r X' h => by obtain ⟨rfl, h⟩ := h; exact k X' h)
theorem xs_nm {v v' : Int32} (h : v = v') (k : jq_J l G M R Ex Y pc L (.int v' :: st) n ad (xs_mem G ad X) cells slots) : jq_J l G M R Ex Y pc L (.int v :: st) n ad (xs_mem G ad X) cells slots := h ▸ k
end JF
/-! lists of truths -/
theorem tb_allT {p : Nat → Bool} {n : Nat} (h : ∀ c, c < n → p c = true) : (List.range n).all p = true := List.all_eq_true.mpr (fun c hc => h c (List.mem_range.mp hc))
theorem tb_allF {p : Nat → Bool} {n c : Nat} (hc : c < n) (h : p c = false) : (List.range n).all p = false := by
  rw [Bool.eq_false_iff]
  intro q
  have := List.all_eq_true.mp q c (List.mem_range.mpr hc)
  rw [h] at this
  cases this
theorem tb_allI {p : Nat → Bool} {n : Nat} : (List.range n).all p = true ↔ ∀ c, c < n → p c = true := ⟨fun h c hc => List.all_eq_true.mp h c (List.mem_range.mpr hc), tb_allT⟩
theorem tb_anyT {p : Nat → Bool} {n c : Nat} (hc : c < n) (h : p c = true) : (List.range n).any p = true := List.any_eq_true.mpr ⟨c, List.mem_range.mpr hc, h⟩
theorem tb_anyF {p : Nat → Bool} {n : Nat} (h : ∀ c, c < n → p c = false) : (List.range n).any p = false := by
  rw [Bool.eq_false_iff]
  intro q
  obtain ⟨c, h1, h2⟩ := List.any_eq_true.mp q
  rw [h c (List.mem_range.mp h1)] at h2
  cases h2
