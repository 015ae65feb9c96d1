/-! THE WORLD as one record X: ints of objects, longs of objects, rows of ints (and booleans), rows of longs, all by place; kinds, lengths and fields of the places are fixed -/
abbrev xs_T : Type := (Nat → Nat → Int32) × (Nat → Nat → Int64) × (Nat → Nat → Int32) × (Nat → Nat → Int64)
def xs_k (q : Nat) : Nat := ([0, 0, 1, 2, 2, 1, 1, 1, 1, 1, 2, 0, 0, 1, 1, 2, 0, 1, 1, 0, 2] : List Nat).getD q 4
def xs_n (q : Nat) : Nat := ([0, 0, 16, 17, 25, 40, 40, 40, 40, 16, 16, 0, 0, 17, 17, 8, 0, 40, 40, 0, 9349] : List Nat).getD q 0
def xs_c (q : Nat) : Nat := ([5, 0, 0, 0, 0, 0, 0, 0, 0, 0, 0, 4, 1, 0, 0, 0, 2, 0, 0, 3, 0] : List Nat).getD q 0
def xs_nf (q : Nat) : Nat := ([6, 16, 0, 0, 0, 0, 0, 0, 0, 0, 0, 7, 4, 0, 0, 0, 8, 0, 0, 4, 0] : List Nat).getD q 0
def xs_f (q k : Nat) : Nat := (([[3, 13, 18, 21, 1, 1], [4, 5, 6, 7, 8, 9, 10, 11, 12, 0, 0, 0, 0, 0, 0, 1], [], [], [], [], [], [], [], [], [], [3, 14, 17, 1, 1, 1, 1], [15, 16, 0, 0], [], [], [], [3, 13, 19, 20, 1, 1, 0, 0], [], [], [3, 22, 0, 0], []] : List (List Nat)).getD q []).getD k 0
def xs_fv (ad : Nat → Nat) (X : xs_T) (q k : Nat) : Value := match xs_f q k with
  | 0 => .int (X.1 q k)
  | 1 => .long (X.2.1 q k)
  | t + 2 => .ref (ad t)
def xs_fs (ad : Nat → Nat) (X : xs_T) (q : Nat) : List Value := (List.range (xs_nf q)).map (xs_fv ad X q)
def xs_mem (G : jq_G) (ad : Nat → Nat) (X : xs_T) (q : Nat) : va_E :=
  if xs_k q = 1 then .inl (G.2.1, xs_n q, .inl (X.2.2.1 q)) else if xs_k q = 2 then .inl (G.2.2.1, xs_n q, .inr (.inl (X.2.2.2 q))) else if xs_k q = 3 then .inl (G.2.2.2, xs_n q, .inl (X.2.2.1 q)) else if xs_k q = 4 then .inl (G.2.1, (X.1 q 0).toNatClampNeg, .inl (X.2.2.1 q)) else .inr (xs_c q, xs_fs ad X q)
def xs_si (X : xs_T) (q k : Nat) (v : Int32) : xs_T := (va_up X.1 q (va_up (X.1 q) k v), X.2)
def xs_sl (X : xs_T) (q k : Nat) (v : Int64) : xs_T := (X.1, va_up X.2.1 q (va_up (X.2.1 q) k v), X.2.2)
def xs_ai (X : xs_T) (q : Nat) (f : Nat → Int32) : xs_T := (X.1, X.2.1, va_up X.2.2.1 q f, X.2.2.2)
def xs_al (X : xs_T) (q : Nat) (f : Nat → Int64) : xs_T := (X.1, X.2.1, X.2.2.1, va_up X.2.2.2 q f)
theorem xs_m1 {G : jq_G} {ad : Nat → Nat} {X : xs_T} {q : Nat} (h : xs_k q = 1) : xs_mem G ad X q = .inl (G.2.1, xs_n q, .inl (X.2.2.1 q)) := by simp [xs_mem, h]
theorem xs_m2 {G : jq_G} {ad : Nat → Nat} {X : xs_T} {q : Nat} (h : xs_k q = 2) : xs_mem G ad X q = .inl (G.2.2.1, xs_n q, .inr (.inl (X.2.2.2 q))) := by simp [xs_mem, h]
theorem xs_m3 {G : jq_G} {ad : Nat → Nat} {X : xs_T} {q : Nat} (h : xs_k q = 3) : xs_mem G ad X q = .inl (G.2.2.2, xs_n q, .inl (X.2.2.1 q)) := by simp [xs_mem, h]
theorem xs_m0 {G : jq_G} {ad : Nat → Nat} {X : xs_T} {q : Nat} (h : xs_k q = 0) : xs_mem G ad X q = .inr (xs_c q, xs_fs ad X q) := by simp [xs_mem, h]
theorem xs_fs_at {ad : Nat → Nat} {X : xs_T} {q k : Nat} (h : k < xs_nf q) : (xs_fs ad X q)[k]? = some (xs_fv ad X q k) := by
  simp [xs_fs, List.getElem?_map, List.getElem?_range h]
theorem xs_fs_set {ad : Nat → Nat} {X X' : xs_T} {q k : Nat} {v : Value} (h : k < xs_nf q) (h1 : xs_fv ad X' q k = v) (h2 : ∀ j, j ≠ k → xs_fv ad X' q j = xs_fv ad X q j) : (xs_fs ad X q).set k v = xs_fs ad X' q := by
  apply List.ext_getElem?
  intro i
  rcases Nat.lt_or_ge i (xs_nf q) with hi | hi
  · by_cases hk : i = k
    · subst hk
      rw [List.getElem?_set_self (by simp [xs_fs]; exact h), xs_fs_at h, h1]
    · rw [List.getElem?_set_ne (Ne.symm hk), xs_fs_at hi, xs_fs_at hi, h2 i hk]
  · rw [List.getElem?_eq_none (by rw [List.length_set]; simpa [xs_fs] using hi), List.getElem?_eq_none (by simpa [xs_fs] using hi)]
theorem xs_fv_congr {ad : Nat → Nat} {X X' : xs_T} {q k : Nat} (h1 : X.1 q k = X'.1 q k) (h2 : X.2.1 q k = X'.2.1 q k) : xs_fv ad X q k = xs_fv ad X' q k := by
  unfold xs_fv
  cases xs_f q k with
  | zero => dsimp only; rw [h1]
  | succ t => cases t with
    | zero => dsimp only; rw [h2]
    | succ t => rfl
theorem xs_fs_congr {ad : Nat → Nat} {X X' : xs_T} {q : Nat} (h1 : X.1 q = X'.1 q) (h2 : X.2.1 q = X'.2.1 q) : xs_fs ad X q = xs_fs ad X' q := by
  unfold xs_fs
  apply List.map_congr_left
  intro k _
  exact xs_fv_congr (by rw [h1]) (by rw [h2])
theorem xs_mem_congr {G : jq_G} {ad : Nat → Nat} {X X' : xs_T} {q : Nat} (h1 : X.1 q = X'.1 q) (h2 : X.2.1 q = X'.2.1 q) (h3 : X.2.2.1 q = X'.2.2.1 q) (h4 : X.2.2.2 q = X'.2.2.2 q) : xs_mem G ad X q = xs_mem G ad X' q := by
  unfold xs_mem
  rw [h1, h3, h4, xs_fs_congr h1 h2]
theorem xs_m4 {G : jq_G} {ad : Nat → Nat} {X : xs_T} {q : Nat} (h : xs_k q = 4) : xs_mem G ad X q = .inl (G.2.1, (X.1 q 0).toNatClampNeg, .inl (X.2.2.1 q)) := by simp [xs_mem, h]
theorem xs_k4 {q : Nat} (h : 21 ≤ q) : xs_k q = 4 := by
  unfold xs_k
  rw [List.getD_eq_getElem?_getD, List.getElem?_eq_none (by simpa using h)]
  rfl
theorem xs_up {G : jq_G} {ad : Nat → Nat} {X X' : xs_T} {q : Nat} {e : va_E} (he : xs_mem G ad X' q = e) (h : ∀ j, j ≠ q → X.1 j = X'.1 j ∧ X.2.1 j = X'.2.1 j ∧ X.2.2.1 j = X'.2.2.1 j ∧ X.2.2.2 j = X'.2.2.2 j) : va_up (xs_mem G ad X) q e = xs_mem G ad X' := by
  funext j
  by_cases hj : j = q
  · subst hj; rw [va_up_self, he]
  · rw [va_up_ne _ _ hj]
    obtain ⟨h1, h2, h3, h4⟩ := h j hj
    exact xs_mem_congr h1 h2 h3 h4
theorem xs_up_ai {G : jq_G} {ad : Nat → Nat} {X : xs_T} {q : Nat} (h : xs_k q = 1) (f : Nat → Int32) : va_up (xs_mem G ad X) q (.inl (G.2.1, xs_n q, .inl f)) = xs_mem G ad (xs_ai X q f) :=
  xs_up (by rw [xs_m1 h]; simp [xs_ai, va_up]) (fun j hj => ⟨rfl, rfl, by simp [xs_ai, va_up, hj], rfl⟩)
theorem xs_up_az {G : jq_G} {ad : Nat → Nat} {X : xs_T} {q : Nat} (h : xs_k q = 3) (f : Nat → Int32) : va_up (xs_mem G ad X) q (.inl (G.2.2.2, xs_n q, .inl f)) = xs_mem G ad (xs_ai X q f) :=
  xs_up (by rw [xs_m3 h]; simp [xs_ai, va_up]) (fun j hj => ⟨rfl, rfl, by simp [xs_ai, va_up, hj], rfl⟩)
theorem xs_up_a4 {G : jq_G} {ad : Nat → Nat} {X : xs_T} {q : Nat} (h : xs_k q = 4) (f : Nat → Int32) : va_up (xs_mem G ad X) q (.inl (G.2.1, (X.1 q 0).toNatClampNeg, .inl f)) = xs_mem G ad (xs_ai X q f) :=
  xs_up (by rw [xs_m4 h]; simp [xs_ai, va_up]) (fun j hj => ⟨rfl, rfl, by simp [xs_ai, va_up, hj], rfl⟩)
theorem xs_up_al {G : jq_G} {ad : Nat → Nat} {X : xs_T} {q : Nat} (h : xs_k q = 2) (f : Nat → Int64) : va_up (xs_mem G ad X) q (.inl (G.2.2.1, xs_n q, .inr (.inl f))) = xs_mem G ad (xs_al X q f) :=
  xs_up (by rw [xs_m2 h]; simp [xs_al, va_up]) (fun j hj => ⟨rfl, rfl, rfl, by simp [xs_al, va_up, hj]⟩)
theorem xs_up_si {G : jq_G} {ad : Nat → Nat} {X : xs_T} {q k : Nat} (h : xs_k q = 0) (hk : k < xs_nf q) (hf : xs_f q k = 0) (v : Int32) : va_up (xs_mem G ad X) q (.inr (xs_c q, (xs_fs ad X q).set k (.int v))) = xs_mem G ad (xs_si X q k v) := by
  refine xs_up ?_ (fun j hj => ⟨by simp [xs_si, va_up, hj], rfl, rfl, rfl⟩)
  rw [xs_m0 h, xs_fs_set (X := X) hk (X' := xs_si X q k v) (by simp [xs_fv, hf, xs_si, va_up]) (fun j hj => xs_fv_congr (by simp [xs_si, va_up, hj]) rfl)]
theorem xs_up_sl {G : jq_G} {ad : Nat → Nat} {X : xs_T} {q k : Nat} (h : xs_k q = 0) (hk : k < xs_nf q) (hf : xs_f q k = 1) (v : Int64) : va_up (xs_mem G ad X) q (.inr (xs_c q, (xs_fs ad X q).set k (.long v))) = xs_mem G ad (xs_sl X q k v) := by
  refine xs_up ?_ (fun j hj => ⟨rfl, by simp [xs_sl, va_up, hj], rfl, rfl⟩)
  rw [xs_m0 h, xs_fs_set (X := X) hk (X' := xs_sl X q k v) (by simp [xs_fv, hf, xs_sl, va_up]) (fun j hj => xs_fv_congr rfl (by simp [xs_sl, va_up, hj]))]
section JX
variable {l : Launch} {G : jq_G} {M : jq_M} {R : Room} {Ex : jq_E} {Y : jq_Y} {pc : Nat} {L : jq_L} {st : List Value} {n : Nat} {ad : Nat → Nat} {X : xs_T} {cells slots : Nat}
theorem xq_iaload {q : Nat} {i v : Int32} (hd : decode M.2.1 pc = .ok (.iaload, 1)) (hq : q < n) (hk : xs_k q = 1) (hin : vp_in i (xs_n q)) (hv : X.2.2.1 q i.toNatClampNeg = v) (k : jq_J l G M R Ex Y (pc + 1) L (.int v :: st) n ad (xs_mem G ad X) cells slots) : jq_J l G M R Ex Y pc L (.int i :: .ref (ad q) :: st) n ad (xs_mem G ad X) cells slots :=
  jq_iaload hd hq (xs_m1 hk) hin (hv ▸ k)
theorem xq_laload {q : Nat} {i : Int32} {v : Int64} (hd : decode M.2.1 pc = .ok (.laload, 1)) (hq : q < n) (hk : xs_k q = 2) (hin : vp_in i (xs_n q)) (hv : X.2.2.2 q i.toNatClampNeg = v) (k : jq_J l G M R Ex Y (pc + 1) L (.long v :: st) n ad (xs_mem G ad X) cells slots) : jq_J l G M R Ex Y pc L (.int i :: .ref (ad q) :: st) n ad (xs_mem G ad X) cells slots :=
  jq_laload hd hq (xs_m2 hk) hin (hv ▸ k)
theorem xq_iald {q z : Nat} {i v : Int32} (hd : decode M.2.1 pc = .ok (.iaload, 1)) (hq : q < n ∧ 21 ≤ q ∧ (X.1 q 0).toNatClampNeg = z) (hin : vp_in i z) (hv : X.2.2.1 q i.toNatClampNeg = v) (k : jq_J l G M R Ex Y (pc + 1) L (.int v :: st) n ad (xs_mem G ad X) cells slots) : jq_J l G M R Ex Y pc L (.int i :: .ref (ad q) :: st) n ad (xs_mem G ad X) cells slots :=
  jq_iaload hd hq.1 (xs_m4 (xs_k4 hq.2.1)) (by rw [hq.2.2]; exact hin) (hv ▸ k)
theorem xq_iast {q z : Nat} {i x : Int32} (hd : decode M.2.1 pc = .ok (.iastore, 1)) (hq : q < n ∧ 21 ≤ q ∧ (X.1 q 0).toNatClampNeg = z) (hin : vp_in i z) (k : jq_J l G M R Ex Y (pc + 1) L st n ad (xs_mem G ad (xs_ai X q (upd (X.2.2.1 q) i.toNatClampNeg x))) cells slots) : jq_J l G M R Ex Y pc L (.int x :: .int i :: .ref (ad q) :: st) n ad (xs_mem G ad X) cells slots :=
  jq_iastore hd hq.1 (xs_m4 (xs_k4 hq.2.1)) (by rw [hq.2.2]; exact hin) (by rw [xs_up_a4 (xs_k4 hq.2.1)]; exact k)
theorem xq_iastore {q : Nat} {i x : Int32} (hd : decode M.2.1 pc = .ok (.iastore, 1)) (hq : q < n) (hk : xs_k q = 1) (hin : vp_in i (xs_n q)) (k : jq_J l G M R Ex Y (pc + 1) L st n ad (xs_mem G ad (xs_ai X q (upd (X.2.2.1 q) i.toNatClampNeg x))) cells slots) : jq_J l G M R Ex Y pc L (.int x :: .int i :: .ref (ad q) :: st) n ad (xs_mem G ad X) cells slots :=
  jq_iastore hd hq (xs_m1 hk) hin (by rw [xs_up_ai hk]; exact k)
theorem xq_lastore {q : Nat} {i : Int32} {x : Int64} (hd : decode M.2.1 pc = .ok (.lastore, 1)) (hq : q < n) (hk : xs_k q = 2) (hin : vp_in i (xs_n q)) (k : jq_J l G M R Ex Y (pc + 1) L st n ad (xs_mem G ad (xs_al X q (vp_updL (X.2.2.2 q) i.toNatClampNeg x))) cells slots) : jq_J l G M R Ex Y pc L (.long x :: .int i :: .ref (ad q) :: st) n ad (xs_mem G ad X) cells slots :=
  jq_lastore hd hq (xs_m2 hk) hin (by rw [xs_up_al hk]; exact k)
theorem xq_alenI {q : Nat} (hd : decode M.2.1 pc = .ok (.arraylength, 1)) (hq : q < n) (hk : xs_k q = 1) (k : jq_J l G M R Ex Y (pc + 1) L (.int (nI (xs_n q)) :: st) n ad (xs_mem G ad X) cells slots) : jq_J l G M R Ex Y pc L (.ref (ad q) :: st) n ad (xs_mem G ad X) cells slots := jq_alenI hd hq (xs_m1 hk) k
theorem xq_alenL {q : Nat} (hd : decode M.2.1 pc = .ok (.arraylength, 1)) (hq : q < n) (hk : xs_k q = 2) (k : jq_J l G M R Ex Y (pc + 1) L (.int (nI (xs_n q)) :: st) n ad (xs_mem G ad X) cells slots) : jq_J l G M R Ex Y pc L (.ref (ad q) :: st) n ad (xs_mem G ad X) cells slots := jq_alenL hd hq (xs_m2 hk) k
theorem xq_getI {idx ci j q : Nat} {v : Int32} (F : jq_FL M.1.cls idx ci j) (hd : decode M.2.1 pc = .ok (.getfield idx, 3)) (hq : q < n) (hs : xs_k q = 0 ∧ xs_c q = ci ∧ j < xs_nf q ∧ xs_f q j = 0) (hv : X.1 q j = v) (k : jq_J l G M R Ex Y (pc + 3) L (.int v :: st) n ad (xs_mem G ad X) cells slots) : jq_J l G M R Ex Y pc L (.ref (ad q) :: st) n ad (xs_mem G ad X) cells slots :=
  jq_getfield F hd hq (by rw [xs_m0 hs.1, hs.2.1]) ((xs_fs_at hs.2.2.1).trans (by unfold xs_fv; rw [hs.2.2.2]; rw [← hv])) k
theorem xq_getL {idx ci j q : Nat} {v : Int64} (F : jq_FL M.1.cls idx ci j) (hd : decode M.2.1 pc = .ok (.getfield idx, 3)) (hq : q < n) (hs : xs_k q = 0 ∧ xs_c q = ci ∧ j < xs_nf q ∧ xs_f q j = 1) (hv : X.2.1 q j = v) (k : jq_J l G M R Ex Y (pc + 3) L (.long v :: st) n ad (xs_mem G ad X) cells slots) : jq_J l G M R Ex Y pc L (.ref (ad q) :: st) n ad (xs_mem G ad X) cells slots :=
  jq_getfield F hd hq (by rw [xs_m0 hs.1, hs.2.1]) ((xs_fs_at hs.2.2.1).trans (by unfold xs_fv; rw [hs.2.2.2]; rw [← hv])) k
theorem xq_getR {idx ci j q : Nat} (t : Nat) (F : jq_FL M.1.cls idx ci j) (hd : decode M.2.1 pc = .ok (.getfield idx, 3)) (hq : q < n) (hs : xs_k q = 0 ∧ xs_c q = ci ∧ j < xs_nf q ∧ xs_f q j = t + 2) (k : jq_J l G M R Ex Y (pc + 3) L (.ref (ad t) :: st) n ad (xs_mem G ad X) cells slots) : jq_J l G M R Ex Y pc L (.ref (ad q) :: st) n ad (xs_mem G ad X) cells slots :=
  jq_getfield F hd hq (by rw [xs_m0 hs.1, hs.2.1]) ((xs_fs_at hs.2.2.1).trans (by unfold xs_fv; rw [hs.2.2.2])) k
theorem xq_putI {idx ci j q : Nat} {v : Int32} {ty : FieldType} (F : jq_FP M.1.cls idx ci j false ty) (hd : decode M.2.1 pc = .ok (.putfield idx, 3)) (hq : q < n) (hs : xs_k q = 0 ∧ xs_c q = ci ∧ j < xs_nf q ∧ xs_f q j = 0) (hn : narrow ty (.int v) = .int v) (hf : fits ty (.int v) = true) (k : jq_J l G M R Ex Y (pc + 3) L st n ad (xs_mem G ad (xs_si X q j v)) cells slots) : jq_J l G M R Ex Y pc L (.int v :: .ref (ad q) :: st) n ad (xs_mem G ad X) cells slots := by
  obtain ⟨h1, h2, h3, h4⟩ := hs
  subst h2
  exact jq_putfield F hd hq (xs_m0 h1) hn hf (by simpa [xs_fs] using h3) (by rw [xs_up_si h1 h3 h4]; exact k)
theorem xq_putL {idx ci j q : Nat} {v : Int64} (F : jq_FP M.1.cls idx ci j false .long) (hd : decode M.2.1 pc = .ok (.putfield idx, 3)) (hq : q < n) (hs : xs_k q = 0 ∧ xs_c q = ci ∧ j < xs_nf q ∧ xs_f q j = 1) (k : jq_J l G M R Ex Y (pc + 3) L st n ad (xs_mem G ad (xs_sl X q j v)) cells slots) : jq_J l G M R Ex Y pc L (.long v :: .ref (ad q) :: st) n ad (xs_mem G ad X) cells slots := by
  obtain ⟨h1, h2, h3, h4⟩ := hs
  subst h2
  exact jq_putfield F hd hq (xs_m0 h1) rfl rfl (by simpa [xs_fs] using h3) (by rw [xs_up_sl h1 h3 h4]; exact k)
end JX
/-- a contract in the fixed world: nothing is made; what comes back and the record behind it by Pr -/
def xs_Ct (l : Launch) (G : jq_G) (M : jq_M) (d : Nat) (av : List Value) (n : Nat) (ad : Nat → Nat) (X : xs_T) (Pr : Option Value → xs_T → Prop) : Prop :=
  jq_Ct l G M d 0 0 av n ad (xs_mem G ad X) (fun r n' ad' mem' => n' = n ∧ ad' = ad ∧ ∃ X', mem' = xs_mem G ad X' ∧ Pr r X')
def xs_Ye (G : jq_G) (n : Nat) (ad : Nat → Nat) (Pr : Option Value → xs_T → Prop) : jq_Y := jq_Ye G (fun r n' ad' mem' => n' = n ∧ ad' = ad ∧ ∃ X', mem' = xs_mem G ad X' ∧ Pr r X') 0 0
section JY
variable {l : Launch} {G : jq_G} {M M' : jq_M} {R : Room} {Ex : jq_E} {Y : jq_Y} {pc d d' idx na : Nat} {L : jq_L} {st As rest av : List Value} {n : Nat} {ad : Nat → Nat} {X : xs_T} {cells slots : Nat} {Pr Pr' : Option Value → xs_T → Prop}
theorem xs_Ct_of (hy : plainName M.1.cls = true) (hlen : (lg_sl av).length ≤ M.2.2.1) (hL : jq_ent av ++ List.replicate (M.2.2.1 - (jq_ent av).length) none = L)
    (k : jq_J l G M (jq_R d 0 0) jq_E0 (xs_Ye G n ad Pr) 0 L [] n ad (xs_mem G ad X) 0 0) : xs_Ct l G M d av n ad X Pr := jq_Ct_of hy hlen hL k
theorem xs_Ct_mono (h : xs_Ct l G M d av n ad X Pr) (hi : ∀ r X', Pr r X' → Pr' r X') : xs_Ct l G M d av n ad X Pr' := by
  intro sz p e ha hc hk s m args below hf hfit hP hKK
  obtain ⟨k, o, h1, h2, h3, ⟨⟨⟨r, n', ad', mem', e1, ⟨e2, e3, X', e4, e5⟩, e6⟩, hF⟩, hq⟩⟩ := h sz p e ha hc hk s m args below hf hfit hP hKK
  exact ⟨k, o, h1, h2, h3, ⟨⟨⟨r, n', ad', mem', e1, ⟨e2, e3, X', e4, hi r X' e5⟩, e6⟩, hF⟩, hq⟩⟩
theorem xq_ireturn {v : Int32} {ty : FieldType} (hd : decode M.2.1 pc = .ok (.ireturn, 1)) (hr : M.2.2.2 = some ty) (hn : narrow ty (.int v) = .int v) (k : Pr (some (.int v)) X) : jq_J l G M R Ex (xs_Ye G n ad Pr) pc L [.int v] n ad (xs_mem G ad X) 0 0 :=
  jq_ireturn hd hr hn (Nat.le_refl _) (Nat.le_refl _) ⟨rfl, rfl, X, rfl, k⟩
theorem xq_lreturn {v : Int64} (hd : decode M.2.1 pc = .ok (.lreturn, 1)) (hr : M.2.2.2 = some .long) (k : Pr (some (.long v)) X) : jq_J l G M R Ex (xs_Ye G n ad Pr) pc L [.long v] n ad (xs_mem G ad X) 0 0 :=
  jq_lreturn hd hr (Nat.le_refl _) (Nat.le_refl _) ⟨rfl, rfl, X, rfl, k⟩
theorem xq_return (hst : st = []) (hd : decode M.2.1 pc = .ok (.return_, 1)) (hr : M.2.2.2 = none) (k : Pr none X) : jq_J l G M R Ex (xs_Ye G n ad Pr) pc L st n ad (xs_mem G ad X) 0 0 :=
  jq_return hst hd hr (Nat.le_refl _) (Nat.le_refl _) ⟨rfl, rfl, X, rfl, k⟩
def xs_fit (R : Room) (M' : jq_M) (d' cells slots : Nat) : Prop := (d' + 1 ≤ R.frames ∧ 8 + (M'.2.2.1 + 11) + 40 * d' ≤ R.locals) ∧ cells ≤ R.cells ∧ slots ≤ R.slots
theorem xq_invV {q : Nat} (hd : decode M.2.1 pc = .ok (.invokevirtual idx, 3)) (F : jq_LV M.1.cls idx M' na) (hCt : xs_Ct l G M' d' (.ref (ad q) :: As) n ad X Pr') (hq : q < n) (hs : xs_k q = 0 ∧ (vwCl[xs_c q]?).map (fun z => z.1) = some M'.1.cls) (hn : As.length = na) (hst : st = As.reverse ++ .ref (ad q) :: rest) (hw : (rest.map fun v => v.category).sum ≤ 8) (hf : xs_fit R M' d' cells slots)
    (k : ∀ r X', Pr' r X' → jq_J l G M R Ex Y (pc + 3) L (r.toList ++ rest) n ad (xs_mem G ad X') cells slots) : jq_J l G M R Ex Y pc L st n ad (xs_mem G ad X) cells slots :=
  jq_invV hd F hCt hq (xs_m0 hs.1) hs.2 hn hst hw hf (fun r n' ad' mem' h => by obtain ⟨rfl, rfl, X', rfl, h⟩ := h; exact k r X' h)
theorem xq_invS (hd : decode M.2.1 pc = .ok (.invokestatic idx, 3)) (F : jq_LS M.1.cls idx M' na) (hCt : xs_Ct l G M' d' As n ad X Pr') (hn : As.length = na) (hst : st = As.reverse ++ rest) (hw : (rest.map fun v => v.category).sum ≤ 8) (hf : xs_fit R M' d' cells slots)
    (k : ∀ r X', Pr' r X' → jq_J l G M R Ex Y (pc + 3) L (r.toList ++ rest) n ad (xs_mem G ad X') cells slots) : jq_J l G M R Ex Y pc L st n ad (xs_mem G ad X) cells slots :=
  jq_invS hd F hCt hn hst hw hf (fun r n' ad' mem' h => by obtain ⟨rfl, rfl, X', rfl, h⟩ := h; exact k r X' h)
end JY
theorem xs_lt {q b n : Nat} (h : q < b) (hn : b ≤ n) : q < n := Nat.lt_of_lt_of_le h hn
