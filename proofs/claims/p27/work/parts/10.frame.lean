/-! THE LIGHT JUDGEMENT jq_J: the kit's W, its premises bundled; the world is a row of n places; the locals are a list by their places. -/
abbrev jq_G : Type := va_G × ClassId × ClassId × ClassId
abbrev jq_M : Type := MethodName × ByteArray × Nat × Option FieldType
abbrev jq_L : Type := List (Option Value)
abbrev jq_E : Type := State → Array Value → (Nat → Prop) → Prop
abbrev jq_Y : Type := List Frame → Array Value → State → (Nat → Prop) → State → Prop
def jq_tys (G : jq_G) : List (ClassId × FieldType) := [(G.2.1, .int), (G.2.2.1, .long)]
def jq_wl (n : Nat) (ad : Nat → Nat) (mem : Nat → va_E) : va_W := (List.range n).map (fun k => (ad k, mem k))
theorem jq_wl_get {n : Nat} {ad : Nat → Nat} {mem : Nat → va_E} {k : Nat} (h : k < n) : (jq_wl n ad mem)[k]? = some (ad k, mem k) := by
  simp [jq_wl, List.getElem?_map, List.getElem?_range h]
theorem jq_wl_out {n : Nat} {ad : Nat → Nat} {mem : Nat → va_E} {k : Nat} (h : n ≤ k) : (jq_wl n ad mem)[k]? = none := by
  apply List.getElem?_eq_none
  simpa [jq_wl] using h
theorem jq_wl_len {n : Nat} {ad : Nat → Nat} {mem : Nat → va_E} : (jq_wl n ad mem).length = n := by simp [jq_wl]
theorem jq_wl_set {n : Nat} {ad : Nat → Nat} {mem : Nat → va_E} {k : Nat} {e : va_E} (h : k < n) : (jq_wl n ad mem).set k (ad k, e) = jq_wl n ad (va_up mem k e) := by
  apply List.ext_getElem?
  intro i
  by_cases hi : i < n
  · by_cases hk : i = k
    · subst hk
      rw [List.getElem?_set_self (by rw [jq_wl_len]; exact hi), jq_wl_get hi, va_up_self]
    · rw [List.getElem?_set_ne (Ne.symm hk), jq_wl_get hi, jq_wl_get hi, va_up_ne _ _ hk]
  · rw [jq_wl_out (Nat.le_of_not_lt hi), List.getElem?_eq_none]
    rw [List.length_set, jq_wl_len]
    exact Nat.le_of_not_lt hi
theorem jq_wl_push {n : Nat} {ad : Nat → Nat} {mem : Nat → va_E} {q : Nat} {e : va_E} : jq_wl n ad mem ++ [(q, e)] = jq_wl (n + 1) (va_up ad n q) (va_up mem n e) := by
  apply List.ext_getElem?
  intro i
  rcases Nat.lt_trichotomy i n with hi | hi | hi
  · rw [List.getElem?_append_left (by rw [jq_wl_len]; exact hi), jq_wl_get hi, jq_wl_get (Nat.lt_succ_of_lt hi), va_up_ne _ _ (Nat.ne_of_lt hi), va_up_ne _ _ (Nat.ne_of_lt hi)]
  · subst hi
    rw [List.getElem?_append_right (by rw [jq_wl_len]; exact Nat.le_refl _), jq_wl_len, Nat.sub_self, jq_wl_get (Nat.lt_succ_self _), va_up_self, va_up_self]
    rfl
  · rw [jq_wl_out hi, List.getElem?_eq_none]
    rw [List.length_append, jq_wl_len]
    exact hi
theorem jq_wl_congr {n : Nat} {ad ad' : Nat → Nat} {mem mem' : Nat → va_E} (h : ∀ k, k < n → ad k = ad' k ∧ mem k = mem' k) : jq_wl n ad mem = jq_wl n ad' mem' := by
  apply List.ext_getElem?
  intro i
  rcases Nat.lt_or_ge i n with hi | hi
  · rw [jq_wl_get hi, jq_wl_get hi, (h i hi).1, (h i hi).2]
  · rw [jq_wl_out hi, jq_wl_out hi]
/-- the held places of a list of locals -/
def jq_ls : Nat → jq_L → List (Nat × Value)
  | _, [] => []
  | k, none :: L => jq_ls (k + 1) L
  | k, some v :: L => (k, v) :: jq_ls (k + 1) L
theorem jq_ls_iff {v : Value} : ∀ {L : jq_L} {k i : Nat}, (i, v) ∈ jq_ls k L ↔ k ≤ i ∧ L[i - k]? = some (some v)
  | [], k, i => by simp [jq_ls]
  | o :: L, k, i => by
    have ih := @jq_ls_iff v L (k + 1) i
    have key : (k + 1 ≤ i ∧ L[i - (k + 1)]? = some (some v)) ↔ (k < i ∧ (o :: L)[i - k]? = some (some v)) := by
      constructor
      · rintro ⟨h1, h2⟩
        refine ⟨h1, ?_⟩
        rw [show i - k = (i - (k + 1)) + 1 by omega, List.getElem?_cons_succ]
        exact h2
      · rintro ⟨h1, h2⟩
        refine ⟨h1, ?_⟩
        rw [show i - k = (i - (k + 1)) + 1 by omega, List.getElem?_cons_succ] at h2
        exact h2
    have heq : k = i → (o :: L)[i - k]? = some o := by rintro rfl; simp
    cases o with
    | none =>
      rw [jq_ls, ih, key]
      constructor
      · rintro ⟨h1, h2⟩; exact ⟨by omega, h2⟩
      · rintro ⟨h1, h2⟩
        refine ⟨?_, h2⟩
        rcases Nat.lt_or_ge k i with h | h
        · exact h
        · have e : k = i := by omega
          rw [heq e] at h2
          cases h2
    | some w =>
      rw [jq_ls, List.mem_cons, ih, key]
      constructor
      · rintro (h | ⟨h1, h2⟩)
        · cases h
          exact ⟨Nat.le_refl _, by simp⟩
        · exact ⟨by omega, h2⟩
      · rintro ⟨h1, h2⟩
        rcases Nat.lt_or_ge k i with h | h
        · exact Or.inr ⟨h, h2⟩
        · have e : k = i := by omega
          rw [heq e] at h2
          cases h2
          exact Or.inl (by rw [e])
theorem jq_ls_in {v : Value} {L : jq_L} {i : Nat} : (i, v) ∈ jq_ls 0 L ↔ L[i]? = some (some v) := by
  rw [jq_ls_iff]
  simp
def jq_lh (ls : Array Slot) (nL : Nat) (L : jq_L) : Prop := lv_has ls nL (jq_ls 0 L)
theorem jq_lh_at {ls : Array Slot} {nL : Nat} {L : jq_L} (h : jq_lh ls nL L) {i : Nat} {v : Value} (hk : L[i]? = some (some v)) : ls[i]? = some (.val v) := h.2.2 (i, v) (jq_ls_in.mpr hk)
theorem jq_lh_mono {ls : Array Slot} {nL : Nat} {L L' : jq_L} (h : jq_lh ls nL L) (hs : ∀ (i : Nat) (v : Value), L'[i]? = some (some v) → L[i]? = some (some v)) : jq_lh ls nL L' :=
  ⟨h.1, h.2.1, fun q hq => h.2.2 q (jq_ls_in.mpr (hs q.1 q.2 (jq_ls_in.mp hq)))⟩
/-- L' holds at most what L holds -/
def jq_le : jq_L → jq_L → Prop
  | [], _ => True
  | none :: L', [] => jq_le L' []
  | none :: L', _ :: L => jq_le L' L
  | some _ :: _, [] => False
  | some v :: L', o :: L => some v = o ∧ jq_le L' L
theorem jq_le_at : ∀ {L' L : jq_L}, jq_le L' L → ∀ (i : Nat) (v : Value), L'[i]? = some (some v) → L[i]? = some (some v)
  | [], _, _, i, v, h => by simp at h
  | none :: L', [], hl, 0, v, h => by simp at h
  | none :: L', [], hl, i + 1, v, h => by
    rw [List.getElem?_cons_succ] at h
    have := jq_le_at (L' := L') (L := []) (by simpa [jq_le] using hl) i v h
    simp at this
  | none :: L', o :: L, hl, 0, v, h => by simp at h
  | none :: L', o :: L, hl, i + 1, v, h => by
    rw [List.getElem?_cons_succ] at h ⊢
    exact jq_le_at (by simpa [jq_le] using hl) i v h
  | some w :: L', [], hl, i, v, h => by simp [jq_le] at hl
  | some w :: L', o :: L, hl, 0, v, h => by
    obtain ⟨h1, -⟩ := (by simpa only [jq_le] using hl : some w = o ∧ jq_le L' L)
    rw [List.getElem?_cons_zero] at h ⊢
    rw [← h1]; exact h
  | some w :: L', o :: L, hl, i + 1, v, h => by
    obtain ⟨-, h2⟩ := (by simpa only [jq_le] using hl : some w = o ∧ jq_le L' L)
    rw [List.getElem?_cons_succ] at h ⊢
    exact jq_le_at h2 i v h
def jq_ok1 (L : jq_L) : Nat → Bool
  | 0 => true
  | j + 1 => match L[j]? with
    | some (some v) => v.category != 2
    | _ => true
theorem jq_lh_set1 {ls : Array Slot} {nL i : Nat} {L : jq_L} {v : Value} (hk : jq_ok1 L i = true) (h : lv_has ls nL ((i, v) :: (jq_ls 0 L).filter (fun q => !(q.1 == i) && !(q.1 + 1 == i && q.2.category == 2)))) : jq_lh ls nL (L.set i (some v)) := by
  refine ⟨h.1, h.2.1, fun q hq => h.2.2 q ?_⟩
  obtain ⟨j, w⟩ := q
  have h1 := jq_ls_in.mp hq
  by_cases hj : j = i
  · subst hj
    have hl : j < L.length := by
      rcases Nat.lt_or_ge j L.length with z | z
      · exact z
      · rw [List.getElem?_eq_none (by rw [List.length_set]; exact z)] at h1; cases h1
    rw [List.getElem?_set_self hl] at h1
    cases h1
    exact List.mem_cons_self
  · rw [List.getElem?_set_ne (Ne.symm hj)] at h1
    refine List.mem_cons_of_mem _ (List.mem_filter.mpr ⟨jq_ls_in.mpr h1, ?_⟩)
    have e1 : (j == i) = false := by simpa using hj
    have e2 : (j + 1 == i && w.category == 2) = false := by
      by_cases e : j + 1 = i
      · subst e
        simp only [jq_ok1, h1] at hk
        have h2 : w.category ≠ 2 := by simpa using hk
        simp [h2]
      · simp [e]
    show (!(j == i) && !(j + 1 == i && w.category == 2)) = true
    rw [e1, e2]; rfl
theorem jq_lh_set2 {ls : Array Slot} {nL i : Nat} {L : jq_L} {v : Value} (hk : jq_ok1 L i = true) (h : lv_has ls nL ((i, v) :: (jq_ls 0 L).filter (fun q => !(q.1 == i) && (!(q.1 == i + 1) && !(q.1 + 1 == i && q.2.category == 2))))) : jq_lh ls nL ((L.set i (some v)).set (i + 1) none) := by
  refine ⟨h.1, h.2.1, fun q hq => h.2.2 q ?_⟩
  obtain ⟨j, w⟩ := q
  have h0 := jq_ls_in.mp hq
  have hj1 : j ≠ i + 1 := by
    rintro rfl
    rcases Nat.lt_or_ge (i + 1) (L.set i (some v)).length with z | z
    · rw [List.getElem?_set_self z] at h0; cases h0
    · rw [List.getElem?_eq_none (by rw [List.length_set]; exact z)] at h0; cases h0
  rw [List.getElem?_set_ne (Ne.symm hj1)] at h0
  have h1 := h0
  by_cases hj : j = i
  · subst hj
    have hl : j < L.length := by
      rcases Nat.lt_or_ge j L.length with z | z
      · exact z
      · rw [List.getElem?_eq_none (by rw [List.length_set]; exact z)] at h1; cases h1
    rw [List.getElem?_set_self hl] at h1
    cases h1
    exact List.mem_cons_self
  · rw [List.getElem?_set_ne (Ne.symm hj)] at h1
    refine List.mem_cons_of_mem _ (List.mem_filter.mpr ⟨jq_ls_in.mpr h1, ?_⟩)
    have e1 : (j == i) = false := by simpa using hj
    have e3 : (j == i + 1) = false := by simpa using hj1
    have e2 : (j + 1 == i && w.category == 2) = false := by
      by_cases e : j + 1 = i
      · subst e
        simp only [jq_ok1, h1] at hk
        have h2 : w.category ≠ 2 := by simpa using hk
        simp [h2]
      · simp [e]
    show (!(j == i) && (!(j == i + 1) && !(j + 1 == i && w.category == 2))) = true
    rw [e1, e2, e3]; rfl
/-- the locals at a method's entry -/
def jq_ent : List Value → jq_L
  | [] => []
  | v :: vs => if v.category = 2 then some v :: none :: jq_ent vs else some v :: jq_ent vs
theorem jq_ent_args : ∀ (vs : List Value) (k i : Nat) (v : Value), (jq_ent vs)[i]? = some (some v) → (k + i, v) ∈ lv_args k vs
  | [], k, i, v, h => by simp [jq_ent] at h
  | w :: vs, k, i, v, h => by
    by_cases hc : w.category = 2
    · simp only [jq_ent, hc, if_true] at h
      match i, h with
      | 0, h => cases h; exact List.mem_cons_self
      | 1, h => cases h
      | i + 2, h =>
        rw [List.getElem?_cons_succ, List.getElem?_cons_succ] at h
        have h2 := jq_ent_args vs (k + 2) i v h
        simp only [lv_args, hc, if_true]
        rw [show k + (i + 2) = k + 2 + i by omega]
        exact List.mem_cons_of_mem _ h2
    · simp only [jq_ent, hc, if_false] at h
      match i, h with
      | 0, h => cases h; exact List.mem_cons_self
      | i + 1, h =>
        rw [List.getElem?_cons_succ] at h
        have h2 := jq_ent_args vs (k + 1) i v h
        simp only [lv_args, hc, if_false]
        rw [show k + (i + 1) = k + 1 + i by omega]
        exact List.mem_cons_of_mem _ h2
theorem jq_lh_entry {vs : List Value} {n : Nat} {ls : Array Slot} (h : lv_has ls n (lv_args 0 vs)) : jq_lh ls n (jq_ent vs) :=
  ⟨h.1, h.2.1, fun q hq => h.2.2 q (by have := jq_ent_args vs 0 q.1 q.2 (jq_ls_in.mp hq); simpa using this)⟩
/-! the tables' words -/
def jq_big : List Cond := lw_tbl.filter goodWord
def jq_isN : Cond → Bool
  | .fieldLinkNest .. => true
  | .methodLinkNest .. => true
  | _ => false
def jq_nst : List Cond := lw_tbl.filter jq_isN
def jq_N (U : State) : Prop := ∀ w ∈ jq_nst, va_Nw w U
theorem jq_N.warm {s U : State} (hW : s.WarmedH U.vm) (h : jq_N s) : jq_N U := by
  intro w hw
  have h1 := h w hw
  have h2 : jq_isN w = true := (List.mem_filter.mp hw).2
  cases w <;> first | exact va_Nw.warmF hW h1 | exact va_Nw.warmM hW h1 | (simp [jq_isN] at h2)
theorem jq_N.same {u U : State} (hv : u.vm = U.vm) (h : jq_N u) : jq_N U := by
  intro w hw
  have h1 := h w hw
  have h2 : jq_isN w = true := (List.mem_filter.mp hw).2
  cases w <;> first | exact va_Nw.same rfl hv h1 | (simp [jq_isN] at h2)
def jq_ws (M : jq_M) : List Cond := .code M.1 M.2.1 M.2.2.1 M.2.2.2 :: jq_big
theorem jq_good : GoodIn jq_big jq_big := fun w hw => ⟨hw, good_of_word (List.mem_filter.mp hw).2⟩
theorem jq_big_in {w : Cond} (h : w ∈ lw_tbl) (hg : goodWord w = true) : w ∈ jq_big := List.mem_filter.mpr ⟨h, hg⟩
theorem jq_nst_in {w : Cond} (h : w ∈ lw_tbl) (hg : jq_isN w = true) : w ∈ jq_nst := List.mem_filter.mpr ⟨h, hg⟩
/-! the judgement -/
def jq_Cx (G : jq_G) (M : jq_M) (p : Program) (s : State) (m : MethodId) (args : Array Value) (meth : Method) (c : Code) (A : Nat → Prop) : Prop :=
  (p.tables.exec = Jvm.exec ∧ c.code = M.2.1 ∧ c.maxLocals = M.2.2.1 ∧ s.vm.findClass M.1.cls = some m.cls) ∧ (∀ w ∈ jq_big, w.before args s = true) ∧ va_K G.1 vwCl (jq_tys G) s ∧ jq_N s ∧ (∀ q, s.heap.size ≤ q → A q) ∧ meth.sig.returnType = M.2.2.2 ∧ meth.locks = false ∧ meth.name = M.1.name
def jq_J (l : Launch) (G : jq_G) (M : jq_M) (R : Room) (Ex : jq_E) (Y : jq_Y) (pc : Nat) (L : jq_L) (st : List Value) (n : Nat) (ad : Nat → Nat) (mem : Nat → va_E) (cells slots : Nat) : Prop :=
  ∀ (p : Program) (e : Env) (s : State) (m : MethodId) (args : Array Value) (below : List Frame) (meth : Method) (c : Code) (A : Nat → Prop), jq_Cx G M p s m args meth c A → Ex s args A →
  ∀ (H : Heap) (locs : List Loc) (ls : Array Slot), jq_lh ls M.2.2.1 L → va_P G.1 vwCl (jq_wl n ad mem) H → va_D A (jq_wl n ad mem) → va_S A s.heap H locs →
  W p l e R s m args below meth c H locs cells slots (Y below args s A) (F0 m pc ls st)
section JQ
variable {l : Launch} {G : jq_G} {M : jq_M} {R : Room} {Ex : jq_E} {Y : jq_Y} {pc : Nat} {L : jq_L} {st : List Value} {n : Nat} {ad : Nat → Nat} {mem : Nat → va_E} {cells slots : Nat}
theorem jq_wk {L' : jq_L} (h : jq_le L' L) (k : jq_J l G M R Ex Y pc L' st n ad mem cells slots) : jq_J l G M R Ex Y pc L st n ad mem cells slots :=
  fun p e s m args below meth c A hC hE H locs ls hl hP hD hS => k p e s m args below meth c A hC hE H locs ls (jq_lh_mono hl (jq_le_at h)) hP hD hS
theorem jq_nm {α : Type} {P : α → Prop} (x : α) (k : ∀ y, y = x → P y) : P x := k x rfl
theorem jq_mem {mem' : Nat → va_E} {ad' : Nat → Nat} (h : ∀ k, k < n → ad k = ad' k ∧ mem k = mem' k) (k : jq_J l G M R Ex Y pc L st n ad' mem' cells slots) : jq_J l G M R Ex Y pc L st n ad mem cells slots := by
  intro p e s m args below meth c A hC hE H locs ls hl hP hD hS
  rw [jq_wl_congr h] at hP hD
  exact k p e s m args below meth c A hC hE H locs ls hl hP hD hS

theorem jq_iconst {z : Int} {v : Int32} (hd : decode M.2.1 pc = .ok (.iconst z, 1)) (hv : Int32.ofInt z = v) (k : jq_J l G M R Ex Y (pc + 1) L (.int v :: st) n ad mem cells slots) : jq_J l G M R Ex Y pc L st n ad mem cells slots :=
  fun p e s m args below meth c A hC hE H locs ls hl hP hD hS => lv_iconst hC.1.1 hC.1.2.1 hd hv (k p e s m args below meth c A hC hE H locs ls hl hP hD hS)
theorem jq_bipush {z : Int} {v : Int32} (hd : decode M.2.1 pc = .ok (.bipush z, 2)) (hv : (Int8.ofInt z).toInt32 = v) (k : jq_J l G M R Ex Y (pc + 2) L (.int v :: st) n ad mem cells slots) : jq_J l G M R Ex Y pc L st n ad mem cells slots :=
  fun p e s m args below meth c A hC hE H locs ls hl hP hD hS => lv_bipush hC.1.1 hC.1.2.1 hd hv (k p e s m args below meth c A hC hE H locs ls hl hP hD hS)
theorem jq_sipush {z : Int} {v : Int32} (hd : decode M.2.1 pc = .ok (.sipush z, 3)) (hv : (Int16.ofInt z).toInt32 = v) (k : jq_J l G M R Ex Y (pc + 3) L (.int v :: st) n ad mem cells slots) : jq_J l G M R Ex Y pc L st n ad mem cells slots :=
  fun p e s m args below meth c A hC hE H locs ls hl hP hD hS => lv_sipush hC.1.1 hC.1.2.1 hd hv (k p e s m args below meth c A hC hE H locs ls hl hP hD hS)
theorem jq_lconst {z : Fin 2} {v : Int64} (hd : decode M.2.1 pc = .ok (.lconst z, 1)) (hv : Int64.ofNat (z : Nat) = v) (k : jq_J l G M R Ex Y (pc + 1) L (.long v :: st) n ad mem cells slots) : jq_J l G M R Ex Y pc L st n ad mem cells slots :=
  fun p e s m args below meth c A hC hE H locs ls hl hP hD hS => lv_lconst hC.1.1 hC.1.2.1 hd hv (k p e s m args below meth c A hC hE H locs ls hl hP hD hS)
theorem jq_ldc2 {ix : Nat} {v : Int64} (hd : decode M.2.1 pc = .ok (.ldc2_w ix, 3)) (hv : Cond.constantLong M.1.cls ix v ∈ jq_big) (k : jq_J l G M R Ex Y (pc + 3) L (.long v :: st) n ad mem cells slots) : jq_J l G M R Ex Y pc L st n ad mem cells slots :=
  fun p e s m args below meth c A hC hE H locs ls hl hP hD hS => lv_ldc2 hC.1.1 hC.1.2.1 hC.1.2.2.2 (hC.2.1 _ hv) hd (k p e s m args below meth c A hC hE H locs ls hl hP hD hS)
theorem jq_iload_n {z : Fin 4} {i : Nat} {x : Int32} (hd : decode M.2.1 pc = .ok (.iload_n z, 1)) (hi : (z : Nat) = i) (hx : L[i]? = some (some (.int x))) (k : jq_J l G M R Ex Y (pc + 1) L (.int x :: st) n ad mem cells slots) : jq_J l G M R Ex Y pc L st n ad mem cells slots :=
  fun p e s m args below meth c A hC hE H locs ls hl hP hD hS => lv_iload_n hC.1.1 hC.1.2.1 hd hi (jq_lh_at hl hx) (k p e s m args below meth c A hC hE H locs ls hl hP hD hS)
theorem jq_iload {i : Nat} {x : Int32} (hd : decode M.2.1 pc = .ok (.iload i, 2)) (hx : L[i]? = some (some (.int x))) (k : jq_J l G M R Ex Y (pc + 2) L (.int x :: st) n ad mem cells slots) : jq_J l G M R Ex Y pc L st n ad mem cells slots :=
  fun p e s m args below meth c A hC hE H locs ls hl hP hD hS => lv_iload hC.1.1 hC.1.2.1 hd (jq_lh_at hl hx) (k p e s m args below meth c A hC hE H locs ls hl hP hD hS)
theorem jq_lload_n {z : Fin 4} {i : Nat} {x : Int64} (hd : decode M.2.1 pc = .ok (.lload_n z, 1)) (hi : (z : Nat) = i) (hx : L[i]? = some (some (.long x))) (k : jq_J l G M R Ex Y (pc + 1) L (.long x :: st) n ad mem cells slots) : jq_J l G M R Ex Y pc L st n ad mem cells slots :=
  fun p e s m args below meth c A hC hE H locs ls hl hP hD hS => lv_lload_n hC.1.1 hC.1.2.1 hd hi (jq_lh_at hl hx) (k p e s m args below meth c A hC hE H locs ls hl hP hD hS)
theorem jq_lload {i : Nat} {x : Int64} (hd : decode M.2.1 pc = .ok (.lload i, 2)) (hx : L[i]? = some (some (.long x))) (k : jq_J l G M R Ex Y (pc + 2) L (.long x :: st) n ad mem cells slots) : jq_J l G M R Ex Y pc L st n ad mem cells slots :=
  fun p e s m args below meth c A hC hE H locs ls hl hP hD hS => lv_lload hC.1.1 hC.1.2.1 hd (jq_lh_at hl hx) (k p e s m args below meth c A hC hE H locs ls hl hP hD hS)
theorem jq_aload_n {z : Fin 4} {i x : Nat} (hd : decode M.2.1 pc = .ok (.aload_n z, 1)) (hi : (z : Nat) = i) (hx : L[i]? = some (some (.ref x))) (k : jq_J l G M R Ex Y (pc + 1) L (.ref x :: st) n ad mem cells slots) : jq_J l G M R Ex Y pc L st n ad mem cells slots :=
  fun p e s m args below meth c A hC hE H locs ls hl hP hD hS => lv_aload_n hC.1.1 hC.1.2.1 hd hi (jq_lh_at hl hx) (k p e s m args below meth c A hC hE H locs ls hl hP hD hS)
theorem jq_aload {i x : Nat} (hd : decode M.2.1 pc = .ok (.aload i, 2)) (hx : L[i]? = some (some (.ref x))) (k : jq_J l G M R Ex Y (pc + 2) L (.ref x :: st) n ad mem cells slots) : jq_J l G M R Ex Y pc L st n ad mem cells slots :=
  fun p e s m args below meth c A hC hE H locs ls hl hP hD hS => lv_aload hC.1.1 hC.1.2.1 hd (jq_lh_at hl hx) (k p e s m args below meth c A hC hE H locs ls hl hP hD hS)
theorem jq_istore_n {z : Fin 4} {i : Nat} {x : Int32} {L2 : jq_L} (hd : decode M.2.1 pc = .ok (.istore_n z, 1)) (hi : (z : Nat) = i) (hb : i < M.2.2.1) (ho : jq_ok1 L i = true) (hL : (L.set i (some (.int x))) = L2) (k : jq_J l G M R Ex Y (pc + 1) L2 st n ad mem cells slots) : jq_J l G M R Ex Y pc L (.int x :: st) n ad mem cells slots :=
  fun p e s m args below meth c A hC hE H locs ls hl hP hD hS => lv_istore_n hC.1.1 hC.1.2.1 hd hi hl hb rfl (fun ls hl => k p e s m args below meth c A hC hE H locs ls (hL ▸ jq_lh_set1 ho hl) hP hD hS)
theorem jq_istore {i : Nat} {x : Int32} {L2 : jq_L} (hd : decode M.2.1 pc = .ok (.istore i, 2)) (hb : i < M.2.2.1) (ho : jq_ok1 L i = true) (hL : (L.set i (some (.int x))) = L2) (k : jq_J l G M R Ex Y (pc + 2) L2 st n ad mem cells slots) : jq_J l G M R Ex Y pc L (.int x :: st) n ad mem cells slots :=
  fun p e s m args below meth c A hC hE H locs ls hl hP hD hS => lv_istore hC.1.1 hC.1.2.1 hd hl hb rfl (fun ls hl => k p e s m args below meth c A hC hE H locs ls (hL ▸ jq_lh_set1 ho hl) hP hD hS)
theorem jq_lstore_n {z : Fin 4} {i : Nat} {x : Int64} {L2 : jq_L} (hd : decode M.2.1 pc = .ok (.lstore_n z, 1)) (hi : (z : Nat) = i) (hb : i + 1 < M.2.2.1) (ho : jq_ok1 L i = true) (hL : ((L.set i (some (.long x))).set (i + 1) none) = L2) (k : jq_J l G M R Ex Y (pc + 1) L2 st n ad mem cells slots) : jq_J l G M R Ex Y pc L (.long x :: st) n ad mem cells slots :=
  fun p e s m args below meth c A hC hE H locs ls hl hP hD hS => lv_lstore_n hC.1.1 hC.1.2.1 hd hi hl hb rfl (fun ls hl => k p e s m args below meth c A hC hE H locs ls (hL ▸ jq_lh_set2 ho hl) hP hD hS)
theorem jq_lstore {i : Nat} {x : Int64} {L2 : jq_L} (hd : decode M.2.1 pc = .ok (.lstore i, 2)) (hb : i + 1 < M.2.2.1) (ho : jq_ok1 L i = true) (hL : ((L.set i (some (.long x))).set (i + 1) none) = L2) (k : jq_J l G M R Ex Y (pc + 2) L2 st n ad mem cells slots) : jq_J l G M R Ex Y pc L (.long x :: st) n ad mem cells slots :=
  fun p e s m args below meth c A hC hE H locs ls hl hP hD hS => lv_lstore hC.1.1 hC.1.2.1 hd hl hb rfl (fun ls hl => k p e s m args below meth c A hC hE H locs ls (hL ▸ jq_lh_set2 ho hl) hP hD hS)
theorem jq_astore_n {z : Fin 4} {i : Nat} {x : Nat} {L2 : jq_L} (hd : decode M.2.1 pc = .ok (.astore_n z, 1)) (hi : (z : Nat) = i) (hb : i < M.2.2.1) (ho : jq_ok1 L i = true) (hL : (L.set i (some (.ref x))) = L2) (k : jq_J l G M R Ex Y (pc + 1) L2 st n ad mem cells slots) : jq_J l G M R Ex Y pc L (.ref x :: st) n ad mem cells slots :=
  fun p e s m args below meth c A hC hE H locs ls hl hP hD hS => lv_astore_n hC.1.1 hC.1.2.1 hd hi hl hb rfl (fun ls hl => k p e s m args below meth c A hC hE H locs ls (hL ▸ jq_lh_set1 ho hl) hP hD hS)
theorem jq_astore {i : Nat} {x : Nat} {L2 : jq_L} (hd : decode M.2.1 pc = .ok (.astore i, 2)) (hb : i < M.2.2.1) (ho : jq_ok1 L i = true) (hL : (L.set i (some (.ref x))) = L2) (k : jq_J l G M R Ex Y (pc + 2) L2 st n ad mem cells slots) : jq_J l G M R Ex Y pc L (.ref x :: st) n ad mem cells slots :=
  fun p e s m args below meth c A hC hE H locs ls hl hP hD hS => lv_astore hC.1.1 hC.1.2.1 hd hl hb rfl (fun ls hl => k p e s m args below meth c A hC hE H locs ls (hL ▸ jq_lh_set1 ho hl) hP hD hS)
theorem jq_iinc {i : Nat} {z : Int} {x v : Int32} {L2 : jq_L} (hd : decode M.2.1 pc = .ok (.iinc i z, 3)) (hb : i < M.2.2.1) (ho : jq_ok1 L i = true) (hx : L[i]? = some (some (.int x))) (hv : x + Int32.ofInt z = v) (hL : L.set i (some (.int v)) = L2) (k : jq_J l G M R Ex Y (pc + 3) L2 st n ad mem cells slots) : jq_J l G M R Ex Y pc L st n ad mem cells slots := by
  intro p e s m args below meth c A hC hE H locs ls hl hP hD hS
  obtain ⟨j, hj⟩ := List.getElem?_of_mem (jq_ls_in.mpr hx)
  exact lv_iinc hC.1.1 hC.1.2.1 hd hl hj hv hb rfl (fun ls hl => k p e s m args below meth c A hC hE H locs ls (hL ▸ jq_lh_set1 ho hl) hP hD hS)
theorem jq_iadd {x y : Int32} (hd : decode M.2.1 pc = .ok (.iadd, 1)) (k : jq_J l G M R Ex Y (pc + 1) L (.int (x + y) :: st) n ad mem cells slots) : jq_J l G M R Ex Y pc L (.int y :: .int x :: st) n ad mem cells slots :=
  fun p e s m args below meth c A hC hE H locs ls hl hP hD hS => lv_iadd hC.1.1 hC.1.2.1 hd (k p e s m args below meth c A hC hE H locs ls hl hP hD hS)
theorem jq_isub {x y : Int32} (hd : decode M.2.1 pc = .ok (.isub, 1)) (k : jq_J l G M R Ex Y (pc + 1) L (.int (x - y) :: st) n ad mem cells slots) : jq_J l G M R Ex Y pc L (.int y :: .int x :: st) n ad mem cells slots :=
  fun p e s m args below meth c A hC hE H locs ls hl hP hD hS => lv_isub hC.1.1 hC.1.2.1 hd (k p e s m args below meth c A hC hE H locs ls hl hP hD hS)
theorem jq_imul {x y : Int32} (hd : decode M.2.1 pc = .ok (.imul, 1)) (k : jq_J l G M R Ex Y (pc + 1) L (.int (x * y) :: st) n ad mem cells slots) : jq_J l G M R Ex Y pc L (.int y :: .int x :: st) n ad mem cells slots :=
  fun p e s m args below meth c A hC hE H locs ls hl hP hD hS => lv_imul hC.1.1 hC.1.2.1 hd (k p e s m args below meth c A hC hE H locs ls hl hP hD hS)
theorem jq_iand {x y : Int32} (hd : decode M.2.1 pc = .ok (.iand, 1)) (k : jq_J l G M R Ex Y (pc + 1) L (.int (x &&& y) :: st) n ad mem cells slots) : jq_J l G M R Ex Y pc L (.int y :: .int x :: st) n ad mem cells slots :=
  fun p e s m args below meth c A hC hE H locs ls hl hP hD hS => lv_iand hC.1.1 hC.1.2.1 hd (k p e s m args below meth c A hC hE H locs ls hl hP hD hS)
theorem jq_ior {x y : Int32} (hd : decode M.2.1 pc = .ok (.ior, 1)) (k : jq_J l G M R Ex Y (pc + 1) L (.int (x ||| y) :: st) n ad mem cells slots) : jq_J l G M R Ex Y pc L (.int y :: .int x :: st) n ad mem cells slots :=
  fun p e s m args below meth c A hC hE H locs ls hl hP hD hS => lv_ior hC.1.1 hC.1.2.1 hd (k p e s m args below meth c A hC hE H locs ls hl hP hD hS)
theorem jq_ixor {x y : Int32} (hd : decode M.2.1 pc = .ok (.ixor, 1)) (k : jq_J l G M R Ex Y (pc + 1) L (.int (x ^^^ y) :: st) n ad mem cells slots) : jq_J l G M R Ex Y pc L (.int y :: .int x :: st) n ad mem cells slots :=
  fun p e s m args below meth c A hC hE H locs ls hl hP hD hS => lv_ixor hC.1.1 hC.1.2.1 hd (k p e s m args below meth c A hC hE H locs ls hl hP hD hS)
theorem jq_ladd {x y : Int64} (hd : decode M.2.1 pc = .ok (.ladd, 1)) (k : jq_J l G M R Ex Y (pc + 1) L (.long (x + y) :: st) n ad mem cells slots) : jq_J l G M R Ex Y pc L (.long y :: .long x :: st) n ad mem cells slots :=
  fun p e s m args below meth c A hC hE H locs ls hl hP hD hS => lv_ladd hC.1.1 hC.1.2.1 hd (k p e s m args below meth c A hC hE H locs ls hl hP hD hS)
theorem jq_lsub {x y : Int64} (hd : decode M.2.1 pc = .ok (.lsub, 1)) (k : jq_J l G M R Ex Y (pc + 1) L (.long (x - y) :: st) n ad mem cells slots) : jq_J l G M R Ex Y pc L (.long y :: .long x :: st) n ad mem cells slots :=
  fun p e s m args below meth c A hC hE H locs ls hl hP hD hS => lv_lsub hC.1.1 hC.1.2.1 hd (k p e s m args below meth c A hC hE H locs ls hl hP hD hS)
theorem jq_land {x y : Int64} (hd : decode M.2.1 pc = .ok (.land, 1)) (k : jq_J l G M R Ex Y (pc + 1) L (.long (x &&& y) :: st) n ad mem cells slots) : jq_J l G M R Ex Y pc L (.long y :: .long x :: st) n ad mem cells slots :=
  fun p e s m args below meth c A hC hE H locs ls hl hP hD hS => lv_land hC.1.1 hC.1.2.1 hd (k p e s m args below meth c A hC hE H locs ls hl hP hD hS)
theorem jq_lor {x y : Int64} (hd : decode M.2.1 pc = .ok (.lor, 1)) (k : jq_J l G M R Ex Y (pc + 1) L (.long (x ||| y) :: st) n ad mem cells slots) : jq_J l G M R Ex Y pc L (.long y :: .long x :: st) n ad mem cells slots :=
  fun p e s m args below meth c A hC hE H locs ls hl hP hD hS => lv_lor hC.1.1 hC.1.2.1 hd (k p e s m args below meth c A hC hE H locs ls hl hP hD hS)
theorem jq_lxor {x y : Int64} (hd : decode M.2.1 pc = .ok (.lxor, 1)) (k : jq_J l G M R Ex Y (pc + 1) L (.long (x ^^^ y) :: st) n ad mem cells slots) : jq_J l G M R Ex Y pc L (.long y :: .long x :: st) n ad mem cells slots :=
  fun p e s m args below meth c A hC hE H locs ls hl hP hD hS => lv_lxor hC.1.1 hC.1.2.1 hd (k p e s m args below meth c A hC hE H locs ls hl hP hD hS)
theorem jq_idiv {x y : Int32} (hd : decode M.2.1 pc = .ok (.idiv, 1)) (hz : ¬ y = 0) (k : jq_J l G M R Ex Y (pc + 1) L (.int (x / y) :: st) n ad mem cells slots) : jq_J l G M R Ex Y pc L (.int y :: .int x :: st) n ad mem cells slots :=
  fun p e s m args below meth c A hC hE H locs ls hl hP hD hS => lv_idiv hC.1.1 hC.1.2.1 hd hz (k p e s m args below meth c A hC hE H locs ls hl hP hD hS)
theorem jq_irem {x y : Int32} (hd : decode M.2.1 pc = .ok (.irem, 1)) (hz : ¬ y = 0) (k : jq_J l G M R Ex Y (pc + 1) L (.int (x - x / y * y) :: st) n ad mem cells slots) : jq_J l G M R Ex Y pc L (.int y :: .int x :: st) n ad mem cells slots :=
  fun p e s m args below meth c A hC hE H locs ls hl hP hD hS => lv_irem hC.1.1 hC.1.2.1 hd hz (k p e s m args below meth c A hC hE H locs ls hl hP hD hS)
theorem jq_lneg {x : Int64} (hd : decode M.2.1 pc = .ok (.lneg, 1)) (k : jq_J l G M R Ex Y (pc + 1) L (.long (-x) :: st) n ad mem cells slots) : jq_J l G M R Ex Y pc L (.long x :: st) n ad mem cells slots :=
  fun p e s m args below meth c A hC hE H locs ls hl hP hD hS => lv_lneg hC.1.1 hC.1.2.1 hd (k p e s m args below meth c A hC hE H locs ls hl hP hD hS)
theorem jq_lshl {x v : Int64} {y : Int32} (hd : decode M.2.1 pc = .ok (.lshl, 1)) (hv : x <<< (y.toInt64 &&& 63) = v) (k : jq_J l G M R Ex Y (pc + 1) L (.long v :: st) n ad mem cells slots) : jq_J l G M R Ex Y pc L (.int y :: .long x :: st) n ad mem cells slots :=
  fun p e s m args below meth c A hC hE H locs ls hl hP hD hS => lv_lshl hC.1.1 hC.1.2.1 hd hv (k p e s m args below meth c A hC hE H locs ls hl hP hD hS)
theorem jq_lshr {x v : Int64} {y : Int32} (hd : decode M.2.1 pc = .ok (.lshr, 1)) (hv : x >>> (y.toInt64 &&& 63) = v) (k : jq_J l G M R Ex Y (pc + 1) L (.long v :: st) n ad mem cells slots) : jq_J l G M R Ex Y pc L (.int y :: .long x :: st) n ad mem cells slots :=
  fun p e s m args below meth c A hC hE H locs ls hl hP hD hS => lv_lshr hC.1.1 hC.1.2.1 hd hv (k p e s m args below meth c A hC hE H locs ls hl hP hD hS)
theorem jq_lushr {x v : Int64} {y : Int32} (hd : decode M.2.1 pc = .ok (.lushr, 1)) (hv : (x.toUInt64 >>> (y.toInt64.toUInt64 &&& Int64.toUInt64 63)).toInt64 = v) (k : jq_J l G M R Ex Y (pc + 1) L (.long v :: st) n ad mem cells slots) : jq_J l G M R Ex Y pc L (.int y :: .long x :: st) n ad mem cells slots :=
  fun p e s m args below meth c A hC hE H locs ls hl hP hD hS => lv_lushr hC.1.1 hC.1.2.1 hd hv (k p e s m args below meth c A hC hE H locs ls hl hP hD hS)
theorem jq_i2l {x : Int32} {v : Int64} (hd : decode M.2.1 pc = .ok (.i2l, 1)) (hv : x.toInt64 = v) (k : jq_J l G M R Ex Y (pc + 1) L (.long v :: st) n ad mem cells slots) : jq_J l G M R Ex Y pc L (.int x :: st) n ad mem cells slots :=
  fun p e s m args below meth c A hC hE H locs ls hl hP hD hS => lv_i2l hC.1.1 hC.1.2.1 hd hv (k p e s m args below meth c A hC hE H locs ls hl hP hD hS)
theorem jq_l2i {x : Int64} {v : Int32} (hd : decode M.2.1 pc = .ok (.l2i, 1)) (hv : x.toInt32 = v) (k : jq_J l G M R Ex Y (pc + 1) L (.int v :: st) n ad mem cells slots) : jq_J l G M R Ex Y pc L (.long x :: st) n ad mem cells slots :=
  fun p e s m args below meth c A hC hE H locs ls hl hP hD hS => lv_l2i hC.1.1 hC.1.2.1 hd hv (k p e s m args below meth c A hC hE H locs ls hl hP hD hS)
theorem jq_lcmp {x y : Int64} (hd : decode M.2.1 pc = .ok (.lcmp, 1)) (k : jq_J l G M R Ex Y (pc + 1) L (.int (lg_cmp x y) :: st) n ad mem cells slots) : jq_J l G M R Ex Y pc L (.long y :: .long x :: st) n ad mem cells slots :=
  fun p e s m args below meth c A hC hE H locs ls hl hP hD hS => W.lcmp hC.1.1 hC.1.2.1 hd (k p e s m args below meth c A hC hE H locs ls hl hP hD hS)
theorem jq_dup {v : Value} (hd : decode M.2.1 pc = .ok (.dup, 1)) (hv : v.category = 1) (k : jq_J l G M R Ex Y (pc + 1) L (v :: v :: st) n ad mem cells slots) : jq_J l G M R Ex Y pc L (v :: st) n ad mem cells slots :=
  fun p e s m args below meth c A hC hE H locs ls hl hP hD hS => lv_dup hC.1.1 hC.1.2.1 hd hv (k p e s m args below meth c A hC hE H locs ls hl hP hD hS)
theorem jq_pop {v : Value} (hd : decode M.2.1 pc = .ok (.pop, 1)) (hv : v.category = 1) (k : jq_J l G M R Ex Y (pc + 1) L st n ad mem cells slots) : jq_J l G M R Ex Y pc L (v :: st) n ad mem cells slots :=
  fun p e s m args below meth c A hC hE H locs ls hl hP hD hS => lv_pop hC.1.1 hC.1.2.1 hd hv (k p e s m args below meth c A hC hE H locs ls hl hP hD hS)
theorem jq_dup2 {v w : Value} (hd : decode M.2.1 pc = .ok (.dup2, 1)) (hv : v.category = 1) (hw : w.category = 1) (k : jq_J l G M R Ex Y (pc + 1) L (v :: w :: v :: w :: st) n ad mem cells slots) : jq_J l G M R Ex Y pc L (v :: w :: st) n ad mem cells slots :=
  fun p e s m args below meth c A hC hE H locs ls hl hP hD hS => lv_dup2_11 hC.1.1 hC.1.2.1 hd hv hw (k p e s m args below meth c A hC hE H locs ls hl hP hD hS)
theorem jq_goto {off : Int} {tgt : Nat} (hd : decode M.2.1 pc = .ok (.goto off, 3)) (ht : (pc : Int) + off = (tgt : Int)) (k : jq_J l G M R Ex Y tgt L st n ad mem cells slots) : jq_J l G M R Ex Y pc L st n ad mem cells slots :=
  fun p e s m args below meth c A hC hE H locs ls hl hP hD hS => lv_goto hC.1.1 hC.1.2.1 hd ht (k p e s m args below meth c A hC hE H locs ls hl hP hD hS)
theorem jq_if_eq {x : Int32} {off : Int} {tgt : Nat} (hd : decode M.2.1 pc = .ok (.ifCond .eq off, 3)) (ht : (pc : Int) + off = (tgt : Int)) (kt : x = 0 → jq_J l G M R Ex Y tgt L st n ad mem cells slots) (kf : ¬ x = 0 → jq_J l G M R Ex Y (pc + 3) L st n ad mem cells slots) : jq_J l G M R Ex Y pc L (.int x :: st) n ad mem cells slots :=
  fun p e s m args below meth c A hC hE H locs ls hl hP hD hS => lv_if_eq hC.1.1 hC.1.2.1 hd ht (fun h => kt h p e s m args below meth c A hC hE H locs ls hl hP hD hS) (fun h => kf h p e s m args below meth c A hC hE H locs ls hl hP hD hS)
theorem jq_icmp_eq {x y : Int32} {off : Int} {tgt : Nat} (hd : decode M.2.1 pc = .ok (.if_icmp .eq off, 3)) (ht : (pc : Int) + off = (tgt : Int)) (kt : x = y → jq_J l G M R Ex Y tgt L st n ad mem cells slots) (kf : ¬ x = y → jq_J l G M R Ex Y (pc + 3) L st n ad mem cells slots) : jq_J l G M R Ex Y pc L (.int y :: .int x :: st) n ad mem cells slots :=
  fun p e s m args below meth c A hC hE H locs ls hl hP hD hS => lv_icmp_eq hC.1.1 hC.1.2.1 hd ht (fun h => kt h p e s m args below meth c A hC hE H locs ls hl hP hD hS) (fun h => kf h p e s m args below meth c A hC hE H locs ls hl hP hD hS)
theorem jq_if_ne {x : Int32} {off : Int} {tgt : Nat} (hd : decode M.2.1 pc = .ok (.ifCond .ne off, 3)) (ht : (pc : Int) + off = (tgt : Int)) (kt : ¬ x = 0 → jq_J l G M R Ex Y tgt L st n ad mem cells slots) (kf : x = 0 → jq_J l G M R Ex Y (pc + 3) L st n ad mem cells slots) : jq_J l G M R Ex Y pc L (.int x :: st) n ad mem cells slots :=
  fun p e s m args below meth c A hC hE H locs ls hl hP hD hS => lv_if_ne hC.1.1 hC.1.2.1 hd ht (fun h => kt h p e s m args below meth c A hC hE H locs ls hl hP hD hS) (fun h => kf h p e s m args below meth c A hC hE H locs ls hl hP hD hS)
theorem jq_icmp_ne {x y : Int32} {off : Int} {tgt : Nat} (hd : decode M.2.1 pc = .ok (.if_icmp .ne off, 3)) (ht : (pc : Int) + off = (tgt : Int)) (kt : ¬ x = y → jq_J l G M R Ex Y tgt L st n ad mem cells slots) (kf : x = y → jq_J l G M R Ex Y (pc + 3) L st n ad mem cells slots) : jq_J l G M R Ex Y pc L (.int y :: .int x :: st) n ad mem cells slots :=
  fun p e s m args below meth c A hC hE H locs ls hl hP hD hS => lv_icmp_ne hC.1.1 hC.1.2.1 hd ht (fun h => kt h p e s m args below meth c A hC hE H locs ls hl hP hD hS) (fun h => kf h p e s m args below meth c A hC hE H locs ls hl hP hD hS)
theorem jq_if_lt {x : Int32} {off : Int} {tgt : Nat} (hd : decode M.2.1 pc = .ok (.ifCond .lt off, 3)) (ht : (pc : Int) + off = (tgt : Int)) (kt : x < 0 → jq_J l G M R Ex Y tgt L st n ad mem cells slots) (kf : ¬ x < 0 → jq_J l G M R Ex Y (pc + 3) L st n ad mem cells slots) : jq_J l G M R Ex Y pc L (.int x :: st) n ad mem cells slots :=
  fun p e s m args below meth c A hC hE H locs ls hl hP hD hS => lv_if_lt hC.1.1 hC.1.2.1 hd ht (fun h => kt h p e s m args below meth c A hC hE H locs ls hl hP hD hS) (fun h => kf h p e s m args below meth c A hC hE H locs ls hl hP hD hS)
theorem jq_icmp_lt {x y : Int32} {off : Int} {tgt : Nat} (hd : decode M.2.1 pc = .ok (.if_icmp .lt off, 3)) (ht : (pc : Int) + off = (tgt : Int)) (kt : x < y → jq_J l G M R Ex Y tgt L st n ad mem cells slots) (kf : ¬ x < y → jq_J l G M R Ex Y (pc + 3) L st n ad mem cells slots) : jq_J l G M R Ex Y pc L (.int y :: .int x :: st) n ad mem cells slots :=
  fun p e s m args below meth c A hC hE H locs ls hl hP hD hS => lv_icmp_lt hC.1.1 hC.1.2.1 hd ht (fun h => kt h p e s m args below meth c A hC hE H locs ls hl hP hD hS) (fun h => kf h p e s m args below meth c A hC hE H locs ls hl hP hD hS)
theorem jq_if_ge {x : Int32} {off : Int} {tgt : Nat} (hd : decode M.2.1 pc = .ok (.ifCond .ge off, 3)) (ht : (pc : Int) + off = (tgt : Int)) (kt : 0 ≤ x → jq_J l G M R Ex Y tgt L st n ad mem cells slots) (kf : ¬ 0 ≤ x → jq_J l G M R Ex Y (pc + 3) L st n ad mem cells slots) : jq_J l G M R Ex Y pc L (.int x :: st) n ad mem cells slots :=
  fun p e s m args below meth c A hC hE H locs ls hl hP hD hS => lv_if_ge hC.1.1 hC.1.2.1 hd ht (fun h => kt h p e s m args below meth c A hC hE H locs ls hl hP hD hS) (fun h => kf h p e s m args below meth c A hC hE H locs ls hl hP hD hS)
theorem jq_icmp_ge {x y : Int32} {off : Int} {tgt : Nat} (hd : decode M.2.1 pc = .ok (.if_icmp .ge off, 3)) (ht : (pc : Int) + off = (tgt : Int)) (kt : y ≤ x → jq_J l G M R Ex Y tgt L st n ad mem cells slots) (kf : ¬ y ≤ x → jq_J l G M R Ex Y (pc + 3) L st n ad mem cells slots) : jq_J l G M R Ex Y pc L (.int y :: .int x :: st) n ad mem cells slots :=
  fun p e s m args below meth c A hC hE H locs ls hl hP hD hS => lv_icmp_ge hC.1.1 hC.1.2.1 hd ht (fun h => kt h p e s m args below meth c A hC hE H locs ls hl hP hD hS) (fun h => kf h p e s m args below meth c A hC hE H locs ls hl hP hD hS)
theorem jq_if_gt {x : Int32} {off : Int} {tgt : Nat} (hd : decode M.2.1 pc = .ok (.ifCond .gt off, 3)) (ht : (pc : Int) + off = (tgt : Int)) (kt : 0 < x → jq_J l G M R Ex Y tgt L st n ad mem cells slots) (kf : ¬ 0 < x → jq_J l G M R Ex Y (pc + 3) L st n ad mem cells slots) : jq_J l G M R Ex Y pc L (.int x :: st) n ad mem cells slots :=
  fun p e s m args below meth c A hC hE H locs ls hl hP hD hS => lv_if_gt hC.1.1 hC.1.2.1 hd ht (fun h => kt h p e s m args below meth c A hC hE H locs ls hl hP hD hS) (fun h => kf h p e s m args below meth c A hC hE H locs ls hl hP hD hS)
theorem jq_icmp_gt {x y : Int32} {off : Int} {tgt : Nat} (hd : decode M.2.1 pc = .ok (.if_icmp .gt off, 3)) (ht : (pc : Int) + off = (tgt : Int)) (kt : y < x → jq_J l G M R Ex Y tgt L st n ad mem cells slots) (kf : ¬ y < x → jq_J l G M R Ex Y (pc + 3) L st n ad mem cells slots) : jq_J l G M R Ex Y pc L (.int y :: .int x :: st) n ad mem cells slots :=
  fun p e s m args below meth c A hC hE H locs ls hl hP hD hS => lv_icmp_gt hC.1.1 hC.1.2.1 hd ht (fun h => kt h p e s m args below meth c A hC hE H locs ls hl hP hD hS) (fun h => kf h p e s m args below meth c A hC hE H locs ls hl hP hD hS)
theorem jq_if_le {x : Int32} {off : Int} {tgt : Nat} (hd : decode M.2.1 pc = .ok (.ifCond .le off, 3)) (ht : (pc : Int) + off = (tgt : Int)) (kt : x ≤ 0 → jq_J l G M R Ex Y tgt L st n ad mem cells slots) (kf : ¬ x ≤ 0 → jq_J l G M R Ex Y (pc + 3) L st n ad mem cells slots) : jq_J l G M R Ex Y pc L (.int x :: st) n ad mem cells slots :=
  fun p e s m args below meth c A hC hE H locs ls hl hP hD hS => lv_if_le hC.1.1 hC.1.2.1 hd ht (fun h => kt h p e s m args below meth c A hC hE H locs ls hl hP hD hS) (fun h => kf h p e s m args below meth c A hC hE H locs ls hl hP hD hS)
theorem jq_icmp_le {x y : Int32} {off : Int} {tgt : Nat} (hd : decode M.2.1 pc = .ok (.if_icmp .le off, 3)) (ht : (pc : Int) + off = (tgt : Int)) (kt : x ≤ y → jq_J l G M R Ex Y tgt L st n ad mem cells slots) (kf : ¬ x ≤ y → jq_J l G M R Ex Y (pc + 3) L st n ad mem cells slots) : jq_J l G M R Ex Y pc L (.int y :: .int x :: st) n ad mem cells slots :=
  fun p e s m args below meth c A hC hE H locs ls hl hP hD hS => lv_icmp_le hC.1.1 hC.1.2.1 hd ht (fun h => kt h p e s m args below meth c A hC hE H locs ls hl hP hD hS) (fun h => kf h p e s m args below meth c A hC hE H locs ls hl hP hD hS)
theorem jq_tableIn {dflt lo hi : Int} {offs : Array Int} {len : Nat} {x : Int32} {off : Int} {tgt : Nat} (hd : decode M.2.1 pc = .ok (.tableswitch dflt lo hi offs, len)) (h1 : ¬ x.toInt < lo) (h2 : ¬ hi < x.toInt) (ho : offs[(x.toInt - lo).toNat]? = some off) (ht : (pc : Int) + off = (tgt : Int)) (k : jq_J l G M R Ex Y tgt L st n ad mem cells slots) : jq_J l G M R Ex Y pc L (.int x :: st) n ad mem cells slots :=
  fun p e s m args below meth c A hC hE H locs ls hl hP hD hS => lv_tableIn hC.1.1 hC.1.2.1 hd h1 h2 ho ht (k p e s m args below meth c A hC hE H locs ls hl hP hD hS)
theorem jq_tableOut {dflt lo hi : Int} {offs : Array Int} {len : Nat} {x : Int32} {tgt : Nat} (hd : decode M.2.1 pc = .ok (.tableswitch dflt lo hi offs, len)) (h : x.toInt < lo ∨ hi < x.toInt) (ht : (pc : Int) + dflt = (tgt : Int)) (k : jq_J l G M R Ex Y tgt L st n ad mem cells slots) : jq_J l G M R Ex Y pc L (.int x :: st) n ad mem cells slots :=
  fun p e s m args below meth c A hC hE H locs ls hl hP hD hS => lv_tableOut hC.1.1 hC.1.2.1 hd h ht (k p e s m args below meth c A hC hE H locs ls hl hP hD hS)
end JQ
