/-! the reference's table of loops: what it finds, and what its sorting keeps, in plain numbers -/
def dv_fnd (w h : Nat) : Nat → List Nat
  | 0 => []
  | k + 1 => dv_fnd w h k ++ (if dv_isLoop w h (dv_bd w h k) = true then [dv_bd w h k] else [])
theorem dv_fnd_y {w h k : Nat} (q : dv_isLoop w h (dv_bd w h k) = true) : dv_fnd w h (k + 1) = dv_fnd w h k ++ [dv_bd w h k] := by rw [dv_fnd, if_pos q]
theorem dv_fnd_n {w h k : Nat} (q : ¬ dv_isLoop w h (dv_bd w h k) = true) : dv_fnd w h (k + 1) = dv_fnd w h k := by rw [dv_fnd, if_neg q, List.append_nil]
theorem dv_fnd_mem {w h x : Nat} : ∀ k, x ∈ dv_fnd w h k ↔ dv_isLoop w h x = true ∧ ∃ C, C < k ∧ x = dv_bd w h C
  | 0 => by
    rw [dv_fnd]
    constructor
    · intro q; cases q
    · rintro ⟨_, C, h, _⟩; exact absurd h (Nat.not_lt_zero C)
  | k + 1 => by
    have ih := dv_fnd_mem (w := w) (h := h) (x := x) k
    by_cases q : dv_isLoop w h (dv_bd w h k) = true
    · rw [dv_fnd_y q, List.mem_append, ih, List.mem_singleton]
      constructor
      · rintro (⟨a, C, b, c⟩ | rfl)
        · exact ⟨a, C, by omega, c⟩
        · exact ⟨q, k, by omega, rfl⟩
      · rintro ⟨a, C, b, c⟩
        rcases Nat.lt_or_ge C k with z | z
        · exact Or.inl ⟨a, C, z, c⟩
        · right; rw [c, show C = k by omega]
    · rw [dv_fnd_n q, ih]
      constructor
      · rintro ⟨a, C, b, c⟩; exact ⟨a, C, by omega, c⟩
      · rintro ⟨a, C, b, c⟩
        rcases Nat.lt_or_ge C k with z | z
        · exact ⟨a, C, z, c⟩
        · rw [show C = k by omega] at c
          rw [c] at a
          exact absurd a q
theorem dv_fnd_nodup {w h : Nat} (hW : tb_W w h) : ∀ k, k ≤ 2 ^ tb_nc w h → (dv_fnd w h k).Nodup
  | 0, _ => List.Pairwise.nil
  | k + 1, hk => by
    have ih := dv_fnd_nodup hW k (by omega)
    by_cases q : dv_isLoop w h (dv_bd w h k) = true
    · rw [dv_fnd_y q]
      refine List.pairwise_append.mpr ⟨ih, List.pairwise_singleton _ _, fun x hx y hy => ?_⟩
      rw [List.mem_singleton.mp hy]
      obtain ⟨-, C, c1, c2⟩ := (dv_fnd_mem k).mp hx
      intro z
      have := dv_bd_inj hW (C := C) (D := k) (by omega) (by omega) (c2.symm.trans z)
      omega
    · rw [dv_fnd_n q]; exact ih
theorem ls_len : ∀ {l1 l2 : List Nat}, l1.Nodup → (∀ x, x ∈ l1 → x ∈ l2) → l1.length ≤ l2.length
  | [], l2, _, _ => Nat.zero_le _
  | a :: t, l2, hn, H => by
    have hn2 := List.pairwise_cons.mp hn
    have ha := H a (List.mem_cons_self ..)
    have ih := ls_len (l2 := l2.erase a) hn2.2 (fun x hx => (List.mem_erase_of_ne (fun q => hn2.1 x hx q.symm)).mpr (H x (List.mem_cons_of_mem _ hx)))
    rw [List.length_erase_of_mem ha] at ih
    have : 0 < l2.length := List.length_pos_of_mem ha
    rw [List.length_cons]
    omega
theorem dv_fnd_in {w h : Nat} (hW : tb_W w h) {k : Nat} (hk : k ≤ 2 ^ tb_nc w h) : ∀ x, x ∈ dv_fnd w h k → x ∈ dv_loops w h := by
  intro x hx
  obtain ⟨a, C, b, c⟩ := (dv_fnd_mem k).mp hx
  exact (dv_mem_loops hW).mpr ⟨a, C, by omega, c⟩
theorem dv_fnd_len {w h : Nat} (hW : tb_W w h) {k : Nat} (hk : k ≤ 2 ^ tb_nc w h) : (dv_fnd w h k).length ≤ 9349 :=
  Nat.le_trans (ls_len (dv_fnd_nodup hW k hk) (dv_fnd_in hW hk)) (dv_loops_le hW)
/-- the first n places hold L's members, each once -/
def sw_ok (n : Nat) (L : List Nat) (F : Nat → Nat) : Prop := (∀ x, x ∈ L ↔ ∃ i, i < n ∧ F i = x) ∧ ∀ i j, i < n → j < n → F i = F j → i = j
def sw_so (n : Nat) (F : Nat → Nat) : Prop := ∀ a b, a < b → b < n → dv_ahead (F a) (F b)
def sw_s (k k' i : Nat) : Nat := if i = k then k' else if i = k' then k else i
theorem sw_s_s {k k' i : Nat} : sw_s k k' (sw_s k k' i) = i := by
  unfold sw_s
  repeat' split
  all_goals omega
theorem sw_s_lt {k k' i n : Nat} (hk : k < n) (hk' : k' < n) (hi : i < n) : sw_s k k' i < n := by
  unfold sw_s
  repeat' split
  all_goals omega
theorem sw_swap {n : Nat} {L : List Nat} {F : Nat → Nat} {k k' v : Nat} (hk : k < n) (hk' : k' < n) (hne : k' ≠ k) (h : sw_ok n L (tb_up F k v)) : sw_ok n L (tb_up (tb_up F k (F k')) k' v) := by
  have hG : ∀ i, tb_up (tb_up F k (F k')) k' v i = tb_up F k v (sw_s k k' i) := by
    intro i
    by_cases q1 : i = k'
    · have hs : sw_s k k' i = k := by unfold sw_s; rw [if_neg (by omega), if_pos q1]
      rw [hs, q1]
      exact (if_pos rfl).trans (if_pos rfl).symm
    · by_cases q2 : i = k
      · have hs : sw_s k k' i = k' := by unfold sw_s; rw [if_pos q2]
        rw [hs, q2]
        exact (if_neg (Ne.symm hne)).trans ((if_pos rfl).trans (if_neg hne).symm)
      · have hs : sw_s k k' i = i := by unfold sw_s; rw [if_neg q2, if_neg q1]
        rw [hs]
        exact (if_neg q1).trans ((if_neg q2).trans (if_neg q2).symm)
  refine ⟨fun x => ?_, fun i j hi hj he => ?_⟩
  · rw [h.1 x]
    constructor
    · rintro ⟨i, hi, he⟩
      exact ⟨sw_s k k' i, sw_s_lt hk hk' hi, by rw [hG, sw_s_s]; exact he⟩
    · rintro ⟨i, hi, he⟩
      exact ⟨sw_s k k' i, sw_s_lt hk hk' hi, by rw [← hG]; exact he⟩
  · rw [hG, hG] at he
    have := h.2 _ _ (sw_s_lt hk hk' hi) (sw_s_lt hk hk' hj) he
    rw [← sw_s_s (k := k) (k' := k') (i := i), this, sw_s_s]
theorem sw_up_self (F : Nat → Nat) (i : Nat) : tb_up F i (F i) = F := by
  funext j
  unfold tb_up
  split
  · rename_i q; rw [q]
  · rfl
theorem sw_up_at {F : Nat → Nat} {k v : Nat} : tb_up F k v k = v := if_pos rfl
theorem sw_up_ne {F : Nat → Nat} {k v j : Nat} (h : j ≠ k) : tb_up F k v j = F j := if_neg h
theorem sw_up_lt {F : Nat → Nat} {k v n : Nat} {L : List Nat} (h : sw_ok n L (tb_up F k v)) {j : Nat} (hj : j < n) (hne : j ≠ k) : F j ∈ L := (h.1 _).mpr ⟨j, hj, sw_up_ne hne⟩
/-- the hole at k in a sorted row of i + 1, the value v in the hand -/
def sw_hole (i k v : Nat) (F : Nat → Nat) : Prop := (∀ a b, a < b → b ≤ i → a ≠ k → b ≠ k → dv_ahead (F a) (F b)) ∧ ∀ b, k < b → b ≤ i → dv_ahead v (F b)
theorem sw_hole_0 {i : Nat} {F : Nat → Nat} (h : sw_so i F) (v : Nat) : sw_hole i i v F := ⟨fun a b h1 h2 h3 h4 => h a b h1 (by omega), fun b h1 h2 => by omega⟩
theorem sw_hole_s {i k v : Nat} {F : Nat → Nat} (h : sw_hole i (k + 1) v F) (hk : k + 1 ≤ i) (ha : dv_ahead v (F k)) : sw_hole i k v (tb_up F (k + 1) (F k)) := by
  refine ⟨fun a b h1 h2 h3 h4 => ?_, fun b h1 h2 => ?_⟩
  · by_cases q : a = k + 1
    · rw [q, sw_up_at, sw_up_ne (by omega)]
      exact h.1 k b (by omega) h2 (by omega) (by omega)
    · by_cases q2 : b = k + 1
      · rw [q2, sw_up_at, sw_up_ne q]
        exact h.1 a k (by omega) (by omega) q (by omega)
      · rw [sw_up_ne q, sw_up_ne q2]
        exact h.1 a b h1 h2 q q2
  · by_cases q : b = k + 1
    · rw [q, sw_up_at]; exact ha
    · rw [sw_up_ne q]; exact h.2 b (by omega) h2
theorem dv_ahead_or {S T n : Nat} (hn : n ≤ 64) (hS : S < 2 ^ n) (hT : T < 2 ^ n) (hne : S ≠ T) : dv_ahead S T ∨ dv_ahead T S := by
  have hx : S ^^^ T ≠ 0 := fun q => hne (by
    apply bm_ext
    intro i
    have : (S ^^^ T).testBit i = false := by rw [q]; exact Nat.zero_testBit i
    rw [Nat.testBit_xor] at this
    revert this
    cases S.testBit i <;> cases T.testBit i <;> decide)
  obtain ⟨j, j1, -, j3⟩ := dv_low_y (Nat.lt_of_lt_of_le (Nat.xor_lt_two_pow hS hT) (Nat.pow_le_pow_right (by decide) hn)) hx
  have heq : ∀ i, i < j → S.testBit i = T.testBit i := by
    intro i hi
    have := j3 i hi
    rw [Nat.testBit_xor] at this
    revert this
    cases S.testBit i <;> cases T.testBit i <;> decide
  rw [Nat.testBit_xor] at j1
  cases a : S.testBit j <;> cases b : T.testBit j
  · rw [a, b] at j1; cases j1
  · exact Or.inr ⟨j, fun i hi => (heq i hi).symm, b, a⟩
  · exact Or.inl ⟨j, heq, a, b⟩
  · rw [a, b] at j1; cases j1
theorem sw_fill {i k v n : Nat} {F : Nat → Nat} {L : List Nat} (h : sw_hole i k v F) (hki : k ≤ i) (hin : i < n) (hok : sw_ok n L (tb_up F k v)) (hb : ∀ x, x ∈ L → x < 2 ^ 40) (hx : k = 0 ∨ ¬ dv_ahead v (F (k - 1))) : sw_so (i + 1) (tb_up F k v) := by
  have hlt : 0 < k → dv_ahead (F (k - 1)) v := by
    intro q
    have hv : v ∈ L := (hok.1 _).mpr ⟨k, by omega, sw_up_at⟩
    have hf : F (k - 1) ∈ L := sw_up_lt hok (by omega) (by omega)
    have hne : v ≠ F (k - 1) := by
      intro z
      have := hok.2 k (k - 1) (by omega) (by omega) (by rw [sw_up_at, sw_up_ne (by omega)]; exact z)
      omega
    rcases dv_ahead_or (by decide) (hb _ hv) (hb _ hf) hne with z | z
    · rcases hx with y | y
      · omega
      · exact absurd z y
    · exact z
  intro a b h1 h2
  by_cases q : a = k
  · rw [q, sw_up_at, sw_up_ne (by omega)]
    exact h.2 b (by omega) (by omega)
  · by_cases q2 : b = k
    · rw [q2, sw_up_at, sw_up_ne q]
      have hk0 := hlt (by omega)
      by_cases q3 : a = k - 1
      · rw [q3]; exact hk0
      · exact dv_ahead_tr (h.1 a (k - 1) (by omega) (by omega) q (by omega)) hk0
    · rw [sw_up_ne q, sw_up_ne q2]
      exact h.1 a b h1 (by omega) q q2
theorem sw_list {n : Nat} {F : Nat → Nat} {L : List Nat} (hso : sw_so n F) (hok : sw_ok n L F) (hL : L.Pairwise dv_ahead) : (List.range n).map F = L := by
  refine dv_sorted_one ?_ hL (fun x => ?_)
  · rw [List.pairwise_map]
    exact List.Pairwise.imp_of_mem (fun _ hb hab => hso _ _ hab (List.mem_range.mp hb)) List.pairwise_lt_range
  · rw [hok.1 x, List.mem_map]
    exact ⟨fun ⟨i, h1, h2⟩ => ⟨i, List.mem_range.mp h1, h2⟩, fun ⟨i, h1, h2⟩ => ⟨i, List.mem_range.mpr h1, h2⟩⟩
theorem sw_start {w h : Nat} (hW : tb_W w h) : sw_ok (dv_fnd w h (2 ^ tb_nc w h)).length (dv_loops w h) (fun k => (dv_fnd w h (2 ^ tb_nc w h)).getD k 0) := by
  have hnd := dv_fnd_nodup hW _ (Nat.le_refl _)
  have hmem : ∀ x, x ∈ dv_loops w h ↔ x ∈ dv_fnd w h (2 ^ tb_nc w h) := fun x => by rw [dv_mem_loops hW, dv_fnd_mem]
  generalize dv_fnd w h (2 ^ tb_nc w h) = L at *
  have hget : ∀ i, i < L.length → L[i]? = some (L.getD i 0) := by
    intro i hi
    rw [List.getD_eq_getElem?_getD, List.getElem?_eq_getElem hi]; rfl
  refine ⟨fun x => ?_, fun i j hi hj he => ?_⟩
  · rw [hmem x, List.mem_iff_getElem?]
    constructor
    · rintro ⟨i, hi⟩
      have hl : i < L.length := (List.getElem?_eq_some_iff.mp hi).1
      refine ⟨i, hl, ?_⟩
      have := hget i hl
      rw [hi] at this
      exact (Option.some.inj this).symm
    · rintro ⟨i, hi, he⟩
      exact ⟨i, by rw [hget i hi]; exact congrArg some he⟩
  · exact (List.getElem?_inj hi hnd).mp (by rw [hget i hi, hget j hj]; exact congrArg some he)
def dv_aheadB (S T : Nat) : Bool := !(S &&& dv_low (S ^^^ T) == 0)
theorem dv_aheadB_y {S T : Nat} (hS : S < 2 ^ 64) (hT : T < 2 ^ 64) : dv_aheadB S T = true ↔ dv_ahead S T := by
  unfold dv_aheadB
  rw [Bool.not_eq_true', beq_eq_false_iff_ne]
  by_cases hx : S ^^^ T = 0
  · have hlow : dv_low (S ^^^ T) = 0 := by rw [hx]; rfl
    rw [hlow, Nat.and_zero]
    constructor
    · intro q; exact absurd rfl q
    · rintro ⟨j, -, a, b⟩
      have : (S ^^^ T).testBit j = false := by rw [hx]; exact Nat.zero_testBit j
      rw [Nat.testBit_xor, a, b] at this; cases this
  · obtain ⟨j, j1, j2, j3⟩ := dv_low_y (Nat.xor_lt_two_pow hS hT) hx
    rw [j2, Ne, fb_bit_nat, Bool.not_eq_false]
    have heq : ∀ i, i < j → S.testBit i = T.testBit i := by
      intro i hi
      have := j3 i hi
      rw [Nat.testBit_xor] at this
      revert this
      cases S.testBit i <;> cases T.testBit i <;> decide
    constructor
    · intro q
      refine ⟨j, heq, q, ?_⟩
      rw [Nat.testBit_xor, q] at j1
      revert j1
      cases T.testBit j <;> decide
    · rintro ⟨i, a, b, c⟩
      rcases Nat.lt_trichotomy i j with z | z | z
      · rw [heq i z, c] at b; cases b
      · rw [← z]; exact b
      · rw [Nat.testBit_xor, a j z, Bool.xor_self] at j1
        cases j1
/-! the table in the reference's record -/
def rf_Fs (n : Nat) (F : Nat → Nat) (X : xs_T) : Prop := X.1 21 24 = nI n ∧ ∀ k, k < n → X.2.2.2 38 k = lN (F k)
def rf_Ls (L : List Nat) (X : xs_T) : Prop := X.1 21 24 = nI L.length ∧ ∀ k x, L[k]? = some x → X.2.2.2 38 k = lN x
theorem rf_lsfr {L : List Nat} {S : List Nat} {F : List (Nat × Nat)} {X Y : xs_T} (hL : rf_Ls L X) (hf : xs_fr S F X Y) (hq : (!decide (38 ∈ S) && !decide ((21, 24) ∈ F)) = true := by decide) : rf_Ls L Y := by
  simp only [Bool.and_eq_true, Bool.not_eq_true'] at hq
  refine ⟨xs_fi hf 21 24 hL.1 hq.2, fun k x hx => ?_⟩
  rw [xs_fb hf 38 hq.1]
  exact hL.2 k x hx
theorem rf_Ls_push {L : List Nat} {S : Nat} {X : xs_T} (hL : rf_Ls L X) (hn : L.length < 9400) : rf_Ls (L ++ [S]) (xs_si (xs_al X 38 (vp_updL (X.2.2.2 38) (nI L.length).toNatClampNeg (lN S))) 21 24 (nI (L.length + 1))) := by
  refine ⟨by rw [xs_si_at, List.length_append]; rfl, fun k x hx => ?_⟩
  show (xs_al X 38 (vp_updL (X.2.2.2 38) (nI L.length).toNatClampNeg (lN S))).2.2.2 38 k = lN x
  rw [xs_al_at]
  rcases Nat.lt_trichotomy k L.length with q | q | q
  · rw [xs_updL_ne (by omega) (by omega)]
    rw [List.getElem?_append_left q] at hx
    exact hL.2 k x hx
  · subst q
    rw [xs_updL_at (by omega)]
    rw [List.getElem?_append_right (Nat.le_refl _), Nat.sub_self] at hx
    have : S = x := Option.some.inj hx
    rw [this]
  · rw [List.getElem?_eq_none (by rw [List.length_append]; show L.length + 1 ≤ k; omega)] at hx
    cases hx
theorem rf_Ls_at {L pre rest : List Nat} {x : Nat} {X : xs_T} (hL : rf_Ls L X) (h : L = pre ++ x :: rest) : X.2.2.2 38 pre.length = lN x := by
  apply hL.2
  rw [h, List.getElem?_append_right (Nat.le_refl _), Nat.sub_self]
  rfl
theorem rf_Ls_Fs {L : List Nat} {X : xs_T} (hL : rf_Ls L X) : rf_Fs L.length (fun k => L.getD k 0) X := by
  refine ⟨hL.1, fun k hk => hL.2 k _ ?_⟩
  show L[k]? = some (L.getD k 0)
  rw [List.getD_eq_getElem?_getD, List.getElem?_eq_getElem hk]; rfl
theorem rf_Fs_Ls {n : Nat} {F : Nat → Nat} {L : List Nat} {X : xs_T} (hF : rf_Fs n F X) (h : (List.range n).map F = L) : rf_Ls L X := by
  subst h
  refine ⟨by rw [List.length_map, List.length_range]; exact hF.1, fun k x hx => ?_⟩
  rcases Nat.lt_or_ge k n with q | q
  · rw [List.getElem?_map, List.getElem?_range q] at hx
    have : F k = x := Option.some.inj hx
    rw [← this]
    exact hF.2 k q
  · rw [List.getElem?_eq_none (by rw [List.length_map, List.length_range]; exact q)] at hx
    cases hx
theorem rf_Fs_up {n k v : Nat} {F : Nat → Nat} {X : xs_T} (hF : rf_Fs n F X) (hk : k < 2 ^ 31) : rf_Fs n (tb_up F k v) (xs_al X 38 (vp_updL (X.2.2.2 38) (nI k).toNatClampNeg (lN v))) := by
  refine ⟨hF.1, fun j hj => ?_⟩
  rw [xs_al_at]
  by_cases q : j = k
  · rw [q, xs_updL_at hk, sw_up_at]
  · rw [xs_updL_ne hk q, sw_up_ne q]
    exact hF.2 j hj
def rf_LC (X : xs_T) : Prop := ∃ v, v < 100 ∧ X.1 21 25 = nI v ∧ ∀ w h, tb_W w h → v = 10 * w + h → rf_Ls (dv_loops w h) X
theorem rf_lcfr {S : List Nat} {F : List (Nat × Nat)} {X Y : xs_T} (hL : rf_LC X) (hf : xs_fr S F X Y) (hq : (!decide (38 ∈ S) && !decide ((21, 24) ∈ F)) = true := by decide) (hq2 : decide ((21, 25) ∈ F) = false := by decide) : rf_LC Y := by
  obtain ⟨v, h1, h2, h3⟩ := hL
  exact ⟨v, h1, xs_fi hf 21 25 h2 hq2, fun w h hW he => rf_lsfr (h3 w h hW he) hf hq⟩
abbrev rf_SF : List Nat := [37, 38]
abbrev rf_FF : List (Nat × Nat) := [(21, 24), (21, 25)]
