/-! at most 9349 loops: counted by the kernel on the board of 4 by 4, where all others have fewer sets of cells -/
noncomputable def lq_at {α : Type} (f : Nat → α) (x : Nat) : α := Nat.rec (motive := fun _ => α) (f 0) (fun n _ => f (n + 1)) x
theorem lq_at_eq {α : Type} (f : Nat → α) (x : Nat) : lq_at f x = f x := by cases x <;> rfl
noncomputable def lq_ps (S : Nat) (l : List Nat) : Nat → Nat := List.rec (motive := fun _ => Nat → Nat) (fun V => V) (fun p _ ih V => cond (Nat.beq (Nat.land V p) 0) (ih V) (lq_at ih (Nat.lor V (Nat.land S p)))) l
noncomputable def lq_gr (S : Nat) (ps : List Nat) (k : Nat) : Nat → Nat := Nat.rec (motive := fun _ => Nat → Nat) (fun V => V) (fun _ ih V => lq_at (fun B => cond (Nat.beq B V) V (ih B)) (lq_ps S ps V)) k
noncomputable def lq_lo (S : Nat) (l : List Nat) : Nat := List.rec (motive := fun _ => Nat) 0 (fun m _ ih => cond (Nat.beq (Nat.land S m) 0) ih m) l
noncomputable def lq_lf (ps lows : List Nat) (S : Nat) : Nat := cond (Nat.beq S 0) 0 (cond (Nat.beq (lq_gr S ps 40 (lq_lo S lows)) S) 1 0)
noncomputable def lq_tr (ps lows : List Nat) (l : List (Nat × Nat)) : Nat → Nat := List.rec (motive := fun _ => Nat → Nat) (fun S => lq_lf ps lows S) (fun ap _ ih S => Nat.add (cond (Nat.beq (Nat.land S ap.2) ap.2) 0 (ih S)) (lq_at (fun T => cond (Nat.beq (Nat.land T ap.2) ap.2) 0 (ih T)) (Nat.xor S ap.1))) l
def lq_fr : List (Nat × Nat) → Nat → List Nat
  | [], S => [S]
  | (a, p) :: t, S => (if S &&& p = p then [] else lq_fr t S) ++ (if (S ^^^ a) &&& p = p then [] else lq_fr t (S ^^^ a))
theorem lq_tr_cons (ps lows : List Nat) (a p : Nat) (t : List (Nat × Nat)) (S : Nat) : lq_tr ps lows ((a, p) :: t) S = (if S &&& p = p then 0 else lq_tr ps lows t S) + (if (S ^^^ a) &&& p = p then 0 else lq_tr ps lows t (S ^^^ a)) := by
  have hc : ∀ (x y z : Nat), cond (Nat.beq x y) 0 z = if x = y then 0 else z := by
    intro x y z
    by_cases q : x = y
    · subst q; rw [if_pos rfl, Nat.beq_refl]; rfl
    · rw [if_neg q]
      have : Nat.beq x y = false := by
        rw [← Bool.not_eq_true]; exact fun w => q (Nat.eq_of_beq_eq_true w)
      rw [this]; rfl
  show Nat.add (cond (Nat.beq (S &&& p) p) 0 (lq_tr ps lows t S)) (lq_at (fun T => cond (Nat.beq (T &&& p) p) 0 (lq_tr ps lows t T)) (S ^^^ a)) = _
  rw [lq_at_eq, hc, hc]; rfl
theorem lq_tr_app (ps lows : List Nat) (t : List (Nat × Nat)) : ∀ (l : List (Nat × Nat)) (S : Nat), lq_tr ps lows (l ++ t) S = ((lq_fr l S).map (lq_tr ps lows t)).sum
  | [], S => by simp [lq_fr]
  | (a, p) :: l, S => by
    rw [List.cons_append, lq_tr_cons, lq_tr_app ps lows t l S, lq_tr_app ps lows t l (S ^^^ a), lq_fr, List.map_append, List.sum_append]
    congr 1
    · split <;> rfl
    · split <;> rfl
theorem lq_ps_cons (S p : Nat) (t : List Nat) (V : Nat) : lq_ps S (p :: t) V = lq_ps S t (if V &&& p = 0 then V else V ||| (S &&& p)) := by
  show cond (Nat.beq (V &&& p) 0) (lq_ps S t V) (lq_at (lq_ps S t) (V ||| (S &&& p))) = _
  rw [lq_at_eq]
  by_cases q : V &&& p = 0
  · rw [if_pos q, q]; rfl
  · rw [if_neg q]
    have : Nat.beq (V &&& p) 0 = false := by
      rw [← Bool.not_eq_true]; exact fun w => q (Nat.eq_of_beq_eq_true w)
    rw [this]; rfl
def lq_pl (w h : Nat) : Nat → Nat → List Nat
  | 0, _ => []
  | n + 1, p => dv_ep w h p :: lq_pl w h n (p + 1)
theorem lq_ps_eq (w h S V : Nat) : ∀ n p, lq_ps S (lq_pl w h n p) (dv_pass w h S p V) = dv_pass w h S (p + n) V
  | 0, p => rfl
  | n + 1, p => by
    rw [lq_pl, lq_ps_cons]
    have : (if dv_pass w h S p V &&& dv_ep w h p = 0 then dv_pass w h S p V else dv_pass w h S p V ||| (S &&& dv_ep w h p)) = dv_pass w h S (p + 1) V := rfl
    rw [this, lq_ps_eq w h S V n (p + 1)]
    congr 1
    omega
theorem lq_gr_eq (w h S : Nat) : ∀ k V, lq_gr S (lq_pl w h (tb_np w h) 0) k V = dv_grow w h S k V
  | 0, V => rfl
  | k + 1, V => by
    show lq_at (fun B => cond (Nat.beq B V) V (lq_gr S (lq_pl w h (tb_np w h) 0) k B)) (lq_ps S (lq_pl w h (tb_np w h) 0) V) = _
    have e1 : lq_ps S (lq_pl w h (tb_np w h) 0) V = dv_pass w h S (tb_np w h) V := by
      have := lq_ps_eq w h S V (tb_np w h) 0
      rw [Nat.zero_add] at this
      exact this
    rw [lq_at_eq, e1, dv_grow]
    by_cases q : dv_pass w h S (tb_np w h) V = V
    · rw [if_pos q, q, Nat.beq_refl]; rfl
    · rw [if_neg q, lq_gr_eq w h S k]
      have : Nat.beq (dv_pass w h S (tb_np w h) V) V = false := by
        rw [← Bool.not_eq_true]; exact fun w => q (Nat.eq_of_beq_eq_true w)
      rw [this]; rfl
def lq_ll : Nat → Nat → List Nat
  | 0, _ => []
  | n + 1, j => 2 ^ j :: lq_ll n (j + 1)
theorem lq_lo_cons (S m : Nat) (t : List Nat) : lq_lo S (m :: t) = if S &&& m = 0 then lq_lo S t else m := by
  show cond (Nat.beq (S &&& m) 0) (lq_lo S t) m = _
  by_cases q : S &&& m = 0
  · rw [if_pos q, q]; rfl
  · rw [if_neg q]
    have : Nat.beq (S &&& m) 0 = false := by
      rw [← Bool.not_eq_true]; exact fun w => q (Nat.eq_of_beq_eq_true w)
    rw [this]; rfl
theorem lq_lo_eq {S j0 : Nat} (h1 : S.testBit j0 = true) (h0 : ∀ i, i < j0 → S.testBit i = false) : ∀ n j, j ≤ j0 → j0 < j + n → lq_lo S (lq_ll n j) = 2 ^ j0
  | 0, j, a, b => by omega
  | n + 1, j, a, b => by
    rw [lq_ll, lq_lo_cons]
    rcases Nat.lt_or_ge j j0 with z | z
    · rw [if_pos ((fb_bit_nat S j).mpr (h0 j z))]
      exact lq_lo_eq h1 h0 n (j + 1) (by omega) (by omega)
    · have e1 : j = j0 := by omega
      subst e1
      rw [if_neg (fun q => by rw [(fb_bit_nat S j).mp q] at h1; cases h1)]
theorem lq_lf_y {w h S : Nat} (hS : S < 2 ^ 40) (hl : dv_isLoop w h S = true) : lq_lf (lq_pl w h (tb_np w h) 0) (lq_ll 40 0) S = 1 := by
  unfold dv_isLoop at hl
  rw [Bool.and_eq_true, Bool.and_eq_true, Bool.not_eq_true', beq_eq_false_iff_ne, beq_iff_eq] at hl
  obtain ⟨_, h0, hf⟩ := hl
  obtain ⟨j, j1, j2, j3⟩ := dv_low_y (Nat.lt_trans hS (by decide)) h0
  have hj : j < 40 := by
    rcases Nat.lt_or_ge j 40 with z | z
    · exact z
    · rw [bm_hi hS z] at j1; cases j1
  have e1 : Nat.beq S 0 = false := by
    rw [← Bool.not_eq_true]; exact fun w => h0 (Nat.eq_of_beq_eq_true w)
  unfold lq_lf
  rw [e1, lq_lo_eq j1 j3 40 0 (Nat.zero_le _) (by omega), ← j2, lq_gr_eq]
  show cond (Nat.beq (dv_fw w h S) S) 1 0 = 1
  rw [hf, Nat.beq_refl]; rfl
def lq_P (w h c : Nat) : Nat := if 3 ≤ pc_n (dv_ep w h (dv_cor w c)) then dv_ep w h (dv_cor w c) else 2 ^ 41
def lq_cl (w h : Nat) : Nat → Nat → List (Nat × Nat)
  | 0, _ => []
  | k + 1, c => (dv_ea w h c, lq_P w h c) :: lq_cl w h k (c + 1)
theorem lq_fork {w h : Nat} (hW : tb_W w h) {k c S : Nat} (hS : S < 2 ^ 40) (hk : c + 1 + k = tb_nc w h) (hp : S &&& lq_P w h c = lq_P w h c) : dv_tree w h k (c + 1) S = [] := by
  unfold lq_P at hp
  split at hp
  · rename_i h3
    refine dv_tree_fork hW hk ?_
    rw [← dv_pc hW, hp]
    omega
  · exfalso
    have : (S &&& 2 ^ 41).testBit 41 = true := by rw [hp, Nat.testBit_two_pow]; rfl
    rw [Nat.testBit_and, bm_hi hS (by decide)] at this
    cases this
theorem lq_tree_le {w h : Nat} (hW : tb_W w h) : ∀ k c S, c + k = tb_nc w h → S < 2 ^ 40 → (dv_tree w h k c S).length ≤ lq_tr (lq_pl w h (tb_np w h) 0) (lq_ll 40 0) (lq_cl w h k c) S
  | 0, c, S, hk, hS => by
    show _ ≤ lq_lf (lq_pl w h (tb_np w h) 0) (lq_ll 40 0) S
    rw [dv_tree]
    split
    · rename_i hl
      rw [lq_lf_y hS hl]
      exact Nat.le_refl 1
    · exact Nat.zero_le _
  | k + 1, c, S, hk, hS => by
    have hx := dv_xor_lt (a := c) hW hS
    have i1 := lq_tree_le hW k (c + 1) S (by omega) hS
    have i2 := lq_tree_le hW k (c + 1) (S ^^^ dv_ea w h c) (by omega) hx
    rw [lq_cl, lq_tr_cons]
    have hl : (dv_tree w h (k + 1) c S).length = (dv_tree w h k (c + 1) S).length + (dv_tree w h k (c + 1) (S ^^^ dv_ea w h c)).length := by
      rw [dv_tree]
      split
      · rw [List.length_append]
      · rw [List.length_append, Nat.add_comm]
    rw [hl]
    apply Nat.add_le_add
    · split
      · rename_i hp
        rw [lq_fork hW hS (by omega) hp]
        exact Nat.le_refl 0
      · exact i1
    · split
      · rename_i hp
        rw [lq_fork hW hx (by omega) hp]
        exact Nat.le_refl 0
      · exact i2
def lq_ps44 : List Nat := [1048577, 2097155, 4194310, 8388620, 16777224, 34603024, 69206064, 138412128, 276824256, 553648256, 1107296512, 2214593280, 4429186560, 8858373120, 17716742144, 35433484288, 70866972672, 141733945344, 283467890688, 566935715840, 34359803904, 68719673344, 137439346688, 274878693376, 549756338176]
def lq_lo44 : List Nat := [1, 2, 4, 8, 16, 32, 64, 128, 256, 512, 1024, 2048, 4096, 8192, 16384, 32768, 65536, 131072, 262144, 524288, 1048576, 2097152, 4194304, 8388608, 16777216, 33554432, 67108864, 134217728, 268435456, 536870912, 1073741824, 2147483648, 4294967296, 8589934592, 17179869184, 34359738368, 68719476736, 137438953472, 274877906944, 549755813888]
def lq_pr44 : List (Nat × Nat) := [(3145745, 2199023255552), (6291490, 2097155), (12582980, 4194310), (25165960, 8388620), (100663568, 34603024), (201327136, 69206064), (402654272, 138412128), (805308544, 276824256), (3221229824, 1107296512), (6442459648, 2214593280), (12884919296, 4429186560), (25769838592, 8858373120), (103079284736, 35433484288), (206158569472, 70866972672), (412317138944, 141733945344), (824634277888, 283467890688)]
def lq_a44 : List (Nat × Nat) := [(3145745, 2199023255552), (6291490, 2097155), (12582980, 4194310), (25165960, 8388620), (100663568, 34603024)]
def lq_b44 : List (Nat × Nat) := [(201327136, 69206064), (402654272, 138412128), (805308544, 276824256), (3221229824, 1107296512), (6442459648, 2214593280), (12884919296, 4429186560), (25769838592, 8858373120), (103079284736, 35433484288), (206158569472, 70866972672), (412317138944, 141733945344), (824634277888, 283467890688)]
theorem lq_ps44_eq : lq_pl 4 4 (tb_np 4 4) 0 = lq_ps44 := by decide +kernel
theorem lq_lo44_eq : lq_ll 40 0 = lq_lo44 := by decide +kernel
theorem lq_pr44_eq : lq_cl 4 4 16 0 = lq_a44 ++ lq_b44 := by decide +kernel
theorem lq_fr44 : lq_fr lq_a44 0 = [0, 100663568, 25165960, 125829528, 12582980, 113246548, 20971724, 121635292, 6291490, 106955058, 31457450, 132121018, 10485862, 111149430, 18874606, 119538174, 3145745, 103809281, 28311705, 128975241, 15728725, 116392261, 24117469, 124781005, 5242931, 105906467, 30408891, 131072427, 9437303, 110100839, 17826047, 118489583] := by decide +kernel
