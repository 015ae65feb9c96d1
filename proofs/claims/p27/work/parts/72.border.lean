/-! the reference's border of a set of cells -/
section JQS
variable {l : Launch} {G : jq_G} {M : jq_M} {R : Room} {Ex : jq_E} {Y : jq_Y} {pc : Nat} {L : jq_L} {st : List Value} {n : Nat} {ad : Nat → Nat} {mem : Nat → va_E} {cells slots : Nat}
theorem jq_ishl {x y v : Int32} (hd : decode M.2.1 pc = .ok (.ishl, 1)) (hv : x <<< (y &&& 31) = v) (k : jq_J l G M R Ex Y (pc + 1) L (.int v :: st) n ad mem cells slots) : jq_J l G M R Ex Y pc L (.int y :: .int x :: st) n ad mem cells slots := by
  subst hv
  exact fun p e s m args below meth c A hC hE H locs ls hl hP hD hS => lv_ishl hC.1.1 hC.1.2.1 hd (k p e s m args below meth c A hC hE H locs ls hl hP hD hS)
theorem jq_ishr {x y v : Int32} (hd : decode M.2.1 pc = .ok (.ishr, 1)) (hv : x >>> (y &&& 31) = v) (k : jq_J l G M R Ex Y (pc + 1) L (.int v :: st) n ad mem cells slots) : jq_J l G M R Ex Y pc L (.int y :: .int x :: st) n ad mem cells slots := by
  subst hv
  exact fun p e s m args below meth c A hC hE H locs ls hl hP hD hS => lv_ishr hC.1.1 hC.1.2.1 hd (k p e s m args below meth c A hC hE H locs ls hl hP hD hS)
end JQS
theorem ix_bt {m i : Nat} (hi : i < 32) : bt (nI m) i = m.testBit i := by
  show (BitVec.ofNat 32 m).getLsbD i = m.testBit i
  rw [BitVec.getLsbD_ofNat, decide_eq_true hi, Bool.true_and]
theorem ix_shr {C a : Nat} (hC : C < 2 ^ 31) (ha : a < 32) : nI C >>> (nI a &&& 31) = nI (C / 2 ^ a) := by
  apply b_ext
  intro i hi
  rw [b_sshr a ha _ hi, ix_bt hi, Nat.testBit_div_two_pow]
  by_cases q : a + i < 32
  · rw [if_pos q, ix_bt q, Nat.add_comm]
  · rw [if_neg q, ix_bt (by decide), bm_hi hC (Nat.le_refl _), bm_hi hC (by omega)]
theorem ix_shl1 : ∀ c, c < 31 → nI 1 <<< (nI c &&& 31) = nI (2 ^ c) := by decide +kernel
theorem ix_s64 : ∀ e, e < 64 → (((nI e).toInt64 &&& 63).toBitVec.smod 64).toNat = e := by decide +kernel
theorem ix_bit (S e : Nat) : S / 2 ^ e &&& 1 = if S.testBit e = true then 1 else 0 := by
  rw [Nat.and_one_is_mod, Nat.testBit_eq_decide_div_mod_eq]
  have := Nat.mod_lt (S / 2 ^ e) (show 0 < 2 by decide)
  by_cases q : S / 2 ^ e % 2 = 1
  · rw [q]; rfl
  · rw [if_neg (by simpa using q)]; omega
theorem ix_b1 {b : Bool} : (if b = true then 1 else 0) < 2 ^ 31 := by cases b <;> decide
theorem ix_beq {a b : Bool} : (if a = true then 1 else 0) = (if b = true then (1 : Nat) else 0) ↔ a = b := by cases a <;> cases b <;> decide
/-- the first place where p holds, as the reference keeps it -/
def rf_F1 (p : Nat → Bool) (e : Nat) (v : Int32) : Prop := (v = -1 ∧ ∀ j, j < e → p j = false) ∨ ∃ f, f < e ∧ p f = true ∧ (∀ j, j < f → p j = false) ∧ v = nI f
theorem rf_F1_n {p : Nat → Bool} {e : Nat} {v : Int32} (h : rf_F1 p e v) (hp : p e = false) : rf_F1 p (e + 1) v := by
  rcases h with ⟨h1, h2⟩ | ⟨f, h1, h2, h3, h4⟩
  · refine Or.inl ⟨h1, fun j hj => ?_⟩
    rcases Nat.lt_or_ge j e with q | q
    · exact h2 j q
    · rw [show j = e by omega]; exact hp
  · exact Or.inr ⟨f, by omega, h2, h3, h4⟩
theorem rf_F1_y {p : Nat → Bool} {e : Nat} {v : Int32} (he : e < 100) (h : rf_F1 p e v) (hp : p e = true) : (v = -1 → rf_F1 p (e + 1) (nI e)) ∧ (v ≠ -1 → rf_F1 p (e + 1) v) := by
  rcases h with ⟨h1, h2⟩ | ⟨f, h1, h2, h3, h4⟩
  · exact ⟨fun _ => Or.inr ⟨e, by omega, hp, h2, rfl⟩, fun q => absurd h1 q⟩
  · refine ⟨fun q => ?_, fun _ => Or.inr ⟨f, by omega, h2, h3, h4⟩⟩
    rw [h4] at q
    exact absurd q (nI_m1 (by omega))
theorem fa_ct1 {p : Nat → Bool} {e : Nat} (h : p e = true) : fb_ct p (e + 1) = fb_ct p e + 1 := by rw [fb_ct_succ, if_pos h]
theorem fa_ct0 {p : Nat → Bool} {e : Nat} (h : p e = false) : fb_ct p (e + 1) = fb_ct p e := by rw [fb_ct_succ, if_neg (by rw [h]; decide), Nat.add_zero]
abbrev dv_P (w h C e : Nat) : Bool := C.testBit (tb_are w h e) != C.testBit (tb_bes w h e)
