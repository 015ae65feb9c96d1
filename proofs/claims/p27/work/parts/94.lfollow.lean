/-! the law's rounds -/
def lr_cut (X Y : xs_T) (n : Nat) : xs_T := (fun q k => if q < n then Y.1 q k else X.1 q k, fun q k => if q < n then Y.2.1 q k else X.2.1 q k, fun q => if q < n then Y.2.2.1 q else X.2.2.1 q, fun q => if q < n then Y.2.2.2 q else X.2.2.2 q)
theorem lr_cut_mem {G : jq_G} {ad : Nat → Nat} {X Y : xs_T} {n q : Nat} (hq : q < n) : xs_mem G ad (lr_cut X Y n) q = xs_mem G ad Y q := xs_mem_congr (by unfold lr_cut; funext k; exact if_pos hq) (by unfold lr_cut; funext k; exact if_pos hq) (if_pos hq) (if_pos hq)
theorem lr_cut_row {X Y : xs_T} {n q : Nat} (hq : q < n) : (lr_cut X Y n).2.2.1 q = Y.2.2.1 q := if_pos hq
theorem lr_cut_int {X Y : xs_T} {n q k : Nat} (hq : q < n) : (lr_cut X Y n).1 q k = Y.1 q k := if_pos hq
theorem lr_cut_fr {X Y : xs_T} {n : Nat} {S : List Nat} {F : List (Nat × Nat)} (h : xs_fr S F X Y) {S' : List Nat} {F' : List (Nat × Nat)} (hS : ∀ q, q ∈ S → q < n → q ∈ S') (hF : ∀ q k, (q, k) ∈ F → q < n → (q, k) ∈ F') : xs_fr S' F' X (lr_cut X Y n) := by
  refine ⟨fun q k hq => ?_, fun q hq => ?_⟩
  · by_cases z : q < n
    · have := h.1 q k (fun y => hq (hF q k y z))
      refine ⟨?_, ?_⟩
      · show (if q < n then _ else _) = _
        rw [if_pos z]; exact this.1
      · show (if q < n then _ else _) = _
        rw [if_pos z]; exact this.2
    · exact ⟨if_neg z, if_neg z⟩
  · by_cases z : q < n
    · have := h.2 q (fun y => hq (hS q y z))
      refine ⟨?_, ?_⟩
      · show (if q < n then _ else _) = _
        rw [if_pos z]; exact this.1
      · show (if q < n then _ else _) = _
        rw [if_pos z]; exact this.2
    · exact ⟨if_neg z, if_neg z⟩
theorem xm_cut2 {l : Launch} {G : jq_G} {M : jq_M} {R : Room} {Ex : jq_E} {Yy : jq_Y} {pc : Nat} {L : jq_L} {st : List Value} {n n2 : Nat} {ad ad2 : Nat → Nat} {X Y : xs_T} {cells slots : Nat} (hn : n ≤ n2) (h21 : 21 ≤ n) (ha : ∀ k, k < n → ad2 k = ad k) (k : jq_J l G M R Ex Yy pc L st n ad (xs_mem G ad (lr_cut X Y n)) cells slots) : jq_J l G M R Ex Yy pc L st n2 ad2 (xs_mem G ad2 Y) cells slots :=
  jq_rew (fun k => k) (fun k hk => ⟨Nat.lt_of_lt_of_le hk hn, ha k hk, (xs_ad h21 ha k).trans (lr_cut_mem hk).symm⟩) (fun _ _ _ _ e => e) k
def lr_rows (n qs : Nat) (X : xs_T) : Prop := qs + 4 ≤ n ∧ 24 ≤ qs ∧ (X.1 qs 0).toNatClampNeg = 24 ∧ (X.1 (qs + 1) 0).toNatClampNeg = 24 ∧ (X.1 (qs + 2) 0).toNatClampNeg = 24 ∧ (X.1 (qs + 3) 0).toNatClampNeg = 4
def lr_FS (n qs : Nat) (X Y : xs_T) (sv rd rl wv : Nat → Int32) (t0 t1 t2 : Int32) : Prop :=
  xs_fr [qs, qs + 1, qs + 2, qs + 3, n] [(n, 0)] X Y ∧ Y.1 n 0 = nI 24 ∧ (∀ j, j < 24 → Y.2.2.1 qs j = sv j) ∧ (∀ j, j < 24 → Y.2.2.1 (qs + 1) j = rd j) ∧ (∀ j, j < 24 → Y.2.2.1 (qs + 2) j = rl j) ∧ (∀ j, j < 24 → Y.2.2.1 n j = wv j) ∧ Y.2.2.1 (qs + 3) 0 = t0 ∧ Y.2.2.1 (qs + 3) 1 = t1 ∧ Y.2.2.1 (qs + 3) 2 = t2
theorem lr_up_at {x : Int32} {f : Nat → Int32} {e : Nat} {v : Int32} (h : x = tb_up f e v e) : x = v := by rw [h]; exact if_pos rfl
theorem lr_up_up {f : Nat → Int32} {e : Nat} {v u : Int32} : tb_up (tb_up f e v) e u = tb_up f e u := by
  funext j
  unfold tb_up
  split <;> rfl
theorem lr_up_self {f : Nat → Int32} {e : Nat} : tb_up f e (f e) = f := by
  funext j
  unfold tb_up
  split
  · rename_i h; rw [h]
  · rfl
theorem lr_row_up {Y : xs_T} {q e : Nat} {v : Int32} {f : Nat → Int32} (he : e < 24) (h : ∀ j, j < 24 → Y.2.2.1 q j = f j) : ∀ j, j < 24 → (xs_ai Y q (upd (Y.2.2.1 q) (nI e).toNatClampNeg v)).2.2.1 q j = tb_up f e v j := by
  intro j hj
  rw [xs_ai_at]
  unfold tb_up
  by_cases z : j = e
  · subst z
    rw [if_pos rfl, xs_upd_at (by omega)]
  · rw [if_neg z, xs_upd_ne (by omega) z]
    exact h j hj
theorem lr_row_ne {Y : xs_T} {q r : Nat} {g f : Nat → Int32} (hr : r ≠ q) (h : ∀ j, j < 24 → Y.2.2.1 r j = f j) : ∀ j, j < 24 → (xs_ai Y q g).2.2.1 r j = f j := fun j hj => by
  rw [xs_ai_ne hr]
  exact h j hj
section LF
variable {n qs : Nat} {X Y : xs_T} {sv rd rl wv : Nat → Int32} {t0 t1 t2 v : Int32} {e : Nat}
theorem lr_FS_s (hR : lr_rows n qs X) (h : lr_FS n qs X Y sv rd rl wv t0 t1 t2) (he : e < 24) : lr_FS n qs X (xs_ai Y qs (upd (Y.2.2.1 qs) (nI e).toNatClampNeg v)) (tb_up sv e v) rd rl wv t0 t1 t2 := by
  obtain ⟨r0, r1, -⟩ := hR
  obtain ⟨h1, h2, h3, h4, h5, h6, h7, h8, h9⟩ := h
  refine ⟨xs_fr_ai h1 (by simp), h2, lr_row_up he h3, lr_row_ne (by omega) h4, lr_row_ne (by omega) h5, lr_row_ne (by omega) h6, ?_, ?_, ?_⟩
  all_goals rw [xs_ai_ne (by omega)]; assumption
theorem lr_FS_r (hR : lr_rows n qs X) (h : lr_FS n qs X Y sv rd rl wv t0 t1 t2) (he : e < 24) : lr_FS n qs X (xs_ai Y (qs + 1) (upd (Y.2.2.1 (qs + 1)) (nI e).toNatClampNeg v)) sv (tb_up rd e v) rl wv t0 t1 t2 := by
  obtain ⟨r0, r1, -⟩ := hR
  obtain ⟨h1, h2, h3, h4, h5, h6, h7, h8, h9⟩ := h
  refine ⟨xs_fr_ai h1 (by simp), h2, lr_row_ne (by omega) h3, lr_row_up he h4, lr_row_ne (by omega) h5, lr_row_ne (by omega) h6, ?_, ?_, ?_⟩
  all_goals rw [xs_ai_ne (by omega)]; assumption
theorem lr_FS_l (hR : lr_rows n qs X) (h : lr_FS n qs X Y sv rd rl wv t0 t1 t2) (he : e < 24) : lr_FS n qs X (xs_ai Y (qs + 2) (upd (Y.2.2.1 (qs + 2)) (nI e).toNatClampNeg v)) sv rd (tb_up rl e v) wv t0 t1 t2 := by
  obtain ⟨r0, r1, -⟩ := hR
  obtain ⟨h1, h2, h3, h4, h5, h6, h7, h8, h9⟩ := h
  refine ⟨xs_fr_ai h1 (by simp), h2, lr_row_ne (by omega) h3, lr_row_ne (by omega) h4, lr_row_up he h5, lr_row_ne (by omega) h6, ?_, ?_, ?_⟩
  all_goals rw [xs_ai_ne (by omega)]; assumption
theorem lr_FS_w (hR : lr_rows n qs X) (h : lr_FS n qs X Y sv rd rl wv t0 t1 t2) (he : e < 24) : lr_FS n qs X (xs_ai Y n (upd (Y.2.2.1 n) (nI e).toNatClampNeg v)) sv rd rl (tb_up wv e v) t0 t1 t2 := by
  obtain ⟨r0, r1, -⟩ := hR
  obtain ⟨h1, h2, h3, h4, h5, h6, h7, h8, h9⟩ := h
  refine ⟨xs_fr_ai h1 (by simp), h2, lr_row_ne (by omega) h3, lr_row_ne (by omega) h4, lr_row_ne (by omega) h5, lr_row_up he h6, ?_, ?_, ?_⟩
  all_goals rw [xs_ai_ne (by omega)]; assumption
theorem lr_FS_0 (hR : lr_rows n qs X) (h : lr_FS n qs X Y sv rd rl wv t0 t1 t2) : lr_FS n qs X (xs_ai Y (qs + 3) (upd (Y.2.2.1 (qs + 3)) (nI 0).toNatClampNeg v)) sv rd rl wv v t1 t2 := by
  obtain ⟨r0, r1, -⟩ := hR
  obtain ⟨h1, h2, h3, h4, h5, h6, h7, h8, h9⟩ := h
  refine ⟨xs_fr_ai h1 (by simp), h2, lr_row_ne (by omega) h3, lr_row_ne (by omega) h4, lr_row_ne (by omega) h5, lr_row_ne (by omega) h6, ?_, ?_, ?_⟩
  all_goals rw [xs_ai_at]
  · exact xs_upd_at (by decide)
  · rw [xs_upd_ne (by decide) (by decide)]; exact h8
  · rw [xs_upd_ne (by decide) (by decide)]; exact h9
theorem lr_FS_1 (hR : lr_rows n qs X) (h : lr_FS n qs X Y sv rd rl wv t0 t1 t2) : lr_FS n qs X (xs_ai Y (qs + 3) (upd (Y.2.2.1 (qs + 3)) (nI 1).toNatClampNeg v)) sv rd rl wv t0 v t2 := by
  obtain ⟨r0, r1, -⟩ := hR
  obtain ⟨h1, h2, h3, h4, h5, h6, h7, h8, h9⟩ := h
  refine ⟨xs_fr_ai h1 (by simp), h2, lr_row_ne (by omega) h3, lr_row_ne (by omega) h4, lr_row_ne (by omega) h5, lr_row_ne (by omega) h6, ?_, ?_, ?_⟩
  all_goals rw [xs_ai_at]
  · rw [xs_upd_ne (by decide) (by decide)]; exact h7
  · exact xs_upd_at (by decide)
  · rw [xs_upd_ne (by decide) (by decide)]; exact h9
theorem lr_FS_2 (hR : lr_rows n qs X) (h : lr_FS n qs X Y sv rd rl wv t0 t1 t2) : lr_FS n qs X (xs_ai Y (qs + 3) (upd (Y.2.2.1 (qs + 3)) (nI 2).toNatClampNeg v)) sv rd rl wv t0 t1 v := by
  obtain ⟨r0, r1, -⟩ := hR
  obtain ⟨h1, h2, h3, h4, h5, h6, h7, h8, h9⟩ := h
  refine ⟨xs_fr_ai h1 (by simp), h2, lr_row_ne (by omega) h3, lr_row_ne (by omega) h4, lr_row_ne (by omega) h5, lr_row_ne (by omega) h6, ?_, ?_, ?_⟩
  all_goals rw [xs_ai_at]
  · rw [xs_upd_ne (by decide) (by decide)]; exact h7
  · rw [xs_upd_ne (by decide) (by decide)]; exact h8
  · exact xs_upd_at (by decide)
theorem lr_FS_ch {sv' rd' rl' wv' : Nat → Int32} (h : lr_FS n qs X Y sv rd rl wv t0 t1 t2) (h1 : ∀ j, j < 24 → sv j = sv' j) (h2 : ∀ j, j < 24 → rd j = rd' j) (h3 : ∀ j, j < 24 → rl j = rl' j) (h4 : ∀ j, j < 24 → wv j = wv' j) : lr_FS n qs X Y sv' rd' rl' wv' t0 t1 t2 :=
  ⟨h.1, h.2.1, fun j hj => (h.2.2.1 j hj).trans (h1 j hj), fun j hj => (h.2.2.2.1 j hj).trans (h2 j hj), fun j hj => (h.2.2.2.2.1 j hj).trans (h3 j hj), fun j hj => (h.2.2.2.2.2.1 j hj).trans (h4 j hj), h.2.2.2.2.2.2⟩
theorem lr_gs (h : lr_FS n qs X Y sv rd rl wv t0 t1 t2) (he : e < 24) : Y.2.2.1 qs (nI e).toNatClampNeg = sv e := xs_rd (h.2.2.1 e he) (by omega)
theorem lr_gr (h : lr_FS n qs X Y sv rd rl wv t0 t1 t2) (he : e < 24) : Y.2.2.1 (qs + 1) (nI e).toNatClampNeg = rd e := xs_rd (h.2.2.2.1 e he) (by omega)
theorem lr_gl (h : lr_FS n qs X Y sv rd rl wv t0 t1 t2) (he : e < 24) : Y.2.2.1 (qs + 2) (nI e).toNatClampNeg = rl e := xs_rd (h.2.2.2.2.1 e he) (by omega)
theorem lr_gw (h : lr_FS n qs X Y sv rd rl wv t0 t1 t2) (he : e < 24) : Y.2.2.1 n (nI e).toNatClampNeg = wv e := xs_rd (h.2.2.2.2.2.1 e he) (by omega)
theorem lr_g0 (h : lr_FS n qs X Y sv rd rl wv t0 t1 t2) : Y.2.2.1 (qs + 3) (nI 0).toNatClampNeg = t0 := xs_rd h.2.2.2.2.2.2.1 (by decide)
theorem lr_g1 (h : lr_FS n qs X Y sv rd rl wv t0 t1 t2) : Y.2.2.1 (qs + 3) (nI 1).toNatClampNeg = t1 := xs_rd h.2.2.2.2.2.2.2.1 (by decide)
theorem lr_g2 (h : lr_FS n qs X Y sv rd rl wv t0 t1 t2) : Y.2.2.1 (qs + 3) (nI 2).toNatClampNeg = t2 := xs_rd h.2.2.2.2.2.2.2.2 (by decide)
theorem lr_FS_int (h : lr_FS n qs X Y sv rd rl wv t0 t1 t2) {q : Nat} (hq : q < n) : Y.1 q 0 = X.1 q 0 := (h.1.1 q 0 (fun z => by simp at z; omega)).1
theorem lr_zs (hR : lr_rows n qs X) (h : lr_FS n qs X Y sv rd rl wv t0 t1 t2) : qs < n + 1 ∧ 21 ≤ qs ∧ (Y.1 qs 0).toNatClampNeg = 24 := by
  obtain ⟨r0, r1, r2, r3, r4, r5⟩ := hR
  exact ⟨by omega, by omega, by rw [lr_FS_int h (by omega)]; exact r2⟩
theorem lr_zr (hR : lr_rows n qs X) (h : lr_FS n qs X Y sv rd rl wv t0 t1 t2) : qs + 1 < n + 1 ∧ 21 ≤ qs + 1 ∧ (Y.1 (qs + 1) 0).toNatClampNeg = 24 := by
  obtain ⟨r0, r1, r2, r3, r4, r5⟩ := hR
  exact ⟨by omega, by omega, by rw [lr_FS_int h (by omega)]; exact r3⟩
theorem lr_zl (hR : lr_rows n qs X) (h : lr_FS n qs X Y sv rd rl wv t0 t1 t2) : qs + 2 < n + 1 ∧ 21 ≤ qs + 2 ∧ (Y.1 (qs + 2) 0).toNatClampNeg = 24 := by
  obtain ⟨r0, r1, r2, r3, r4, r5⟩ := hR
  exact ⟨by omega, by omega, by rw [lr_FS_int h (by omega)]; exact r4⟩
theorem lr_zt (hR : lr_rows n qs X) (h : lr_FS n qs X Y sv rd rl wv t0 t1 t2) : qs + 3 < n + 1 ∧ 21 ≤ qs + 3 ∧ (Y.1 (qs + 3) 0).toNatClampNeg = 4 := by
  obtain ⟨r0, r1, r2, r3, r4, r5⟩ := hR
  exact ⟨by omega, by omega, by rw [lr_FS_int h (by omega)]; exact r5⟩
theorem lr_zw (hR : lr_rows n qs X) (h : lr_FS n qs X Y sv rd rl wv t0 t1 t2) : n < n + 1 ∧ 21 ≤ n ∧ (Y.1 n 0).toNatClampNeg = 24 := by
  obtain ⟨r0, r1, -⟩ := hR
  exact ⟨by omega, by omega, by rw [h.2.1]; decide⟩
theorem lr_FS_B {w k : Nat} (hR : lr_rows n qs X) (hB : lr_B n w k X) (h : lr_FS n qs X Y sv rd rl wv t0 t1 t2) : lr_B (n + 1) w k Y := by
  obtain ⟨r0, r1, -⟩ := hR
  have e1 : Y.2.2.1 21 = X.2.2.1 21 := (h.1.2 21 (fun z => by simp at z; omega)).1
  exact ⟨⟨by omega, by decide, by rw [lr_FS_int h (by omega)]; exact hB.1.2.2⟩, by rw [e1]; exact hB.2.1, by rw [e1]; exact hB.2.2.1, hB.2.2.2⟩
theorem lr_FS_N {w k : Nat} {num : Nat → Int32} (hR : lr_rows n qs X) (hN : lr_N n w k num X) (h : lr_FS n qs X Y sv rd rl wv t0 t1 t2) : lr_N (n + 1) w k num Y := by
  obtain ⟨r0, r1, -⟩ := hR
  have e1 : Y.2.2.1 22 = X.2.2.1 22 := (h.1.2 22 (fun z => by simp at z; omega)).1
  exact ⟨⟨by omega, by decide, by rw [lr_FS_int h (by omega)]; exact hN.1.2.2⟩, fun c hc => by rw [e1]; exact hN.2 c hc⟩
theorem lr_FS_M {w k : Nat} {mk : Nat → Nat} (hR : lr_rows n qs X) (hM : lr_S n w k 23 mk X) (h : lr_FS n qs X Y sv rd rl wv t0 t1 t2) : lr_S (n + 1) w k 23 mk Y := by
  obtain ⟨r0, r1, -⟩ := hR
  have e1 : Y.2.2.1 23 = X.2.2.1 23 := (h.1.2 23 (fun z => by simp at z; omega)).1
  exact ⟨⟨by omega, by decide, by rw [lr_FS_int h (by omega)]; exact hM.1.2.2⟩, fun c hc => by rw [e1]; exact hM.2 c hc⟩
theorem lr_FS_S {w k : Nat} {st : Nat → Nat} (hk : lr_k w k) (hR : lr_rows n qs X) (h : lr_FS n qs X Y sv rd rl wv t0 t1 t2) (hs : ∀ j, j < tb_ne w k → sv j = nI (st j) ∧ st j ≤ 2) : lr_S (n + 1) w k qs st Y := by
  have hz := lr_sz hk
  exact ⟨lr_zs hR h, fun j hj => ⟨(lr_gs h (by omega)).trans (hs j hj).1, (hs j hj).2⟩⟩
end LF
theorem lr_t0 : vp_in (nI 0) 4 := vp_inN (by decide) (by decide)
theorem lr_t1 : vp_in (nI 1) 4 := vp_inN (by decide) (by decide)
theorem lr_t2 : vp_in (nI 2) 4 := vp_inN (by decide) (by decide)
/-! the rules asked one after the other, the last first -/
def lr_wo (f : Nat → Nat) : Nat → Nat
  | 0 => 0
  | m + 1 => lr_wo f m ||| f (7 - m)
def lr_wm (f : Nat → Nat) (r : Int32) : Nat → Int32
  | 0 => r
  | m + 1 => if 0 < f (7 - m) then nI (7 - m) else lr_wm f r m
theorem lr_wo_7 (f : Nat → Nat) : lr_wo f 7 = lr_o f := rfl
theorem lr_wm_7 (f : Nat → Nat) (r : Int32) : lr_wm f r 7 = if lr_m f = 0 then r else nI (lr_m f) := by
  show (if 0 < f 1 then nI 1 else if 0 < f 2 then nI 2 else if 0 < f 3 then nI 3 else if 0 < f 4 then nI 4 else if 0 < f 5 then nI 5 else if 0 < f 6 then nI 6 else if 0 < f 7 then nI 7 else r) = _
  unfold lr_m
  by_cases q1 : 0 < f 1
  · simp [q1]
  · by_cases q2 : 0 < f 2
    · simp [q1, q2]
    · by_cases q3 : 0 < f 3
      · simp [q1, q2, q3]
      · by_cases q4 : 0 < f 4
        · simp [q1, q2, q3, q4]
        · by_cases q5 : 0 < f 5
          · simp [q1, q2, q3, q4, q5]
          · by_cases q6 : 0 < f 6
            · simp [q1, q2, q3, q4, q5, q6]
            · by_cases q7 : 0 < f 7
              · simp [q1, q2, q3, q4, q5, q6, q7]
              · simp [q1, q2, q3, q4, q5, q6, q7]
theorem lr_m_0 {f : Nat → Nat} : lr_m f = 0 ↔ lr_o f = 0 := by
  have key : ∀ a b : Nat, a ||| b = 0 ↔ a = 0 ∧ b = 0 := fun a b => Nat.or_eq_zero_iff
  unfold lr_o lr_m
  simp only [key]
  constructor
  · intro h
    repeat' split at h
    all_goals first | omega | (exact ⟨⟨⟨⟨⟨⟨⟨trivial, by omega⟩, by omega⟩, by omega⟩, by omega⟩, by omega⟩, by omega⟩, by omega⟩)
  · rintro ⟨⟨⟨⟨⟨⟨⟨-, h7⟩, h6⟩, h5⟩, h4⟩, h3⟩, h2⟩, h1⟩
    rw [h1, h2, h3, h4, h5, h6, h7]
    rfl
theorem lr_o_le {w h : Nat} {num : Nat → Int32} {st : Nat → Nat} {e : Nat} (hW : tb_W w h) (he : e < tb_ne w h) : True := trivial
/-- the lowest edge that is wanted -/
def lr_hn (W : Nat → Nat) : Nat → Int32
  | 0 => -1
  | e + 1 => if lr_hn W e < 0 ∧ 0 < W e then nI e else lr_hn W e
theorem lr_hn_eq {W : Nat → Nat} : ∀ e, e < 1000 → ((∀ j, j < e → W j = 0) ∧ lr_hn W e = -1) ∨ ∃ f, f < e ∧ 0 < W f ∧ (∀ j, j < f → W j = 0) ∧ lr_hn W e = nI f
  | 0, _ => Or.inl ⟨fun j hj => absurd hj (Nat.not_lt_zero j), rfl⟩
  | e + 1, he => by
    rw [lr_hn]
    rcases lr_hn_eq (W := W) e (by omega) with ⟨h1, h2⟩ | ⟨f, hf, h1, h2, h3⟩
    · rw [h2]
      rcases Nat.eq_zero_or_pos (W e) with z | z
      · left
        rw [if_neg (fun y => by omega)]
        refine ⟨fun j hj => ?_, rfl⟩
        rcases Nat.lt_or_ge j e with y | y
        · exact h1 j y
        · rw [show j = e by omega]; exact z
      · right
        rw [if_pos ⟨by decide, z⟩]
        exact ⟨e, by omega, z, h1, rfl⟩
    · right
      rw [h3, if_neg (fun y => nI_pos (show f < 2 ^ 31 by omega) y.1)]
      exact ⟨f, by omega, h1, h2, rfl⟩
theorem lr_hn_first {W : Nat → Nat} {N : Nat} (hN : N < 1000) : lr_hn W N = if fa_first (fun e => !(W e == 0)) N < N then nI (fa_first (fun e => !(W e == 0)) N) else -1 := by
  rcases lr_hn_eq (W := W) N hN with ⟨h1, h2⟩ | ⟨f, hf, h1, h2, h3⟩
  · rw [h2, lr_first_none (fun j hj => by simp [h1 j hj]), if_neg (Nat.lt_irrefl _)]
  · have e : fa_first (fun e => !(W e == 0)) N = f := lr_first hf (by
      have : W f ≠ 0 := by omega
      simp [this]) (fun j hj => by simp [h2 j hj])
    rw [h3, e, if_pos hf]
def lr_F (n w h qs : Nat) (g : tb_Go) (hv : Int32) (X X' : xs_T) : Prop := xs_fr [qs, qs + 1, qs + 2, qs + 3] [] X X' ∧ lr_S n w h qs g.1 X' ∧ (∀ j, j < tb_ne w h → X'.2.2.1 (qs + 1) (nI j).toNatClampNeg = g.2.1 j ∧ X'.2.2.1 (qs + 2) (nI j).toNatClampNeg = g.2.2.1 j) ∧
  X'.2.2.1 (qs + 3) (nI 0).toNatClampNeg = nI g.2.2.2.1 ∧ X'.2.2.1 (qs + 3) (nI 1).toNatClampNeg = nI g.2.2.2.2 ∧ X'.2.2.1 (qs + 3) (nI 2).toNatClampNeg = hv
theorem lr_FS_F {n w h qs : Nat} {X Y : xs_T} {sv rd rl wv : Nat → Int32} {t0 t1 t2 : Int32} {st : Nat → Nat} {rd' rl' : Nat → Int32} {c en : Nat} (hk : lr_k w h) (hR : lr_rows n qs X) (hF : lr_FS n qs X Y sv rd rl wv t0 t1 t2) (hs : ∀ j, j < tb_ne w h → sv j = nI (st j) ∧ st j ≤ 2) (hr : ∀ j, j < tb_ne w h → rd j = rd' j ∧ rl j = rl' j) (h0 : t0 = nI c) (h1 : t1 = nI en) : lr_F n w h qs (st, rd', rl', c, en) t2 X (lr_cut X Y n) := by
  have hz := lr_sz hk
  have hS := lr_FS_S hk hR hF hs
  obtain ⟨r0, r1, -⟩ := id hR
  have e0 : ∀ q, q < n → (lr_cut X Y n).2.2.1 q = Y.2.2.1 q := fun q hq => lr_cut_row hq
  refine ⟨lr_cut_fr hF.1 (fun q hq hn => by simp at hq ⊢; omega) (fun q k hq hn => by simp at hq; omega), ⟨⟨by omega, by omega, by rw [lr_cut_int (by omega)]; exact hS.1.2.2⟩, fun j hj => by rw [e0 qs (by omega)]; exact hS.2 j hj⟩, fun j hj => ⟨?_, ?_⟩, ?_, ?_, ?_⟩
  · rw [e0 _ (by omega), lr_gr hF (by omega)]; exact (hr j hj).1
  · rw [e0 _ (by omega), lr_gl hF (by omega)]; exact (hr j hj).2
  · rw [e0 _ (by omega), lr_g0 hF]; exact h0
  · rw [e0 _ (by omega), lr_g1 hF]; exact h1
  · rw [e0 _ (by omega), lr_g2 hF]
