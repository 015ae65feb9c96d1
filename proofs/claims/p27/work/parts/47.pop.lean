/-! how many bits of a long are set: the sums within its bytes -/
def pc_n (m : Nat) : Nat := fb_ct (fun k => m.testBit k) 64
def pc_8 (r : Nat) : Nat := fb_ct (fun k => r.testBit k) 8
def pc_mk (x : Nat) : Nat → Nat
  | 0 => 0
  | w + 1 => 256 * pc_mk x w + x
def pc_s1 (w m : Nat) : Nat := m - ((m / 2) &&& pc_mk 85 w)
def pc_s2 (w m : Nat) : Nat := (m &&& pc_mk 51 w) + ((m / 4) &&& pc_mk 51 w)
def pc_s3 (w m : Nat) : Nat := (m + m / 16) &&& pc_mk 15 w
theorem pc_and {A B a b : Nat} (ha : a < 256) (hb : b < 256) : (256 * A + a) &&& (256 * B + b) = 256 * (A &&& B) + (a &&& b) := by
  apply Nat.eq_of_testBit_eq
  intro i
  have h1 : a &&& b < 2 ^ 8 := Nat.lt_of_le_of_lt Nat.and_le_left ha
  have e1 := Nat.testBit_two_pow_mul_add (i := 8) A ha i
  have e2 := Nat.testBit_two_pow_mul_add (i := 8) B hb i
  have e3 := Nat.testBit_two_pow_mul_add (i := 8) (A &&& B) h1 i
  rw [show (2 : Nat) ^ 8 = 256 from rfl] at e1 e2 e3
  rw [Nat.testBit_and, e1, e2, e3]
  split
  · rw [Nat.testBit_and]
  · rw [Nat.testBit_and]
theorem pc_b1 : ∀ r, r < 256 → ∀ c, c < 2 → (128 * c + r / 2) &&& 85 = (r / 2) &&& 85 ∧ (r / 2) &&& 85 ≤ r ∧ (r - ((r / 2) &&& 85)) < 256 := by decide +kernel
theorem pc_b2 : ∀ r, r < 256 → ∀ c, c < 4 → (64 * c + r / 4) &&& 51 = (r / 4) &&& 51 := by decide +kernel
theorem pc_b3 : ∀ r, r < 256 → ∀ c, c < 16 → (r &&& 51) + ((r / 4) &&& 51) < 256 := by decide +kernel
/-- the three sums within one byte -/
def pc_y1 (r : Nat) : Nat := r - ((r / 2) &&& 85)
def pc_y2 (r : Nat) : Nat := (r &&& 51) + ((r / 4) &&& 51)
def pc_y3 (r : Nat) : Nat := (r + r / 16) &&& 15
theorem pc_y : ∀ r, r < 256 → pc_y3 (pc_y2 (pc_y1 r)) = pc_8 r ∧ pc_8 r ≤ 8 ∧ pc_y1 r < 256 ∧ pc_y2 (pc_y1 r) < 256 ∧ pc_y2 (pc_y1 r) % 16 ≤ 4 ∧ pc_y2 (pc_y1 r) / 16 ≤ 4 := by decide +kernel
theorem pc_b4 : ∀ y, y < 256 → y % 16 ≤ 4 → y / 16 ≤ 4 → ∀ c, c ≤ 4 → (y + (16 * c + y / 16)) < 256 ∧ (y + (16 * c + y / 16)) &&& 15 = (y + y / 16) &&& 15 := by decide +kernel
theorem pc_e1 {w q r : Nat} (hr : r < 256) (hq : (q / 2) &&& pc_mk 85 w ≤ q) : pc_s1 (w + 1) (256 * q + r) = 256 * pc_s1 w q + pc_y1 r ∧ ((256 * q + r) / 2) &&& pc_mk 85 (w + 1) ≤ 256 * q + r := by
  have h1 := pc_b1 r hr (q % 2) (Nat.mod_lt _ (by decide))
  have e : (256 * q + r) / 2 = 256 * (q / 2) + (128 * (q % 2) + r / 2) := by omega
  have e2 : ((256 * q + r) / 2) &&& pc_mk 85 (w + 1) = 256 * ((q / 2) &&& pc_mk 85 w) + ((r / 2) &&& 85) := by
    rw [e, pc_mk, pc_and (by omega) (by decide), h1.1]
  unfold pc_s1 pc_y1
  rw [e2]
  constructor <;> omega
theorem pc_le1 : ∀ (w q : Nat), q < 256 ^ w → (q / 2) &&& pc_mk 85 w ≤ q
  | 0, q, hq => by
    have : q = 0 := by simpa using hq
    subst this; decide
  | w + 1, q, hq => by
    have ih := pc_le1 w (q / 256) (by rw [Nat.pow_succ] at hq; omega)
    have h := (pc_e1 (w := w) (q := q / 256) (r := q % 256) (Nat.mod_lt _ (by decide)) ih).2
    rw [show 256 * (q / 256) + q % 256 = q by omega] at h
    exact h
theorem pc_e2 {w q r : Nat} (hr : r < 256) : pc_s2 (w + 1) (256 * q + r) = 256 * pc_s2 w q + pc_y2 r := by
  have h1 := pc_b2 r hr (q % 4) (Nat.mod_lt _ (by decide))
  have e : (256 * q + r) / 4 = 256 * (q / 4) + (64 * (q % 4) + r / 4) := by omega
  unfold pc_s2 pc_y2
  rw [e, pc_mk, pc_and hr (by decide), pc_and (by omega) (by decide), h1]
  omega
theorem pc_e3 {w q y : Nat} (hy : y < 256) (h1 : y % 16 ≤ 4) (h2 : y / 16 ≤ 4) (h3 : q % 16 ≤ 4) : pc_s3 (w + 1) (256 * q + y) = 256 * pc_s3 w q + pc_y3 y := by
  have hb := pc_b4 y hy h1 h2 (q % 16) h3
  have e : 256 * q + y + (256 * q + y) / 16 = 256 * (q + q / 16) + (y + (16 * (q % 16) + y / 16)) := by omega
  unfold pc_s3 pc_y3
  rw [e, pc_mk, pc_and hb.1 (by decide), hb.2]
/-- all bytes: the digits are the bytes' counts -/
theorem pc_all : ∀ (w m : Nat), m < 256 ^ w → (pc_s2 w (pc_s1 w m)) % 16 ≤ 4 ∧ pc_s3 (w + 1) (pc_s2 (w + 1) (pc_s1 (w + 1) m)) = pc_s3 (w + 1) (pc_s2 (w + 1) (pc_s1 (w + 1) m)) ∧ (w = 0 → pc_s3 0 (pc_s2 0 (pc_s1 0 m)) = 0) ∧ (∀ r, r < 256 → pc_s3 (w + 1) (pc_s2 (w + 1) (pc_s1 (w + 1) (256 * m + r))) = 256 * pc_s3 w (pc_s2 w (pc_s1 w m)) + pc_8 r)
  | 0, m, hm => by
    have : m = 0 := by simpa using hm
    subst this
    refine ⟨by decide, rfl, fun _ => by decide, fun r hr => ?_⟩
    have hy := pc_y r hr
    rw [(pc_e1 (w := 0) (q := 0) hr (by decide)).1, pc_e2 hy.2.2.1, pc_e3 hy.2.2.2.1 hy.2.2.2.2.1 hy.2.2.2.2.2 (by decide), hy.1]
  | w + 1, m, hm => by
    have hq : m / 256 < 256 ^ w := by rw [Nat.pow_succ] at hm; omega
    have ih := pc_all w (m / 256) hq
    have hr0 : m % 256 < 256 := Nat.mod_lt _ (by decide)
    have hm0 : 256 * (m / 256) + m % 256 = m := by omega
    have hy0 := pc_y _ hr0
    have d : (pc_s2 (w + 1) (pc_s1 (w + 1) m)) % 16 ≤ 4 := by
      rw [← hm0, (pc_e1 hr0 (pc_le1 w _ hq)).1, pc_e2 hy0.2.2.1]
      omega
    refine ⟨d, rfl, fun q => absurd q (Nat.succ_ne_zero w), fun r hr => ?_⟩
    have hy := pc_y r hr
    rw [(pc_e1 hr (pc_le1 (w + 1) m hm)).1, pc_e2 hy.2.2.1, pc_e3 hy.2.2.2.1 hy.2.2.2.2.1 hy.2.2.2.2.2 d, hy.1]
theorem pc_split {q r n : Nat} (hr : r < 256) : fb_ct (fun k => (256 * q + r).testBit k) (8 + n) = pc_8 r + fb_ct (fun k => q.testBit k) n := by
  rw [fb_ct_split]
  have e := fun j => Nat.testBit_two_pow_mul_add (i := 8) q hr j
  rw [show (2 : Nat) ^ 8 = 256 from rfl] at e
  congr 1
  · exact fb_ct_cong (fun k hk => by rw [e k, if_pos hk])
  · exact fb_ct_cong (fun k hk => by rw [e (8 + k), if_neg (by omega), Nat.add_sub_cancel_left])
def pc_dg (m : Nat) : Nat := pc_s3 8 (pc_s2 8 (pc_s1 8 m))
theorem pc_main {m : Nat} (hm : m < 2 ^ 64) : (let a := pc_dg m; let b := a + a / 256; let c := b + b / 65536; (c + c / 4294967296) % 128) = pc_n m ∧ pc_n m ≤ 64 ∧ pc_dg m < 2 ^ 60 := by
  have h8 : ∀ k : Nat, m / 256 ^ k % 256 < 256 := fun k => Nat.mod_lt _ (by decide)
  have s0 := (pc_all 7 (m / 256) (by omega)).2.2.2 (m % 256) (by omega)
  have s1 := (pc_all 6 (m / 256 / 256) (by omega)).2.2.2 (m / 256 % 256) (by omega)
  have s2 := (pc_all 5 (m / 256 / 256 / 256) (by omega)).2.2.2 (m / 256 / 256 % 256) (by omega)
  have s3 := (pc_all 4 (m / 256 / 256 / 256 / 256) (by omega)).2.2.2 (m / 256 / 256 / 256 % 256) (by omega)
  have s4 := (pc_all 3 (m / 256 / 256 / 256 / 256 / 256) (by omega)).2.2.2 (m / 256 / 256 / 256 / 256 % 256) (by omega)
  have s5 := (pc_all 2 (m / 256 / 256 / 256 / 256 / 256 / 256) (by omega)).2.2.2 (m / 256 / 256 / 256 / 256 / 256 % 256) (by omega)
  have s6 := (pc_all 1 (m / 256 / 256 / 256 / 256 / 256 / 256 / 256) (by omega)).2.2.2 (m / 256 / 256 / 256 / 256 / 256 / 256 % 256) (by omega)
  have s7 := (pc_all 0 0 (by decide)).2.2.2 (m / 256 / 256 / 256 / 256 / 256 / 256 / 256) (by omega)
  have sz := (pc_all 0 0 (by decide)).2.2.1 rfl
  rw [show 256 * (m / 256) + m % 256 = m by omega] at s0
  rw [show 256 * (m / 256 / 256) + m / 256 % 256 = m / 256 by omega] at s1
  rw [show 256 * (m / 256 / 256 / 256) + m / 256 / 256 % 256 = m / 256 / 256 by omega] at s2
  rw [show 256 * (m / 256 / 256 / 256 / 256) + m / 256 / 256 / 256 % 256 = m / 256 / 256 / 256 by omega] at s3
  rw [show 256 * (m / 256 / 256 / 256 / 256 / 256) + m / 256 / 256 / 256 / 256 % 256 = m / 256 / 256 / 256 / 256 by omega] at s4
  rw [show 256 * (m / 256 / 256 / 256 / 256 / 256 / 256) + m / 256 / 256 / 256 / 256 / 256 % 256 = m / 256 / 256 / 256 / 256 / 256 by omega] at s5
  rw [show 256 * (m / 256 / 256 / 256 / 256 / 256 / 256 / 256) + m / 256 / 256 / 256 / 256 / 256 / 256 % 256 = m / 256 / 256 / 256 / 256 / 256 / 256 by omega] at s6
  rw [show 256 * 0 + m / 256 / 256 / 256 / 256 / 256 / 256 / 256 = m / 256 / 256 / 256 / 256 / 256 / 256 / 256 by omega, sz] at s7
  have p0 := pc_split (q := m / 256) (n := 56) (show m % 256 < 256 by omega)
  have p1 := pc_split (q := m / 256 / 256) (n := 48) (show m / 256 % 256 < 256 by omega)
  have p2 := pc_split (q := m / 256 / 256 / 256) (n := 40) (show m / 256 / 256 % 256 < 256 by omega)
  have p3 := pc_split (q := m / 256 / 256 / 256 / 256) (n := 32) (show m / 256 / 256 / 256 % 256 < 256 by omega)
  have p4 := pc_split (q := m / 256 / 256 / 256 / 256 / 256) (n := 24) (show m / 256 / 256 / 256 / 256 % 256 < 256 by omega)
  have p5 := pc_split (q := m / 256 / 256 / 256 / 256 / 256 / 256) (n := 16) (show m / 256 / 256 / 256 / 256 / 256 % 256 < 256 by omega)
  have p6 := pc_split (q := m / 256 / 256 / 256 / 256 / 256 / 256 / 256) (n := 8) (show m / 256 / 256 / 256 / 256 / 256 / 256 % 256 < 256 by omega)
  rw [show 256 * (m / 256) + m % 256 = m by omega] at p0
  rw [show 256 * (m / 256 / 256) + m / 256 % 256 = m / 256 by omega] at p1
  rw [show 256 * (m / 256 / 256 / 256) + m / 256 / 256 % 256 = m / 256 / 256 by omega] at p2
  rw [show 256 * (m / 256 / 256 / 256 / 256) + m / 256 / 256 / 256 % 256 = m / 256 / 256 / 256 by omega] at p3
  rw [show 256 * (m / 256 / 256 / 256 / 256 / 256) + m / 256 / 256 / 256 / 256 % 256 = m / 256 / 256 / 256 / 256 by omega] at p4
  rw [show 256 * (m / 256 / 256 / 256 / 256 / 256 / 256) + m / 256 / 256 / 256 / 256 / 256 % 256 = m / 256 / 256 / 256 / 256 / 256 by omega] at p5
  rw [show 256 * (m / 256 / 256 / 256 / 256 / 256 / 256 / 256) + m / 256 / 256 / 256 / 256 / 256 / 256 % 256 = m / 256 / 256 / 256 / 256 / 256 / 256 by omega] at p6
  have y0 := (pc_y (m % 256) (by omega)).2.1
  have y1 := (pc_y (m / 256 % 256) (by omega)).2.1
  have y2 := (pc_y (m / 256 / 256 % 256) (by omega)).2.1
  have y3 := (pc_y (m / 256 / 256 / 256 % 256) (by omega)).2.1
  have y4 := (pc_y (m / 256 / 256 / 256 / 256 % 256) (by omega)).2.1
  have y5 := (pc_y (m / 256 / 256 / 256 / 256 / 256 % 256) (by omega)).2.1
  have y6 := (pc_y (m / 256 / 256 / 256 / 256 / 256 / 256 % 256) (by omega)).2.1
  have y7 := (pc_y (m / 256 / 256 / 256 / 256 / 256 / 256 / 256) (by omega)).2.1
  have e0 : pc_n m = fb_ct (fun k => m.testBit k) (8 + 56) := rfl
  have e7 : fb_ct (fun k => (m / 256 / 256 / 256 / 256 / 256 / 256 / 256).testBit k) 8 = pc_8 (m / 256 / 256 / 256 / 256 / 256 / 256 / 256) := rfl
  have a8 : pc_dg m = pc_s3 (7 + 1) (pc_s2 (7 + 1) (pc_s1 (7 + 1) m)) := rfl
  rw [e0, p0, show (56 : Nat) = 8 + 48 from rfl, p1, show (48 : Nat) = 8 + 40 from rfl, p2, show (40 : Nat) = 8 + 32 from rfl, p3, show (32 : Nat) = 8 + 24 from rfl, p4, show (24 : Nat) = 8 + 16 from rfl, p5, show (16 : Nat) = 8 + 8 from rfl, p6, e7]
  rw [a8, s0, s1, s2, s3, s4, s5, s6, s7]
  generalize pc_8 (m % 256) = d0 at *
  generalize pc_8 (m / 256 % 256) = d1 at *
  generalize pc_8 (m / 256 / 256 % 256) = d2 at *
  generalize pc_8 (m / 256 / 256 / 256 % 256) = d3 at *
  generalize pc_8 (m / 256 / 256 / 256 / 256 % 256) = d4 at *
  generalize pc_8 (m / 256 / 256 / 256 / 256 / 256 % 256) = d5 at *
  generalize pc_8 (m / 256 / 256 / 256 / 256 / 256 / 256 % 256) = d6 at *
  generalize pc_8 (m / 256 / 256 / 256 / 256 / 256 / 256 / 256) = d7 at *
  clear s0 s1 s2 s3 s4 s5 s6 s7 p0 p1 p2 p3 p4 p5 p6 e0 e7 a8 sz h8 hm
  dsimp only
  generalize g7 : 256 * 0 + d7 = a7
  generalize g6 : 256 * a7 + d6 = a6
  generalize g5 : 256 * a6 + d5 = a5
  generalize g4 : 256 * a5 + d4 = a4
  generalize g3 : 256 * a4 + d3 = a3
  generalize g2 : 256 * a3 + d2 = a2
  generalize g1 : 256 * a2 + d1 = a1
  generalize g0 : 256 * a1 + d0 = a0
  have q1 : a0 / 256 = a1 := by omega
  rw [q1]
  have q2 : (a0 + a1) / 65536 = a2 + a3 := by omega
  rw [q2]
  have q3 : (a0 + a1 + (a2 + a3)) / 4294967296 = a4 + a5 + (a6 + a7) := by omega
  rw [q3]
  refine ⟨?_, ?_, ?_⟩
  · omega
  · omega
  · omega
