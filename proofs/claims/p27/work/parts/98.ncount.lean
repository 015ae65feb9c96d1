/-! the law's answers are the specs' answers -/
theorem lr_ar_eq {w h : Nat} (k : lr_k w h) {C : Nat} (hC : C < 2 ^ tb_nc w h) (h0 : C ≠ 0) : lr_ar w h C = dv_isLoop w h (dv_bd w h C) := by
  have h1 : lr_ar w h C = lr_lp w h (lr_sS (dv_bd w h C)) := by
    have ck : ∀ n, (List.range n).all (fun i => lr_ck1 w h i) = true → C < n → lr_ar w h C = lr_lp w h (lr_sS (dv_bd w h C)) := by
      intro n hall hn
      have := List.all_eq_true.mp hall C (List.mem_range.mpr hn)
      unfold lr_ck1 at this
      rw [Bool.or_eq_true, beq_iff_eq, beq_iff_eq] at this
      exact this.resolve_left h0
    obtain ⟨a1, a2, a3, a4⟩ := k
    have cw : w = 1 ∨ w = 2 ∨ w = 3 := by omega
    have ch : h = 1 ∨ h = 2 ∨ h = 3 := by omega
    rcases cw with rfl | rfl | rfl <;> rcases ch with rfl | rfl | rfl
    · exact ck _ lr_ar_11 hC
    · exact ck _ lr_ar_12 hC
    · exact ck _ lr_ar_13 hC
    · exact ck _ lr_ar_21 hC
    · exact ck _ lr_ar_22 hC
    · exact ck _ lr_ar_23 hC
    · exact ck _ lr_ar_31 hC
    · exact ck _ lr_ar_32 hC
    · have big : ∀ j i, i < 64 → (List.range 64).all (fun i => lr_ck1 3 3 (j + i)) = true → C = j + i → lr_ar 3 3 C = lr_lp 3 3 (lr_sS (dv_bd 3 3 C)) := by
        intro j i hi hall e
        have := List.all_eq_true.mp hall i (List.mem_range.mpr hi)
        rw [← e] at this
        unfold lr_ck1 at this
        rw [Bool.or_eq_true, beq_iff_eq, beq_iff_eq] at this
        exact this.resolve_left h0
      have hC2 : C < 512 := hC
      have c8 : C / 64 = 0 ∨ C / 64 = 1 ∨ C / 64 = 2 ∨ C / 64 = 3 ∨ C / 64 = 4 ∨ C / 64 = 5 ∨ C / 64 = 6 ∨ C / 64 = 7 := by omega
      have hi : C % 64 < 64 := Nat.mod_lt _ (by decide)
      rcases c8 with z | z | z | z | z | z | z | z
      · exact big 0 (C % 64) hi lr_ar_33_0 (by omega)
      · exact big 64 (C % 64) hi lr_ar_33_1 (by omega)
      · exact big 128 (C % 64) hi lr_ar_33_2 (by omega)
      · exact big 192 (C % 64) hi lr_ar_33_3 (by omega)
      · exact big 256 (C % 64) hi lr_ar_33_4 (by omega)
      · exact big 320 (C % 64) hi lr_ar_33_5 (by omega)
      · exact big 384 (C % 64) hi lr_ar_33_6 (by omega)
      · exact big 448 (C % 64) hi lr_ar_33_7 (by omega)
  rw [h1, lr_lp_eq k, ← dv_same_loop (lr_W k) (S := dv_bd w h C) ⟨dv_bd_lt, fun e he => ?_⟩]
  unfold lr_sS
  cases (dv_bd w h C).testBit e <;> rfl
theorem lr_fit_eq {w h : Nat} (k : lr_k w h) {num : Nat → Int32} (hnum : ∀ c, c < tb_nc w h → (num c < 0 ↔ num c = -1)) {mk : Nat → Nat} (hmk : ∀ e, e < tb_ne w h → mk e ≤ 2) (ig : Int32) (S : Nat) : ((List.range (tb_ne w h)).all (fun e => mk e == 0 || mk e == lr_sS S e) && lr_rt w h num (lr_sS S) ig) = tb_fit w h num mk ig S := by
  rw [tb_fit_ref (lr_W k) hmk]
  congr 1
  · rw [Bool.eq_iff_iff, tb_allI, tb_allI]
    have : ∀ e, e < tb_ne w h → (mk e == 0 || mk e == lr_sS S e) = tb_mfit mk S e := by
      intro e he
      have := hmk e he
      unfold tb_mfit lr_sS
      have c : mk e = 0 ∨ mk e = 1 ∨ mk e = 2 := by omega
      rcases c with z | z | z <;> rw [z] <;> cases S.testBit e <;> rfl
    exact ⟨fun q e he => by rw [← this e he]; exact q e he, fun q e he => by rw [this e he]; exact q e he⟩
  · unfold lr_rt
    rw [Bool.eq_iff_iff, tb_allI, tb_allI]
    have : ∀ c, c < tb_nc w h → lr_rtB w h num (lr_sS S) ig c = tb_rtB w h num S ig c := by
      intro c hc
      unfold lr_rtB tb_rtB
      have h2 : decide (num c < 0) = (num c == -1) := by rw [Bool.eq_iff_iff, decide_eq_true_eq, beq_iff_eq]; exact hnum c hc
      have h3 : tb_ar w h (lr_sS S) c 1 = tb_sct w h S c 4 := fb_ct_cong (fun s _ => by
        unfold lr_sS
        cases S.testBit (tb_sid w h c s) <;> rfl)
      rw [h2, h3, Bool.or_comm (num c == -1) (nI c == ig)]
    exact ⟨fun q c hc => by rw [← this c hc]; exact q c hc, fun q c hc => by rw [this c hc]; exact q c hc⟩
theorem lr_bd_ne {w h : Nat} (k : lr_k w h) {C : Nat} (hC : C < 2 ^ tb_nc w h) (h0 : C ≠ 0) : dv_bd w h C ≠ 0 := dv_bd_pos (lr_W k) hC h0
theorem lr_li_eq {w h : Nat} (k : lr_k w h) {num : Nat → Int32} (hnum : ∀ c, c < tb_nc w h → (num c < 0 ↔ num c = -1)) {mk : Nat → Nat} (hmk : ∀ e, e < tb_ne w h → mk e ≤ 2) (ig : Int32) (S : Nat) : lr_li w h num mk S ig = if tb_fit w h num mk ig (dv_bd w h S) = true then dv_bd w h S else 0 := by
  unfold lr_li
  rw [lr_fit_eq k hnum hmk]
/-- a count over a set that is told one to one by a list -/
theorem lr_bij : ∀ (L : List Nat) (P : Nat → Bool) (F : Nat → Nat) (N : Nat), L.Nodup → (∀ x, x ∈ L → ∃ i, i < N ∧ P i = true ∧ F i = x) → (∀ i, i < N → P i = true → F i ∈ L) → (∀ i j, i < N → j < N → P i = true → P j = true → F i = F j → i = j) → fb_ct P N = L.length
  | [], P, F, N, _, _, h2, _ => by
    rw [List.length_nil, fb_ct_zero]
    intro i hi
    cases hp : P i with
    | false => rfl
    | true => exact absurd (h2 i hi hp) (List.not_mem_nil)
  | x :: L, P, F, N, hn, h1, h2, h3 => by
    obtain ⟨hx, hn2⟩ := List.nodup_cons.mp hn
    obtain ⟨i, hi, hp, hF⟩ := h1 x (List.mem_cons_self ..)
    have ih := lr_bij L (fun j => if j = i then false else P j) F N hn2 (fun y hy => by
      obtain ⟨j, hj, hpj, hFj⟩ := h1 y (List.mem_cons_of_mem _ hy)
      refine ⟨j, hj, ?_, hFj⟩
      rw [if_neg (fun z => hx (by rw [← hF, ← z, hFj]; exact hy))]
      exact hpj) (fun j hj hpj => by
      by_cases z : j = i
      · rw [if_pos z] at hpj; cases hpj
      · rw [if_neg z] at hpj
        rcases List.mem_cons.mp (h2 j hj hpj) with y | y
        · exact absurd (h3 j i hj hi hpj hp (y.trans hF.symm)) z
        · exact y) (fun a b ha hb hpa hpb e => by
      by_cases z : a = i
      · rw [if_pos z] at hpa; cases hpa
      · by_cases z2 : b = i
        · rw [if_pos z2] at hpb; cases hpb
        · rw [if_neg z] at hpa
          rw [if_neg z2] at hpb
          exact h3 a b ha hb hpa hpb e)
    have h4 := fb_ct_upd P false hi
    rw [hp] at h4
    simp only [Bool.false_eq_true, if_false, if_true] at h4
    rw [List.length_cons, ← ih]
    omega
theorem lr_nodup {w h : Nat} (hW : tb_W w h) : (dv_loops w h).Nodup := (dv_tree_sorted hW (tb_nc w h) 0 0 (by omega)).imp (fun {a b} hab e => by rw [e] at hab; exact dv_ahead_irr hab)
theorem lr_count {w h : Nat} (k : lr_k w h) (Q : Nat → Bool) : lr_cn (fun S => Q (dv_bd w h S) && lr_ar w h S) (2 ^ tb_nc w h - 1) = ((dv_loops w h).filter Q).length := by
  have hW := lr_W k
  have hp := Nat.two_pow_pos (tb_nc w h)
  unfold lr_cn
  refine lr_bij ((dv_loops w h).filter Q) _ (fun i => dv_bd w h (i + 1)) _ ((lr_nodup hW).filter _) (fun x hx => ?_) (fun i hi hb => ?_) (fun i j hi hj _ _ e => ?_)
  · obtain ⟨hx1, hx2⟩ := List.mem_filter.mp hx
    obtain ⟨hl, C, hC, hxC⟩ := (dv_mem_loops hW).mp hx1
    have hC0 : C ≠ 0 := fun z => dv_loops_pos hW hx1 (by rw [hxC, z, dv_bd_0])
    refine ⟨C - 1, by omega, ?_, ?_⟩
    · have e : C - 1 + 1 = C := by omega
      rw [Bool.and_eq_true, e, lr_ar_eq k hC hC0, ← hxC]
      exact ⟨hx2, hl⟩
    · have e : C - 1 + 1 = C := by omega
      show dv_bd w h (C - 1 + 1) = x
      rw [e, hxC]
  · rw [Bool.and_eq_true, lr_ar_eq k (by omega) (by omega)] at hb
    exact List.mem_filter.mpr ⟨(dv_mem_loops hW).mpr ⟨hb.2, i + 1, by omega, rfl⟩, hb.1⟩
  · have := dv_bd_inj hW (show i + 1 < 2 ^ tb_nc w h by omega) (show j + 1 < 2 ^ tb_nc w h by omega) e
    omega
theorem lr_cn_cong {P Q : Nat → Bool} {i : Nat} (h : ∀ S, 1 ≤ S → S ≤ i → P S = Q S) : lr_cn P i = lr_cn Q i := fb_ct_cong (fun j hj => h (j + 1) (by omega) (by omega))
theorem lr_ok_eq {w h : Nat} (k : lr_k w h) {num : Nat → Int32} (hnum : ∀ c, c < tb_nc w h → (num c < 0 ↔ num c = -1)) {mk : Nat → Nat} (hmk : ∀ e, e < tb_ne w h → mk e ≤ 2) (ig : Int32) {S : Nat} (h1 : 1 ≤ S) (h2 : S < 2 ^ tb_nc w h) : lr_ok w h num mk ig S = (tb_fit w h num mk ig (dv_bd w h S) && lr_ar w h S) ∧ (tb_fit w h num mk ig (dv_bd w h S) = true → lr_li w h num mk S ig = dv_bd w h S) := by
  have hb := lr_bd_ne k h2 (by omega)
  unfold lr_ok
  rw [lr_li_eq k hnum hmk]
  refine ⟨?_, fun z => if_pos z⟩
  cases z : tb_fit w h num mk ig (dv_bd w h S) with
  | true => rw [if_pos rfl, show (dv_bd w h S == 0) = false from beq_eq_false_iff_ne.mpr hb]; rfl
  | false => rw [if_neg (by simp)]; rfl
theorem lr_cnt_eq {w h : Nat} (k : lr_k w h) {num : Nat → Int32} (hnum : ∀ c, c < tb_nc w h → (num c < 0 ↔ num c = -1)) {mk : Nat → Nat} (hmk : ∀ e, e < tb_ne w h → mk e ≤ 2) (ig : Int32) : lr_cn (lr_ok w h num mk ig) (2 ^ tb_nc w h - 1) = tb_cnt2 w h num mk ig := by
  have hp := Nat.two_pow_pos (tb_nc w h)
  unfold tb_cnt2
  rw [← lr_count k]
  exact lr_cn_cong (fun S h1 h2 => (lr_ok_eq k hnum hmk ig h1 (by omega)).1)
theorem lr_cnt_and {w h : Nat} (k : lr_k w h) {num : Nat → Int32} (hnum : ∀ c, c < tb_nc w h → (num c < 0 ↔ num c = -1)) {mk : Nat → Nat} (hmk : ∀ e, e < tb_ne w h → mk e ≤ 2) (ig : Int32) (R : Nat → Bool) : lr_cn (fun S => lr_ok w h num mk ig S && R (lr_li w h num mk S ig)) (2 ^ tb_nc w h - 1) = ((dv_loops w h).filter (fun S => tb_fit w h num mk ig S && R S)).length := by
  have hp := Nat.two_pow_pos (tb_nc w h)
  rw [← lr_count k]
  refine lr_cn_cong (fun S h1 h2 => ?_)
  obtain ⟨a, b⟩ := lr_ok_eq k hnum hmk ig h1 (show S < 2 ^ tb_nc w h by omega)
  rw [a]
  cases z : tb_fit w h num mk ig (dv_bd w h S) with
  | true => rw [b z, Bool.true_and, Bool.true_and, Bool.and_comm]
  | false => rfl
theorem lr_wi_eq {w h : Nat} (k : lr_k w h) {num : Nat → Int32} (hnum : ∀ c, c < tb_nc w h → (num c < 0 ↔ num c = -1)) {mk : Nat → Nat} (hmk : ∀ e, e < tb_ne w h → mk e ≤ 2) (e : Nat) : lr_cn (fun S => lr_ok w h num mk (-1) S && (lr_li w h num mk S (-1)).testBit e) (2 ^ tb_nc w h - 1) = tb_wi w h num mk e := by
  have := lr_cnt_and k hnum hmk (-1) (fun S => S.testBit e)
  rw [this]
  show _ = tb_with (tb_fit w h num mk (-1)) (dv_loops w h) e
  unfold tb_with
  congr 1
  refine List.filter_congr (fun x _ => ?_)
  rw [Bool.and_comm]
theorem lr_ah_y {L T : Nat} (hL : L < 2 ^ 24) (hT : T < 2 ^ 24) : lr_ah L T = true ↔ dv_ahead L T := by
  unfold lr_ah lr_fd
  rw [Bool.and_eq_true, decide_eq_true_eq]
  constructor
  · rintro ⟨h1, h2⟩
    have a := fa_first_yes _ _ h1
    refine ⟨_, fun i hi => ?_, h2, ?_⟩
    · have := fa_first_no (fun e => !(L.testBit e == T.testBit e)) 24 i hi
      simpa using this
    · simp only [h2] at a
      simpa using a
  · rintro ⟨j, h1, h2, h3⟩
    have hj : j < 24 := by
      rcases Nat.lt_or_ge j 24 with z | z
      · exact z
      · rw [bm_hi hL z] at h2; cases h2
    have : fa_first (fun e => !(L.testBit e == T.testBit e)) 24 = j := lr_first hj (by rw [h2, h3]; rfl) (fun i hi => by rw [h1 i hi]; simp)
    rw [this]
    exact ⟨hj, h2⟩
/-- the answer with the number k stands behind k others -/
theorem lr_pick_at {f : Nat → Bool} {k : Nat} (hk : k < 2 ^ 31) : ∀ (L : List Nat) (c : Nat), c + L.length < 2 ^ 31 → c ≤ k → L.Pairwise dv_ahead → (∀ x, x ∈ L → x < 2 ^ 24) →
    (k < c + (L.filter f).length → dv_pick f (nI k) L c ∈ L ∧ f (dv_pick f (nI k) L c) = true ∧ (L.filter (fun S => f S && lr_ah S (dv_pick f (nI k) L c))).length = k - c) ∧ (c + (L.filter f).length ≤ k → dv_pick f (nI k) L c = 0)
  | [], c, _, _, _, _ => ⟨fun h => by simp at h; omega, fun _ => rfl⟩
  | S :: t, c, hl, hc, hs, hlt => by
    rw [List.length_cons] at hl
    obtain ⟨hs1, hs2⟩ := List.pairwise_cons.mp hs
    have hltt : ∀ x, x ∈ t → x < 2 ^ 24 := fun x hx => hlt x (List.mem_cons_of_mem _ hx)
    have hSlt := hlt S (List.mem_cons_self ..)
    rw [dv_pick]
    by_cases q : f S = true
    · rw [if_pos q, List.filter_cons_of_pos q, List.length_cons]
      by_cases e : c = k
      · subst e
        rw [if_pos rfl]
        refine ⟨fun _ => ⟨List.mem_cons_self .., q, ?_⟩, fun h => by omega⟩
        rw [Nat.sub_self, List.length_eq_zero_iff, List.filter_eq_nil_iff]
        intro x hx hb
        rw [Bool.and_eq_true] at hb
        rcases List.mem_cons.mp hx with z | z
        · rw [z] at hb; exact dv_ahead_irr ((lr_ah_y hSlt hSlt).mp hb.2)
        · exact dv_ahead_as ((lr_ah_y (hltt x z) hSlt).mp hb.2) (hs1 x z)
      · have hne : ¬ nI c = nI k := fun z => e ((nI_eq (by omega) hk).mp z)
        rw [if_neg hne]
        obtain ⟨i1, i2⟩ := lr_pick_at (f := f) hk t (c + 1) (by omega) (by omega) hs2 hltt
        refine ⟨fun h => ?_, fun h => i2 (by omega)⟩
        obtain ⟨m1, m2, m3⟩ := i1 (by omega)
        refine ⟨List.mem_cons_of_mem _ m1, m2, ?_⟩
        have hy : (f S && lr_ah S (dv_pick f (nI k) t (c + 1))) = true := by
          rw [Bool.and_eq_true]
          exact ⟨q, (lr_ah_y hSlt (hltt _ m1)).mpr (hs1 _ m1)⟩
        rw [List.filter_cons_of_pos (p := fun S => f S && lr_ah S (dv_pick f (nI k) t (c + 1))) hy, List.length_cons, m3]
        omega
    · rw [if_neg q, List.filter_cons_of_neg q]
      obtain ⟨i1, i2⟩ := lr_pick_at (f := f) hk t c (by omega) hc hs2 hltt
      refine ⟨fun h => ?_, fun h => i2 h⟩
      obtain ⟨m1, m2, m3⟩ := i1 h
      refine ⟨List.mem_cons_of_mem _ m1, m2, ?_⟩
      rw [List.filter_cons_of_neg (fun z => by rw [Bool.and_eq_true] at z; exact q z.1)]
      exact m3
theorem lr_pk {w h : Nat} (k : lr_k w h) (num : Nat → Int32) (mk : Nat → Nat) {a : Nat} (ha : a < 2 ^ 31) : (a < tb_cnt2 w h num mk (-1) → tb_pk w h num mk (nI a) ∈ dv_loops w h ∧ tb_fit w h num mk (-1) (tb_pk w h num mk (nI a)) = true ∧ ((dv_loops w h).filter (fun S => tb_fit w h num mk (-1) S && lr_ah S (tb_pk w h num mk (nI a)))).length = a) ∧ (tb_cnt2 w h num mk (-1) ≤ a → tb_pk w h num mk (nI a) = 0) := by
  have hW := lr_W k
  have hz := lr_sz k
  have hle := dv_loops_le hW
  have h1 := lr_pick_at (f := tb_fit w h num mk (-1)) ha (dv_loops w h) 0 (by omega) (Nat.zero_le _) (dv_tree_sorted hW (tb_nc w h) 0 0 (by omega)) (fun x hx => Nat.lt_of_lt_of_le (dv_loops_lt2 hW hx) (Nat.pow_le_pow_right (by decide) hz.2.1))
  rw [Nat.zero_add, Nat.sub_zero] at h1
  exact h1
