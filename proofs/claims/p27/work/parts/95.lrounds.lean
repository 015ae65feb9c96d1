/-! the law's rounds, walked -/
theorem lr_dec1 {a : Nat} (h : 1 ≤ a) : nI a + Int32.ofInt (-1) = nI (a - 1) := by
  rw [← pk_sub (a := a) (b := 1) h, Int32.sub_eq_add_neg, show Int32.ofInt (-1) = -nI 1 by decide]
theorem lr_br_small (w h : Nat) (num : Nat → Int32) (st : Nat → Nat) : tb_broken w h num st % 5 = tb_broken w h num st := by
  have := tb_broken_le w h num st
  omega
theorem lr_fine {w h : Nat} {num : Nat → Int32} {st : Nat → Nat} (hb : tb_broken w h num st = 0) : tb_fine w h st = true := by
  unfold tb_broken at hb
  cases hf : tb_fine w h st with
  | true => rfl
  | false =>
    rw [hf] at hb
    repeat' split at hb
    all_goals first | omega | contradiction
theorem lr_unkle (w h : Nat) (st : Nat → Nat) : tb_unk w h st ≤ tb_ne w h := fb_ct_le _ _
theorem lr_any_s {p : Nat → Bool} {n : Nat} : (List.range (n + 1)).any p = ((List.range n).any p || p n) := by simp [List.range_succ]
theorem xs_fr_mo2 {S S' : List Nat} {F F' : List (Nat × Nat)} {X Y : xs_T} (h : xs_fr S F X Y) (hS : ∀ q, q ∈ S → q ∈ S') (hF : ∀ q k, (q, k) ∈ F → (q, k) ∈ F') : xs_fr S' F' X Y := ⟨fun q k hq => h.1 q k (fun z => hq (hF q k z)), fun q hq => h.2 q (fun z => hq (hS q z))⟩
theorem lr_o_lt {f : Nat → Nat} (h : ∀ k, f k < 4) : lr_o f < 4 := by
  have key : ∀ a b : Nat, a < 4 → b < 4 → a ||| b < 4 := fun a b ha hb => Nat.or_lt_two_pow (n := 2) ha hb
  unfold lr_o
  exact key _ _ (key _ _ (key _ _ (key _ _ (key _ _ (key _ _ (key _ _ (by decide) (h 7)) (h 6)) (h 5)) (h 4)) (h 3)) (h 2)) (h 1)
theorem lr_wa_lt {w h : Nat} {num : Nat → Int32} {st : Nat → Nat} {e : Nat} (r : Nat) : lr_wa w h num st e r < 4 := by
  have key : ∀ a b : Nat, a ≤ 2 → b ≤ 2 → a ||| b < 4 := fun a b ha hb => Nat.or_lt_two_pow (n := 2) (by omega) (by omega)
  have h1 : ∀ c, lr_w1 w h num st r c ≤ 2 := by intro c; unfold lr_w1; (repeat' split) <;> omega
  have h2 : ∀ c, lr_w2 w h st r c ≤ 2 := by intro c; unfold lr_w2; (repeat' split) <;> omega
  have h6 : lr_w6 w h num st e ≤ 2 := by unfold lr_w6; (repeat' split) <;> omega
  have h7 : lr_w7 w h st e ≤ 2 := by unfold lr_w7; (repeat' split) <;> omega
  unfold lr_wa
  split
  · exact key _ _ (h1 _) (h1 _)
  · split
    · exact key _ _ (h2 _) (h2 _)
    · split <;> omega
set_option maxHeartbeats 16000000 in
theorem c_L_follow {l : Launch} {G : jq_G} {n : Nat} {ad : Nat → Nat} {X : xs_T} {w h qs : Nat} {num : Nat → Int32} {mk : Nat → Nat} (hB : lr_B n w h X) (hM : lr_S n w h 23 mk X) (hN : lr_N n w h num X) (hnum : ∀ c, c < tb_nc w h → (num c < 0 ↔ num c = -1)) (hR : lr_rows n qs X) : xm_Ct l G mL_follow 8 1 24 [.ref (ad 21), .ref (ad 23), .ref (ad 22), .ref (ad qs), .ref (ad (qs + 1)), .ref (ad (qs + 2)), .ref (ad (qs + 3))] n ad X (xs_pv (fun X' => lr_F n w h qs (tb_follow w h num mk) (tb_hint w h num mk) X X')) := by
  have hk := hB.2.2.2
  have hz := lr_sz hk
  have hR2 := id hR
  obtain ⟨r0, r1, -, -, -, -⟩ := hR2
  refine xm_Ct_of (L := [some (.ref (ad 21)), some (.ref (ad 23)), some (.ref (ad 22)), some (.ref (ad qs)), some (.ref (ad (qs + 1))), some (.ref (ad (qs + 2))), some (.ref (ad (qs + 3))), none, none, none, none, none]) rfl (Nat.le_of_ble_eq_true rfl) rfl ?_
  refine jq_bipush (v := (nI 24)) dL_follow_0 (by decide) ?_
  refine xm_newI dL_follow_2 (by omega) (by decide) ⟨by decide, by decide⟩ (fun ad1 ha1 => ?_)
  rw [← ha1 21 (by omega), ← ha1 23 (by omega), ← ha1 22 (by omega), ← ha1 qs (by omega), ← ha1 (qs + 1) (by omega), ← ha1 (qs + 2) (by omega), ← ha1 (qs + 3) (by omega)]
  have FS0 : lr_FS n qs X (xs_nw X n 24) (X.2.2.1 qs) (X.2.2.1 (qs + 1)) (X.2.2.1 (qs + 2)) (fun _ => 0) (X.2.2.1 (qs + 3) 0) (X.2.2.1 (qs + 3) 1) (X.2.2.1 (qs + 3) 2) := by
    have e : ∀ q, q < n → (xs_nw X n 24).2.2.1 q = X.2.2.1 q := fun q hq => (xs_nw_fr.2 q (by simp; omega)).1
    exact ⟨xs_fr_mo2 xs_nw_fr (fun q hq => by simp at hq ⊢; omega) (fun q k hq => by simpa using hq), xs_nw_at, fun j _ => by rw [e _ (by omega)], fun j _ => by rw [e _ (by omega)], fun j _ => by rw [e _ (by omega)], fun j _ => by rw [xs_nw_row], by rw [e _ (by omega)], by rw [e _ (by omega)], by rw [e _ (by omega)]⟩
  -- the end
  have fin : ∀ (Y : xs_T) (sv rd rl wv : Nat → Int32) (t0 t1 t2 : Int32) (st : Nat → Nat) (rd' rl' : Nat → Int32) (c en : Nat) (o9 o10 o11 : Option Value), lr_FS n qs X Y sv rd rl wv t0 t1 t2 → (∀ j, j < tb_ne w h → sv j = nI (st j) ∧ st j ≤ 2) → (∀ j, j < tb_ne w h → rd j = rd' j ∧ rl j = rl' j) → t0 = nI c → t1 = nI en → t2 = tb_hint w h num mk → tb_follow w h num mk = (st, rd', rl', c, en) → jq_J l G mL_follow (jq_R 8 1 24) jq_E0 (xm_Ye G n ad (xs_pv (fun X' => lr_F n w h qs (tb_follow w h num mk) (tb_hint w h num mk) X X')) 1 24) 68 [some (.ref (ad1 21)), some (.ref (ad1 23)), some (.ref (ad1 22)), some (.ref (ad1 qs)), some (.ref (ad1 (qs + 1))), some (.ref (ad1 (qs + 2))), some (.ref (ad1 (qs + 3))), some (.ref (ad1 n)), some (.int (nI (0))), o9, o10, o11] [] (n + 1) ad1 (xs_mem G ad1 Y) (1) (24) := by
    intro Y sv rd rl wv t0 t1 t2 st rd' rl' c en o9 o10 o11 hF hs hr h0 h1 h2 hg
    refine jq_iload dL_follow_68 rfl ?_
    refine jq_eqZ (tgt := 370) dL_follow_70 (by decide) (by decide) (fun c70 => ?_) (fun c70 => absurd rfl c70)
    refine xm_cut2 (X := X) (by omega) (by omega) ha1 (jq_return rfl dL_follow_370 rfl (by decide) (by decide) ⟨rfl, rfl, _, rfl, rfl, ?_⟩)
    rw [hg, ← h2]
    exact lr_FS_F hk hR hF hs hr h0 h1
  -- what was found is written down
  have loopF : ∀ (mo : Bool) (st W : Nat → Nat) (rd L1 : Nat → Int32) (c : Nat) (t1 t2 : Int32), (∀ j, j < tb_ne w h → st j ≤ 2 ∧ (mo = true → W j ≤ 3)) → (∀ (Y : xs_T) (sv' rd' rl' wv : Nat → Int32) (o9 o10 o11 : Option Value), lr_FS n qs X Y sv' rd' rl' wv (nI c) t1 t2 → (∀ j, j < tb_ne w h → sv' j = nI (if mo = true ∧ W j ≠ 0 then W j else st j) ∧ rd' j = (if mo = true ∧ W j ≠ 0 then nI c else rd j) ∧ rl' j = (if (if mo = true ∧ W j ≠ 0 then nI c else rd j) < 1 then -1 else L1 j)) → jq_J l G mL_follow (jq_R 8 1 24) jq_E0 (xm_Ye G n ad (xs_pv (fun X' => lr_F n w h qs (tb_follow w h num mk) (tb_hint w h num mk) X X')) 1 24) 68 [some (.ref (ad1 21)), some (.ref (ad1 23)), some (.ref (ad1 22)), some (.ref (ad1 qs)), some (.ref (ad1 (qs + 1))), some (.ref (ad1 (qs + 2))), some (.ref (ad1 (qs + 3))), some (.ref (ad1 n)), some (.int (tb_b mo)), o9, o10, o11] [] (n + 1) ad1 (xs_mem G ad1 Y) (1) (24)) →
      ∀ (k e : Nat) (Y : xs_T) (sv' rd' rl' wv : Nat → Int32) (o10 o11 : Option Value), e + k = tb_ne w h → lr_FS n qs X Y sv' rd' rl' wv (nI c) t1 t2 → (∀ j, j < tb_ne w h → mo = true → wv j = nI (W j)) → (∀ j, j < e → sv' j = nI (if mo = true ∧ W j ≠ 0 then W j else st j) ∧ rd' j = (if mo = true ∧ W j ≠ 0 then nI c else rd j) ∧ rl' j = (if (if mo = true ∧ W j ≠ 0 then nI c else rd j) < 1 then -1 else L1 j)) → (∀ j, e ≤ j → j < tb_ne w h → sv' j = nI (st j) ∧ rd' j = rd j ∧ rl' j = L1 j) → jq_J l G mL_follow (jq_R 8 1 24) jq_E0 (xm_Ye G n ad (xs_pv (fun X' => lr_F n w h qs (tb_follow w h num mk) (tb_hint w h num mk) X X')) 1 24) 298 [some (.ref (ad1 21)), some (.ref (ad1 23)), some (.ref (ad1 22)), some (.ref (ad1 qs)), some (.ref (ad1 (qs + 1))), some (.ref (ad1 (qs + 2))), some (.ref (ad1 (qs + 3))), some (.ref (ad1 n)), some (.int (tb_b mo)), some (.int (nI (e))), o10, o11] [] (n + 1) ad1 (xs_mem G ad1 Y) (1) (24) := by
    intro mo st W rd L1 c t1 t2 hle kk k
    induction k with
    | zero =>
      intro e Y sv' rd' rl' wv o10 o11 he hF hw h1 h2
      have hBY := lr_FS_B hR hB hF
      refine jq_iload dL_follow_298 rfl ?_
      refine jq_aload_n dL_follow_300 rfl rfl ?_
      refine xq_sI dL_follow_301 kL_32 (c_L_edges hBY) rfl rfl (Nat.le_of_ble_eq_true rfl) ⟨⟨by decide, by decide⟩, by decide, by decide⟩ ?_
      refine jq_geN (tgt := 367) dL_follow_304 (by decide) ⟨by omega, by omega⟩ (fun c304 => ?_) (fun c304 => ?_)
      · refine jq_goto (tgt := 68) dL_follow_367 (by decide) ?_
        exact kk _ _ _ _ _ _ _ _ hF (fun j hj => h1 j (by omega))
      · exact absurd c304 (by omega)
    | succ k ih =>
      intro e Y sv' rd' rl' wv o10 o11 he hF hw h1 h2
      have hee : e < tb_ne w h := by omega
      have h24 : e < 24 := by omega
      have hi : vp_in (nI e) 24 := vp_inN (by omega) (by decide)
      have hBY := lr_FS_B hR hB hF
      have h2e := h2 e (Nat.le_refl _) hee
      have s338 : ∀ (Y : xs_T) (sv2 rd2 : Nat → Int32), lr_FS n qs X Y (tb_up sv' e (nI (if mo = true ∧ W e ≠ 0 then W e else st e))) (tb_up rd' e (if mo = true ∧ W e ≠ 0 then nI c else rd e)) rl' wv (nI c) t1 t2 → jq_J l G mL_follow (jq_R 8 1 24) jq_E0 (xm_Ye G n ad (xs_pv (fun X' => lr_F n w h qs (tb_follow w h num mk) (tb_hint w h num mk) X X')) 1 24) 338 [some (.ref (ad1 21)), some (.ref (ad1 23)), some (.ref (ad1 22)), some (.ref (ad1 qs)), some (.ref (ad1 (qs + 1))), some (.ref (ad1 (qs + 2))), some (.ref (ad1 (qs + 3))), some (.ref (ad1 n)), some (.int (tb_b mo)), some (.int (nI (e))), o10, o11] [] (n + 1) ad1 (xs_mem G ad1 Y) (1) (24) := by
        intro Y sv2 rd2 hF2
        have nxt : ∀ (Y : xs_T) (v : Int32), v = (if (if mo = true ∧ W e ≠ 0 then nI c else rd e) < 1 then -1 else L1 e) → lr_FS n qs X Y (tb_up sv' e (nI (if mo = true ∧ W e ≠ 0 then W e else st e))) (tb_up rd' e (if mo = true ∧ W e ≠ 0 then nI c else rd e)) (tb_up rl' e v) wv (nI c) t1 t2 → jq_J l G mL_follow (jq_R 8 1 24) jq_E0 (xm_Ye G n ad (xs_pv (fun X' => lr_F n w h qs (tb_follow w h num mk) (tb_hint w h num mk) X X')) 1 24) 361 [some (.ref (ad1 21)), some (.ref (ad1 23)), some (.ref (ad1 22)), some (.ref (ad1 qs)), some (.ref (ad1 (qs + 1))), some (.ref (ad1 (qs + 2))), some (.ref (ad1 (qs + 3))), some (.ref (ad1 n)), some (.int (tb_b mo)), some (.int (nI (e))), o10, o11] [] (n + 1) ad1 (xs_mem G ad1 Y) (1) (24) := by
          intro Y v hv hF3
          have g1 : ∀ j, j < e + 1 → tb_up sv' e (nI (if mo = true ∧ W e ≠ 0 then W e else st e)) j = nI (if mo = true ∧ W j ≠ 0 then W j else st j) ∧ tb_up rd' e (if mo = true ∧ W e ≠ 0 then nI c else rd e) j = (if mo = true ∧ W j ≠ 0 then nI c else rd j) ∧ tb_up rl' e v j = (if (if mo = true ∧ W j ≠ 0 then nI c else rd j) < 1 then -1 else L1 j) := by
            intro j hj
            unfold tb_up
            by_cases z : j = e
            · subst z
              rw [if_pos rfl, if_pos rfl, if_pos rfl]
              exact ⟨rfl, rfl, hv⟩
            · rw [if_neg z, if_neg z, if_neg z]
              exact h1 j (by omega)
          have g2 : ∀ j, e + 1 ≤ j → j < tb_ne w h → tb_up sv' e (nI (if mo = true ∧ W e ≠ 0 then W e else st e)) j = nI (st j) ∧ tb_up rd' e (if mo = true ∧ W e ≠ 0 then nI c else rd e) j = rd j ∧ tb_up rl' e v j = L1 j := by
            intro j hj1 hj2
            have z : ¬ j = e := by omega
            unfold tb_up
            rw [if_neg z, if_neg z, if_neg z]
            exact h2 j (by omega) hj2
          refine jq_iincN dL_follow_361 (by decide) rfl rfl rfl ?_
          refine jq_goto (tgt := 298) dL_follow_364 (by decide) ?_
          exact ih (e + 1) _ _ _ _ _ _ _ (by omega) hF3 hw g1 g2
        refine jq_aload dL_follow_338 rfl ?_
        refine jq_iload dL_follow_340 rfl ?_
        refine jq_aload dL_follow_342 rfl ?_
        refine jq_iload dL_follow_344 rfl ?_
        refine xq_iald dL_follow_346 (lr_zr hR hF2) (hi) (lr_up_at (lr_gr hF2 h24)) ?_
        refine jq_iconst (v := (nI 1)) dL_follow_347 (by decide) ?_
        refine jq_icmp_ge (tgt := 355) dL_follow_348 (by decide) (fun c348 => ?_) (fun c348 => ?_)
        · have c9 : ¬ (if mo = true ∧ W e ≠ 0 then nI c else rd e) < 1 := fun q => (fa_of_lt q).2.1 c348
          have hv : rl' e = (if (if mo = true ∧ W e ≠ 0 then nI c else rd e) < 1 then -1 else L1 e) := by rw [h2e.2.2, if_neg c9]
          refine jq_aload dL_follow_355 rfl ?_
          refine jq_iload dL_follow_357 rfl ?_
          refine xq_iald dL_follow_359 (lr_zl hR hF2) (hi) (lr_gl hF2 h24) ?_
          refine xq_iast dL_follow_360 (lr_zl hR hF2) (hi) ?_
          exact nxt _ _ hv (lr_FS_l hR hF2 h24)
        · have c9 : (if mo = true ∧ W e ≠ 0 then nI c else rd e) < 1 := fa_of_nle c348
          have hv : -1 = (if (if mo = true ∧ W e ≠ 0 then nI c else rd e) < 1 then -1 else L1 e) := by rw [if_pos c9]
          refine jq_iconst (v := (-1)) dL_follow_351 (by decide) ?_
          refine jq_goto (tgt := 360) dL_follow_352 (by decide) ?_
          refine xq_iast dL_follow_360 (lr_zl hR hF2) (hi) ?_
          exact nxt _ _ hv (lr_FS_l hR hF2 h24)
      refine jq_iload dL_follow_298 rfl ?_
      refine jq_aload_n dL_follow_300 rfl rfl ?_
      refine xq_sI dL_follow_301 kL_32 (c_L_edges hBY) rfl rfl (Nat.le_of_ble_eq_true rfl) ⟨⟨by decide, by decide⟩, by decide, by decide⟩ ?_
      refine jq_geN (tgt := 367) dL_follow_304 (by decide) ⟨by omega, by omega⟩ (fun c304 => ?_) (fun c304 => ?_)
      · exact absurd c304 (by omega)
      · refine jq_iload dL_follow_307 rfl ?_
        refine jq_if_eq (tgt := 338) dL_follow_309 (by decide) (fun c309 => ?_) (fun c309 => ?_)
        · have hno : ¬ (mo = true ∧ W e ≠ 0) := fun z => by rw [tb_b0.mp c309] at z; cases z.1
          first | exact s338 _ sv' rd' (by rw [if_neg hno, if_neg hno, ← h2e.1, ← h2e.2.1, lr_up_self, lr_up_self]; exact hF) | exact s338 _ sv' rd' (by rw [if_pos hyes, if_pos hyes]; exact F2)
        · have dmo := tb_b1.mp c309
          refine jq_aload dL_follow_312 rfl ?_
          refine jq_iload dL_follow_314 rfl ?_
          refine xq_iald dL_follow_316 (lr_zw hR hF) (hi) (((lr_gw hF h24).trans (hw e hee dmo))) ?_
          refine jq_leZ (tgt := 338) dL_follow_317 (by decide) (by have := (hle e hee).2 dmo; omega) (fun c317 => ?_) (fun c317 => ?_)
          · have hno : ¬ (mo = true ∧ W e ≠ 0) := fun z => z.2 c317
            first | exact s338 _ sv' rd' (by rw [if_neg hno, if_neg hno, ← h2e.1, ← h2e.2.1, lr_up_self, lr_up_self]; exact hF) | exact s338 _ sv' rd' (by rw [if_pos hyes, if_pos hyes]; exact F2)
          · have hyes : mo = true ∧ W e ≠ 0 := ⟨dmo, by omega⟩
            refine jq_aload_n dL_follow_320 rfl rfl ?_
            refine jq_iload dL_follow_321 rfl ?_
            refine jq_aload dL_follow_323 rfl ?_
            refine jq_iload dL_follow_325 rfl ?_
            refine xq_iald dL_follow_327 (lr_zw hR hF) (hi) (((lr_gw hF h24).trans (hw e hee dmo))) ?_
            refine xq_iast dL_follow_328 (lr_zs hR hF) (hi) ?_
            have F1 := lr_FS_s (v := nI (W e)) hR hF h24
            refine jq_aload dL_follow_329 rfl ?_
            refine jq_iload dL_follow_331 rfl ?_
            refine jq_aload dL_follow_333 rfl ?_
            refine jq_iconst (v := (nI 0)) dL_follow_335 (by decide) ?_
            refine xq_iald dL_follow_336 (lr_zt hR F1) (lr_t0) (lr_g0 F1) ?_
            refine xq_iast dL_follow_337 (lr_zr hR F1) (hi) ?_
            have F2 := lr_FS_r (v := nI c) hR F1 h24
            first | exact s338 _ sv' rd' (by rw [if_neg hno, if_neg hno, ← h2e.1, ← h2e.2.1, lr_up_self, lr_up_self]; exact hF) | exact s338 _ sv' rd' (by rw [if_pos hyes, if_pos hyes]; exact F2)
  -- all edges asked
  have loopE : ∀ (st : Nat → Nat) (sv rd rl : Nat → Int32) (c : Nat) (hv0 : Int32), (∀ j, j < tb_ne w h → sv j = nI (st j) ∧ st j ≤ 2) → tb_broken w h num st = 0 → c < 100 → (∀ (Y : xs_T) (L1 wv : Nat → Int32) (o10 o11 : Option Value), lr_FS n qs X Y sv rd L1 wv (nI c) (nI (if tb_torn w h (tb_asks w h num st) = true then 5 else 0)) (if c = 0 then lr_hn (tb_asks w h num st).1 (tb_ne w h) else hv0) → (∀ j, j < tb_ne w h → wv j = nI ((tb_asks w h num st).1 j) ∧ L1 j = (if (tb_asks w h num st).1 j = 0 then rl j else nI ((tb_asks w h num st).2 j))) → jq_J l G mL_follow (jq_R 8 1 24) jq_E0 (xm_Ye G n ad (xs_pv (fun X' => lr_F n w h qs (tb_follow w h num mk) (tb_hint w h num mk) X X')) 1 24) 259 [some (.ref (ad1 21)), some (.ref (ad1 23)), some (.ref (ad1 22)), some (.ref (ad1 qs)), some (.ref (ad1 (qs + 1))), some (.ref (ad1 (qs + 2))), some (.ref (ad1 (qs + 3))), some (.ref (ad1 n)), some (.int (tb_b (tb_more w h (tb_asks w h num st)))), some (.int (nI (tb_ne w h))), o10, o11] [] (n + 1) ad1 (xs_mem G ad1 Y) (1) (24)) →
      ∀ (k e : Nat) (Y : xs_T) (rl' wv : Nat → Int32) (o10 o11 : Option Value), e + k = tb_ne w h → lr_FS n qs X Y sv rd rl' wv (nI c) (nI (if (List.range e).any (fun j => (tb_asks w h num st).1 j == 3) = true then 5 else 0)) (if c = 0 then lr_hn (tb_asks w h num st).1 e else hv0) → (∀ j, j < e → wv j = nI ((tb_asks w h num st).1 j) ∧ rl' j = (if (tb_asks w h num st).1 j = 0 then rl j else nI ((tb_asks w h num st).2 j))) → (∀ j, e ≤ j → j < tb_ne w h → rl' j = rl j) → jq_J l G mL_follow (jq_R 8 1 24) jq_E0 (xm_Ye G n ad (xs_pv (fun X' => lr_F n w h qs (tb_follow w h num mk) (tb_hint w h num mk) X X')) 1 24) 89 [some (.ref (ad1 21)), some (.ref (ad1 23)), some (.ref (ad1 22)), some (.ref (ad1 qs)), some (.ref (ad1 (qs + 1))), some (.ref (ad1 (qs + 2))), some (.ref (ad1 (qs + 3))), some (.ref (ad1 n)), some (.int (tb_b ((List.range e).any (fun j => !((tb_asks w h num st).1 j == 0))))), some (.int (nI (e))), o10, o11] [] (n + 1) ad1 (xs_mem G ad1 Y) (1) (24) := by
    intro st sv rd rl c hv0 hst hb hc after k
    have hfin := lr_fine hb
    generalize hWW : (tb_asks w h num st).1 = W at *
    generalize hRR : (tb_asks w h num st).2 = R at *
    have hW0 : ∀ j, st j ≠ 0 → W j = 0 := fun j hj => by rw [← hWW]; exact tb_wok_all j hj
    have hWR : ∀ j, j < tb_ne w h → st j = 0 → W j = lr_o (lr_wa w h num st j) ∧ R j = lr_m (lr_wa w h num st j) := fun j hj h0 => by rw [← hWW, ← hRR]; exact lr_wants_eq hk hnum hfin hj h0
    have hW3 : ∀ j, j < tb_ne w h → W j ≤ 3 := fun j hj => by
      by_cases z : st j = 0
      · have := lr_o_lt (f := lr_wa w h num st j) (fun r => lr_wa_lt r)
        rw [(hWR j hj z).1]; omega
      · rw [hW0 j z]; omega
    have hmr : tb_more w h (tb_asks w h num st) = (List.range (tb_ne w h)).any (fun j => !(W j == 0)) := by rw [← hWW]; rfl
    have htr : tb_torn w h (tb_asks w h num st) = (List.range (tb_ne w h)).any (fun j => W j == 3) := by rw [← hWW]; rfl
    induction k with
    | zero =>
      intro e Y rl' wv o10 o11 he hF h1 h2
      have hBY := lr_FS_B hR hB hF
      have ee : e = tb_ne w h := by omega
      subst ee
      have hgo := after Y rl' wv o10 o11 (by rw [htr]; exact hF) h1
      rw [hmr] at hgo
      refine jq_iload dL_follow_89 rfl ?_
      refine jq_aload_n dL_follow_91 rfl rfl ?_
      refine xq_sI dL_follow_92 kL_32 (c_L_edges hBY) rfl rfl (Nat.le_of_ble_eq_true rfl) ⟨⟨by decide, by decide⟩, by decide, by decide⟩ ?_
      refine jq_geN (tgt := 259) dL_follow_95 (by decide) ⟨by omega, by omega⟩ (fun c95 => ?_) (fun c95 => ?_)
      · exact hgo
      · exact absurd c95 (by omega)
    | succ k ih =>
      intro e Y rl' wv o10 o11 he hF h1 h2
      have hee : e < tb_ne w h := by omega
      have h24 : e < 24 := by omega
      have hi : vp_in (nI e) 24 := vp_inN (by omega) (by decide)
      have hBY := lr_FS_B hR hB hF
      have hWe := hW3 e hee
      have hbd : (if (List.range e).any (fun j => W j == 3) = true then 5 else 0) < 2 ^ 31 := by split <;> decide
      have s233 : ∀ (Y : xs_T) (rlv : Int32) (o10 o11 : Option Value), rlv = (if W e = 0 then rl e else nI (R e)) → lr_FS n qs X Y sv rd (tb_up rl' e rlv) (tb_up wv e (nI (W e))) (nI c) (nI (if (List.range (e + 1)).any (fun j => W j == 3) = true then 5 else 0)) (if c = 0 then lr_hn W (e + 1) else hv0) → jq_J l G mL_follow (jq_R 8 1 24) jq_E0 (xm_Ye G n ad (xs_pv (fun X' => lr_F n w h qs (tb_follow w h num mk) (tb_hint w h num mk) X X')) 1 24) 233 [some (.ref (ad1 21)), some (.ref (ad1 23)), some (.ref (ad1 22)), some (.ref (ad1 qs)), some (.ref (ad1 (qs + 1))), some (.ref (ad1 (qs + 2))), some (.ref (ad1 (qs + 3))), some (.ref (ad1 n)), some (.int (tb_b ((List.range e).any (fun j => !(W j == 0))))), some (.int (nI (e))), o10, o11] [] (n + 1) ad1 (xs_mem G ad1 Y) (1) (24) := by
        intro Y rlv o10 o11 hrl hF
        have hgo := ih (e + 1) Y (tb_up rl' e rlv) (tb_up wv e (nI (W e))) o10 o11 (by omega) hF (fun j hj => by
          unfold tb_up
          by_cases z : j = e
          · subst z
            rw [if_pos rfl, if_pos rfl]
            exact ⟨rfl, hrl⟩
          · rw [if_neg z, if_neg z]
            exact h1 j (by omega)) (fun j hj1 hj2 => by
          unfold tb_up
          rw [if_neg (by omega)]
          exact h2 j (by omega) hj2)
        rw [lr_any_s] at hgo
        refine jq_iload dL_follow_233 rfl ?_
        refine jq_if_ne (tgt := 246) dL_follow_235 (by decide) (fun c235 => ?_) (fun c235 => ?_)
        · have d235 := tb_b1.mp c235
          have hm : tb_b ((List.range e).any (fun j => !(W j == 0)) || !(W e == 0)) = nI 1 := by rw [d235]; rfl
          refine jq_iconst (v := (nI 1)) dL_follow_246 (by decide) ?_
          refine jq_goto (tgt := 251) dL_follow_247 (by decide) ?_
          refine jq_istore dL_follow_251 (by decide) rfl rfl ?_
          refine jq_iincN dL_follow_253 (by decide) rfl rfl rfl ?_
          refine jq_goto (tgt := 89) dL_follow_256 (by decide) ?_
          rw [hm] at hgo
          exact hgo
        · have d235 := tb_b0.mp c235
          refine jq_aload dL_follow_238 rfl ?_
          refine jq_iload dL_follow_240 rfl ?_
          refine xq_iald dL_follow_242 (lr_zw hR hF) (hi) (lr_up_at (lr_gw hF h24)) ?_
          refine jq_leZ (tgt := 250) dL_follow_243 (by decide) (by omega) (fun c243 => ?_) (fun c243 => ?_)
          · have hm : tb_b ((List.range e).any (fun j => !(W j == 0)) || !(W e == 0)) = nI 0 := by rw [d235, c243]; rfl
            refine jq_iconst (v := (nI 0)) dL_follow_250 (by decide) ?_
            refine jq_istore dL_follow_251 (by decide) rfl rfl ?_
            refine jq_iincN dL_follow_253 (by decide) rfl rfl rfl ?_
            refine jq_goto (tgt := 89) dL_follow_256 (by decide) ?_
            rw [hm] at hgo
            exact hgo
          · have hm : tb_b ((List.range e).any (fun j => !(W j == 0)) || !(W e == 0)) = nI 1 := by rw [d235, show (W e == 0) = false from beq_eq_false_iff_ne.mpr (by omega)]; rfl
            refine jq_iconst (v := (nI 1)) dL_follow_246 (by decide) ?_
            refine jq_goto (tgt := 251) dL_follow_247 (by decide) ?_
            refine jq_istore dL_follow_251 (by decide) rfl rfl ?_
            refine jq_iincN dL_follow_253 (by decide) rfl rfl rfl ?_
            refine jq_goto (tgt := 89) dL_follow_256 (by decide) ?_
            rw [hm] at hgo
            exact hgo
      have s212 : ∀ (Y : xs_T) (rlv : Int32) (o10 o11 : Option Value), rlv = (if W e = 0 then rl e else nI (R e)) → lr_FS n qs X Y sv rd (tb_up rl' e rlv) (tb_up wv e (nI (W e))) (nI c) (nI (if (List.range e).any (fun j => W j == 3) = true then 5 else 0)) (if c = 0 then lr_hn W (e + 1) else hv0) → jq_J l G mL_follow (jq_R 8 1 24) jq_E0 (xm_Ye G n ad (xs_pv (fun X' => lr_F n w h qs (tb_follow w h num mk) (tb_hint w h num mk) X X')) 1 24) 212 [some (.ref (ad1 21)), some (.ref (ad1 23)), some (.ref (ad1 22)), some (.ref (ad1 qs)), some (.ref (ad1 (qs + 1))), some (.ref (ad1 (qs + 2))), some (.ref (ad1 (qs + 3))), some (.ref (ad1 n)), some (.int (tb_b ((List.range e).any (fun j => !(W j == 0))))), some (.int (nI (e))), o10, o11] [] (n + 1) ad1 (xs_mem G ad1 Y) (1) (24) := by
        intro Y rlv o10 o11 hrl hF
        refine jq_aload dL_follow_212 rfl ?_
        refine jq_iconst (v := (nI 1)) dL_follow_214 (by decide) ?_
        refine jq_aload dL_follow_215 rfl ?_
        refine jq_iload dL_follow_217 rfl ?_
        refine xq_iald dL_follow_219 (lr_zw hR hF) (hi) (lr_up_at (lr_gw hF h24)) ?_
        refine jq_iconst (v := (nI 3)) dL_follow_220 (by decide) ?_
        refine jq_neN (tgt := 228) dL_follow_221 (by decide) ⟨by omega, by omega⟩ (fun c221 => ?_) (fun c221 => ?_)
        · have h3 : (if (List.range e).any (fun j => W j == 3) = true then 5 else 0) = (if (List.range (e + 1)).any (fun j => W j == 3) = true then 5 else 0) := by rw [lr_any_s, show (W e == 3) = false from beq_eq_false_iff_ne.mpr c221, Bool.or_false]
          refine jq_aload dL_follow_228 rfl ?_
          refine jq_iconst (v := (nI 1)) dL_follow_230 (by decide) ?_
          refine xq_iald dL_follow_231 (lr_zt hR hF) (lr_t1) (lr_g1 hF) ?_
          refine xq_iast dL_follow_232 (lr_zt hR hF) (lr_t1) ?_
          exact s233 _ rlv _ _ hrl (by rw [← h3]; exact lr_FS_1 hR hF)
        · have h3 : 5 = (if (List.range (e + 1)).any (fun j => W j == 3) = true then 5 else 0) := by rw [lr_any_s, show (W e == 3) = true from beq_iff_eq.mpr c221, Bool.or_true]; rfl
          refine jq_iconst (v := (nI 5)) dL_follow_224 (by decide) ?_
          refine jq_goto (tgt := 232) dL_follow_225 (by decide) ?_
          refine xq_iast dL_follow_232 (lr_zt hR hF) (lr_t1) ?_
          exact s233 _ rlv _ _ hrl (by rw [← h3]; exact lr_FS_1 hR hF)
      have s177 : ∀ (Y : xs_T) (rlv : Int32) (o10 o11 : Option Value), rlv = (if W e = 0 then rl e else nI (R e)) → lr_FS n qs X Y sv rd (tb_up rl' e rlv) (tb_up wv e (nI (W e))) (nI c) (nI (if (List.range e).any (fun j => W j == 3) = true then 5 else 0)) (if c = 0 then lr_hn W e else hv0) → jq_J l G mL_follow (jq_R 8 1 24) jq_E0 (xm_Ye G n ad (xs_pv (fun X' => lr_F n w h qs (tb_follow w h num mk) (tb_hint w h num mk) X X')) 1 24) 177 [some (.ref (ad1 21)), some (.ref (ad1 23)), some (.ref (ad1 22)), some (.ref (ad1 qs)), some (.ref (ad1 (qs + 1))), some (.ref (ad1 (qs + 2))), some (.ref (ad1 (qs + 3))), some (.ref (ad1 n)), some (.int (tb_b ((List.range e).any (fun j => !(W j == 0))))), some (.int (nI (e))), o10, o11] [] (n + 1) ad1 (xs_mem G ad1 Y) (1) (24) := by
        intro Y rlv o10 o11 hrl hF
        refine jq_aload dL_follow_177 rfl ?_
        refine jq_iconst (v := (nI 2)) dL_follow_179 (by decide) ?_
        refine jq_aload dL_follow_180 rfl ?_
        refine jq_iconst (v := (nI 0)) dL_follow_182 (by decide) ?_
        refine xq_iald dL_follow_183 (lr_zt hR hF) (lr_t0) (lr_g0 hF) ?_
        refine jq_neZ (tgt := 207) dL_follow_184 (by decide) (by omega) (fun c184 => ?_) (fun c184 => ?_)
        · have hH : (if c = 0 then lr_hn W e else hv0) = (if c = 0 then lr_hn W (e + 1) else hv0) := by rw [if_neg c184, if_neg c184]
          refine jq_aload dL_follow_207 rfl ?_
          refine jq_iconst (v := (nI 2)) dL_follow_209 (by decide) ?_
          refine xq_iald dL_follow_210 (lr_zt hR hF) (lr_t2) (lr_g2 hF) ?_
          refine xq_iast dL_follow_211 (lr_zt hR hF) (lr_t2) ?_
          exact s212 _ rlv _ _ hrl (by rw [← hH]; exact lr_FS_2 hR hF)
        · refine jq_aload dL_follow_187 rfl ?_
          refine jq_iconst (v := (nI 2)) dL_follow_189 (by decide) ?_
          refine xq_iald dL_follow_190 (lr_zt hR hF) (lr_t2) (lr_g2 hF) ?_
          refine jq_if_ge (tgt := 207) dL_follow_191 (by decide) (fun c191 => ?_) (fun c191 => ?_)
          · have hH : (if c = 0 then lr_hn W e else hv0) = (if c = 0 then lr_hn W (e + 1) else hv0) := by rw [if_pos c184] at c191 ⊢; rw [if_pos c184, lr_hn, if_neg (fun q => (fa_of_lt q.1).2.1 c191)]
            refine jq_aload dL_follow_207 rfl ?_
            refine jq_iconst (v := (nI 2)) dL_follow_209 (by decide) ?_
            refine xq_iald dL_follow_210 (lr_zt hR hF) (lr_t2) (lr_g2 hF) ?_
            refine xq_iast dL_follow_211 (lr_zt hR hF) (lr_t2) ?_
            exact s212 _ rlv _ _ hrl (by rw [← hH]; exact lr_FS_2 hR hF)
          · refine jq_aload dL_follow_194 rfl ?_
            refine jq_iload dL_follow_196 rfl ?_
            refine xq_iald dL_follow_198 (lr_zw hR hF) (hi) (lr_up_at (lr_gw hF h24)) ?_
            refine jq_leZ (tgt := 207) dL_follow_199 (by decide) (by omega) (fun c199 => ?_) (fun c199 => ?_)
            · have hH : (if c = 0 then lr_hn W e else hv0) = (if c = 0 then lr_hn W (e + 1) else hv0) := by rw [if_pos c184, if_pos c184, lr_hn, if_neg (fun q => by omega)]
              refine jq_aload dL_follow_207 rfl ?_
              refine jq_iconst (v := (nI 2)) dL_follow_209 (by decide) ?_
              refine xq_iald dL_follow_210 (lr_zt hR hF) (lr_t2) (lr_g2 hF) ?_
              refine xq_iast dL_follow_211 (lr_zt hR hF) (lr_t2) ?_
              exact s212 _ rlv _ _ hrl (by rw [← hH]; exact lr_FS_2 hR hF)
            · have hH : nI e = (if c = 0 then lr_hn W (e + 1) else hv0) := by rw [if_pos c184] at c191 ⊢; rw [lr_hn, if_pos ⟨fa_of_nle c191, c199⟩]
              refine jq_iload dL_follow_202 rfl ?_
              refine jq_goto (tgt := 211) dL_follow_204 (by decide) ?_
              refine xq_iast dL_follow_211 (lr_zt hR hF) (lr_t2) ?_
              exact s212 _ rlv _ _ hrl (by rw [← hH]; exact lr_FS_2 hR hF)
      -- one edge's rules
      have loopK : st e = 0 → ∀ (k m : Nat) (Y : xs_T) (o11 : Option Value), m + k = 7 → lr_FS n qs X Y sv rd (tb_up rl' e (lr_wm (lr_wa w h num st e) (rl e) m)) (tb_up wv e (nI (lr_wo (lr_wa w h num st e) m))) (nI c) (nI (if (List.range e).any (fun j => W j == 3) = true then 5 else 0)) (if c = 0 then lr_hn W e else hv0) → jq_J l G mL_follow (jq_R 8 1 24) jq_E0 (xm_Ye G n ad (xs_pv (fun X' => lr_F n w h qs (tb_follow w h num mk) (tb_hint w h num mk) X X')) 1 24) 117 [some (.ref (ad1 21)), some (.ref (ad1 23)), some (.ref (ad1 22)), some (.ref (ad1 qs)), some (.ref (ad1 (qs + 1))), some (.ref (ad1 (qs + 2))), some (.ref (ad1 (qs + 3))), some (.ref (ad1 n)), some (.int (tb_b ((List.range e).any (fun j => !(W j == 0))))), some (.int (nI (e))), some (.int (nI (7 - m))), o11] [] (n + 1) ad1 (xs_mem G ad1 Y) (1) (24) := by
        intro hs0 k
        induction k with
        | zero =>
          intro m Y o11 hm hF
          have e7 : m = 7 := by omega
          subst e7
          have hw2 := hWR e hee hs0
          rw [lr_wo_7, lr_wm_7, ← hw2.1, ← hw2.2] at hF
          have hrr : (if R e = 0 then rl e else nI (R e)) = (if W e = 0 then rl e else nI (R e)) := by
            have := lr_m_0 (f := lr_wa w h num st e)
            rw [← hw2.1, ← hw2.2] at this
            by_cases z : R e = 0
            · rw [if_pos z, if_pos (this.mp z)]
            · rw [if_neg z, if_neg (fun y => z (this.mpr y))]
          refine jq_iload dL_follow_117 rfl ?_
          refine jq_leZ (tgt := 177) dL_follow_119 (by decide) (by decide) (fun c119 => ?_) (fun c119 => ?_)
          · exact s177 _ _ _ _ hrr hF
          · exact absurd c119 (by decide)
        | succ k ihk =>
          intro m Y o11 hm hF
          have hBY := lr_FS_B hR hB hF
          have hNY := lr_FS_N hR hN hF
          have hSY := lr_FS_S hk hR hF hst
          have hwl := lr_wa_lt (w := w) (h := h) (num := num) (st := st) (e := e) (7 - m)
          refine jq_iload dL_follow_117 rfl ?_
          refine jq_leZ (tgt := 177) dL_follow_119 (by decide) (by omega) (fun c119 => ?_) (fun c119 => ?_)
          · exact absurd c119 (by omega)
          · refine jq_aload_n dL_follow_122 rfl rfl ?_
            refine jq_iload dL_follow_123 rfl ?_
            refine xq_iald dL_follow_125 (lr_zs hR hF) (hi) (((lr_gs hF h24).trans (hst e hee).1)) ?_
            refine jq_neZ (tgt := 177) dL_follow_126 (by decide) (by have := (hst e hee).2; omega) (fun c126 => ?_) (fun c126 => ?_)
            · exact absurd hs0 c126
            · refine jq_aload_n dL_follow_129 rfl rfl ?_
              refine jq_aload_n dL_follow_130 rfl rfl ?_
              refine jq_aload_n dL_follow_131 rfl rfl ?_
              refine jq_iload dL_follow_132 rfl ?_
              refine jq_iload dL_follow_134 rfl ?_
              refine xq_sI dL_follow_136 kL_71 (c_L_wants hBY hSY hNY (by omega) hee hs0 ⟨by omega, by omega⟩) rfl rfl (Nat.le_of_ble_eq_true rfl) ⟨⟨by decide, by decide⟩, by decide, by decide⟩ ?_
              refine jq_istore dL_follow_139 (by decide) rfl rfl ?_
              refine jq_aload dL_follow_141 rfl ?_
              refine jq_iload dL_follow_143 rfl ?_
              refine jq_dup2 dL_follow_145 rfl rfl ?_
              refine xq_iald dL_follow_146 (lr_zw hR hF) (hi) (lr_up_at (lr_gw hF h24)) ?_
              refine jq_iload dL_follow_147 rfl ?_
              refine jq_ior dL_follow_149 ?_
              rw [fa_or]
              refine xq_iast dL_follow_150 (lr_zw hR hF) (hi) ?_
              have F1 := lr_FS_w (v := nI (lr_wo (lr_wa w h num st e) m ||| lr_wa w h num st e (7 - m))) hR hF h24
              refine jq_aload dL_follow_151 rfl ?_
              refine jq_iload dL_follow_153 rfl ?_
              refine jq_iload dL_follow_155 rfl ?_
              refine jq_leZ (tgt := 165) dL_follow_157 (by decide) (by omega) (fun c157 => ?_) (fun c157 => ?_)
              · have hrl : lr_wm (lr_wa w h num st e) (rl e) m = lr_wm (lr_wa w h num st e) (rl e) (m + 1) := by rw [lr_wm, if_neg (by omega)]
                refine jq_aload dL_follow_165 rfl ?_
                refine jq_iload dL_follow_167 rfl ?_
                refine xq_iald dL_follow_169 (lr_zl hR F1) (hi) (lr_up_at (lr_gl F1 h24)) ?_
                refine xq_iast dL_follow_170 (lr_zl hR F1) (hi) ?_
                refine jq_iinc dL_follow_171 (by decide) rfl rfl (lr_dec1 (by omega)) rfl ?_
                refine jq_goto (tgt := 117) dL_follow_174 (by decide) ?_
                exact ihk (m + 1) _ _ (by omega) (by have F2 := lr_FS_l hR F1 h24 (v := lr_wm (lr_wa w h num st e) (rl e) (m + 1)); simp only [lr_up_up] at F2; first | exact F2 | (rw [hrl]; exact F2))
              · have hrl : nI (7 - m) = lr_wm (lr_wa w h num st e) (rl e) (m + 1) := by rw [lr_wm, if_pos c157]
                refine jq_iload dL_follow_160 rfl ?_
                refine jq_goto (tgt := 170) dL_follow_162 (by decide) ?_
                refine xq_iast dL_follow_170 (lr_zl hR F1) (hi) ?_
                refine jq_iinc dL_follow_171 (by decide) rfl rfl (lr_dec1 (by omega)) rfl ?_
                refine jq_goto (tgt := 117) dL_follow_174 (by decide) ?_
                exact ihk (m + 1) _ _ (by omega) (by have F2 := lr_FS_l hR F1 h24 (v := lr_wm (lr_wa w h num st e) (rl e) (m + 1)); simp only [lr_up_up] at F2; first | exact F2 | (rw [hrl]; exact F2))
      have hrle := h2 e (Nat.le_refl _) hee
      have s113 : ∀ (Y : xs_T), lr_FS n qs X Y sv rd rl' (tb_up wv e (nI 0)) (nI c) (nI (if (List.range e).any (fun j => W j == 3) = true then 5 else 0)) (if c = 0 then lr_hn W e else hv0) → jq_J l G mL_follow (jq_R 8 1 24) jq_E0 (xm_Ye G n ad (xs_pv (fun X' => lr_F n w h qs (tb_follow w h num mk) (tb_hint w h num mk) X X')) 1 24) 113 [some (.ref (ad1 21)), some (.ref (ad1 23)), some (.ref (ad1 22)), some (.ref (ad1 qs)), some (.ref (ad1 (qs + 1))), some (.ref (ad1 (qs + 2))), some (.ref (ad1 (qs + 3))), some (.ref (ad1 n)), some (.int (tb_b ((List.range e).any (fun j => !(W j == 0))))), some (.int (nI (e))), o10, o11] [] (n + 1) ad1 (xs_mem G ad1 Y) (1) (24) := by
        intro Y hF
        by_cases hs0 : st e = 0
        · skip
          refine jq_bipush (v := (nI 7)) dL_follow_113 (by decide) ?_
          refine jq_istore dL_follow_115 (by decide) rfl rfl ?_
          exact loopK hs0 7 0 _ _ rfl (by rw [show lr_wm (lr_wa w h num st e) (rl e) 0 = rl' e from hrle.symm, lr_up_self]; exact hF)
        · have hw0 := hW0 e hs0
          refine jq_bipush (v := (nI 7)) dL_follow_113 (by decide) ?_
          refine jq_istore dL_follow_115 (by decide) rfl rfl ?_
          refine jq_iload dL_follow_117 rfl ?_
          refine jq_leZ (tgt := 177) dL_follow_119 (by decide) (by decide) (fun c119 => ?_) (fun c119 => ?_)
          · exact absurd c119 (by decide)
          · refine jq_aload_n dL_follow_122 rfl rfl ?_
            refine jq_iload dL_follow_123 rfl ?_
            refine xq_iald dL_follow_125 (lr_zs hR hF) (hi) (((lr_gs hF h24).trans (hst e hee).1)) ?_
            refine jq_neZ (tgt := 177) dL_follow_126 (by decide) (by have := (hst e hee).2; omega) (fun c126 => ?_) (fun c126 => ?_)
            · exact s177 _ (rl' e) _ _ (by rw [if_pos hw0]; exact hrle) (by rw [hw0, lr_up_self]; exact hF)
            · exact absurd c126 hs0
      refine jq_iload dL_follow_89 rfl ?_
      refine jq_aload_n dL_follow_91 rfl rfl ?_
      refine xq_sI dL_follow_92 kL_32 (c_L_edges hBY) rfl rfl (Nat.le_of_ble_eq_true rfl) ⟨⟨by decide, by decide⟩, by decide, by decide⟩ ?_
      refine jq_geN (tgt := 259) dL_follow_95 (by decide) ⟨by omega, by omega⟩ (fun c95 => ?_) (fun c95 => ?_)
      · exact absurd c95 (by omega)
      · refine jq_aload dL_follow_98 rfl ?_
        refine jq_iconst (v := (nI 1)) dL_follow_100 (by decide) ?_
        refine xq_iald dL_follow_101 (lr_zt hR hF) (lr_t1) (lr_g1 hF) ?_
        refine jq_iconst (v := (nI 5)) dL_follow_102 (by decide) ?_
        refine jq_iremN dL_follow_103 (⟨hbd, by omega, by omega⟩) ?_
        refine jq_neZ (tgt := 259) dL_follow_104 (by decide) (by have := Nat.mod_lt (if (List.range e).any (fun j => W j == 3) = true then 5 else 0) (show 0 < 5 by decide); omega) (fun c104 => ?_) (fun c104 => ?_)
        · exact absurd (by split <;> rfl) c104
        · refine jq_aload dL_follow_107 rfl ?_
          refine jq_iload dL_follow_109 rfl ?_
          refine jq_iconst (v := (nI 0)) dL_follow_111 (by decide) ?_
          refine xq_iast dL_follow_112 (lr_zw hR hF) (hi) ?_
          exact s113 _ (lr_FS_w (v := nI 0) hR hF h24)
  -- the rounds
  have hint : ∀ (st : Nat → Nat) (c : Nat) (hv0 : Int32), (c = 0 → st = mk ∧ hv0 = -1) → (c ≠ 0 → hv0 = tb_hint w h num mk) → tb_broken w h num st = 0 → (if c = 0 then lr_hn (tb_asks w h num st).1 (tb_ne w h) else hv0) = tb_hint w h num mk := by
    intro st c hv0 h1 h2 hb
    by_cases z : c = 0
    · obtain ⟨rfl, -⟩ := h1 z
      rw [if_pos z, lr_hn_first (by omega)]
      unfold tb_hint
      have hb2 : ¬ (tb_broken w h num st ≠ 0) := fun q => q hb
      rw [if_neg hb2]
    · rw [if_neg z]
      exact h2 z
  have loopM : ∀ (k : Nat) (st : Nat → Nat) (rd rl : Nat → Int32) (c : Nat) (hv0 : Int32) (Y : xs_T) (sv rd' rl' wv : Nat → Int32) (t1 : Int32) (o9 o10 o11 : Option Value), tb_unk w h st < k → c + k ≤ 60 → (c = 0 → st = mk ∧ hv0 = -1) → (c ≠ 0 → hv0 = tb_hint w h num mk) → (∀ j, j < tb_ne w h → sv j = nI (st j) ∧ st j ≤ 2) → (∀ j, j < tb_ne w h → rd' j = rd j ∧ rl' j = rl j) → (∀ j, j < tb_ne w h → (st j = 0 → rd j = -1) ∧ (rd j < 1 → rl j = -1)) → tb_follow w h num mk = tb_go w h num k st rd rl c → lr_FS n qs X Y sv rd' rl' wv (nI c) t1 hv0 → jq_J l G mL_follow (jq_R 8 1 24) jq_E0 (xm_Ye G n ad (xs_pv (fun X' => lr_F n w h qs (tb_follow w h num mk) (tb_hint w h num mk) X X')) 1 24) 68 [some (.ref (ad1 21)), some (.ref (ad1 23)), some (.ref (ad1 22)), some (.ref (ad1 qs)), some (.ref (ad1 (qs + 1))), some (.ref (ad1 (qs + 2))), some (.ref (ad1 (qs + 3))), some (.ref (ad1 n)), some (.int (nI (1))), o9, o10, o11] [] (n + 1) ad1 (xs_mem G ad1 Y) (1) (24) := by
    intro k
    induction k with
    | zero => intro st rd rl c hv0 Y sv rd' rl' wv t1 o9 o10 o11 hu; exact absurd hu (Nat.not_lt_zero _)
    | succ k ih =>
      intro st rd rl c hv0 Y sv rd' rl' wv t1 o9 o10 o11 hu hck hc0 hc1 hsv hrr hinv hg hF
      have hBY := lr_FS_B hR hB hF
      have hNY := lr_FS_N hR hN hF
      have hSY := lr_FS_S hk hR hF hsv
      have hble := tb_broken_le w h num st
      have hkeep : ∀ j, j < tb_ne w h → (if rd j < 1 then -1 else rl j) = rl j := fun j hj => by
        by_cases z : rd j < 1
        · rw [if_pos z]; exact ((hinv j hj).2 z).symm
        · rw [if_neg z]
      have s89 : ∀ (Y : xs_T) (o10 o11 : Option Value), lr_FS n qs X Y sv rd' rl' wv (nI c) (nI (tb_broken w h num st)) hv0 → jq_J l G mL_follow (jq_R 8 1 24) jq_E0 (xm_Ye G n ad (xs_pv (fun X' => lr_F n w h qs (tb_follow w h num mk) (tb_hint w h num mk) X X')) 1 24) 89 [some (.ref (ad1 21)), some (.ref (ad1 23)), some (.ref (ad1 22)), some (.ref (ad1 qs)), some (.ref (ad1 (qs + 1))), some (.ref (ad1 (qs + 2))), some (.ref (ad1 (qs + 3))), some (.ref (ad1 n)), some (.int (nI (0))), some (.int (nI (0))), o10, o11] [] (n + 1) ad1 (xs_mem G ad1 Y) (1) (24) := by
        intro Y o10 o11 hF
        have hBY := lr_FS_B hR hB hF
        by_cases hb : tb_broken w h num st = 0
        · have hgo := loopE st sv rd' rl c hv0 hsv hb (by omega) (fun Y L1 wv o10 o11 hF hall => ?after) (tb_ne w h) 0 Y rl' wv o10 o11 (by omega) (by
            rw [hb] at hF
            have : hv0 = (if c = 0 then lr_hn (tb_asks w h num st).1 0 else hv0) := by
              by_cases z : c = 0
              · rw [if_pos z]; exact (hc0 z).2
              · rw [if_neg z]
            rw [← this]
            exact hF) (fun j hj => absurd hj (Nat.not_lt_zero j)) (fun j _ hj => (hrr j hj).2)
          · exact hgo
          -- behind the asking
          have hint2 := hint st c hv0 hc0 hc1 hb
          rw [hint2] at hF
          have hwok : ∀ j, st j ≠ 0 → (tb_asks w h num st).1 j = 0 := fun j hj => tb_wok_all j hj
          have hfin := lr_fine hb
          have hW3 : ∀ j, j < tb_ne w h → (tb_asks w h num st).1 j ≤ 3 := fun j hj => by
            by_cases z : st j = 0
            · have := lr_o_lt (f := lr_wa w h num st j) (fun r => lr_wa_lt r)
              rw [(lr_wants_eq hk hnum hfin hj z).1]; omega
            · rw [hwok j z]; omega
          have keepL : ∀ j, j < tb_ne w h → (if rd j < 1 then -1 else (if (tb_asks w h num st).1 j = 0 then rl j else nI ((tb_asks w h num st).2 j))) = rl j := fun j hj => by
            by_cases z : (tb_asks w h num st).1 j = 0
            · rw [if_pos z]; exact hkeep j hj
            · have hs : st j = 0 := Classical.byContradiction (fun q => z (hwok j q))
              have hr := (hinv j hj).1 hs
              rw [if_pos (by rw [hr]; decide)]
              exact ((hinv j hj).2 (by rw [hr]; decide)).symm
          have decle : tb_torn w h (tb_asks w h num st) = false → ∀ j, j < tb_ne w h → tb_dec (tb_asks w h num st) st j ≤ 2 := fun hto j hj => by
            unfold tb_dec
            split
            · exact (hsv j hj).2
            · have h3 := hW3 j hj
              have : (tb_asks w h num st).1 j ≠ 3 := fun q => by
                have := tb_anyT (p := fun e => (tb_asks w h num st).1 e == 3) hj (by rw [q]; rfl)
                rw [show tb_torn w h (tb_asks w h num st) = true from this] at hto
                cases hto
              omega
          have nc1 : ¬ nI (c + 1) < 1 := fun q => by
            have := (nI_ltI (a := c + 1) (b := 1) (by omega) (by omega)).mp q
            omega
          have decL : ∀ j, j < tb_ne w h → (if (if (tb_asks w h num st).1 j ≠ 0 then nI (c + 1) else rd j) < 1 then -1 else (if (tb_asks w h num st).1 j = 0 then rl j else nI ((tb_asks w h num st).2 j))) = tb_decL (tb_asks w h num st) rl j := fun j hj => by
            unfold tb_decL
            by_cases z : (tb_asks w h num st).1 j = 0
            · have z2 : ¬ ((tb_asks w h num st).1 j ≠ 0) := fun q => q z
              rw [if_neg z2, if_pos z]; exact hkeep j hj
            · have z2 : (tb_asks w h num st).1 j ≠ 0 := z
              rw [if_pos z2, if_neg nc1, if_neg z]
          have decI : ∀ j, j < tb_ne w h → (tb_dec (tb_asks w h num st) st j = 0 → tb_decR (tb_asks w h num st) rd (c + 1) j = -1) ∧ (tb_decR (tb_asks w h num st) rd (c + 1) j < 1 → tb_decL (tb_asks w h num st) rl j = -1) := fun j hj => by
            unfold tb_dec tb_decR tb_decL
            by_cases z : (tb_asks w h num st).1 j = 0
            · rw [if_pos z, if_pos z, if_pos z]; exact hinv j hj
            · rw [if_neg z, if_neg z, if_neg z]
              exact ⟨fun q => absurd q z, fun q => absurd q nc1⟩
          have s276f : ∀ (Y : xs_T) (o10 o11 : Option Value), (tb_more w h (tb_asks w h num st) = false ∨ tb_torn w h (tb_asks w h num st) = true) → lr_FS n qs X Y sv rd' L1 wv (nI c) (nI (if tb_torn w h (tb_asks w h num st) = true then 5 else 0)) (tb_hint w h num mk) → jq_J l G mL_follow (jq_R 8 1 24) jq_E0 (xm_Ye G n ad (xs_pv (fun X' => lr_F n w h qs (tb_follow w h num mk) (tb_hint w h num mk) X X')) 1 24) 276 [some (.ref (ad1 21)), some (.ref (ad1 23)), some (.ref (ad1 22)), some (.ref (ad1 qs)), some (.ref (ad1 (qs + 1))), some (.ref (ad1 (qs + 2))), some (.ref (ad1 (qs + 3))), some (.ref (ad1 n)), some (.int (tb_b (tb_more w h (tb_asks w h num st)))), some (.int (nI (tb_ne w h))), o10, o11] [.int (nI (0))] (n + 1) ad1 (xs_mem G ad1 Y) (1) (24) := by
            intro Y o10 o11 hno hF
            refine jq_istore dL_follow_276 (by decide) rfl rfl ?_
            refine jq_aload dL_follow_278 rfl ?_
            refine jq_iconst (v := (nI 0)) dL_follow_280 (by decide) ?_
            refine jq_dup2 dL_follow_281 rfl rfl ?_
            refine xq_iald dL_follow_282 (lr_zt hR hF) (lr_t0) (lr_g0 hF) ?_
            refine jq_iload dL_follow_283 rfl ?_
            refine jq_eqZ (tgt := 292) dL_follow_285 (by decide) (by decide) (fun c285 => ?_) (fun c285 => ?_)
            · refine jq_iconst (v := (nI 0)) dL_follow_292 (by decide) ?_
              refine jq_iaddN dL_follow_293 ?_
              refine xq_iast dL_follow_294 (lr_zt hR hF) (lr_t0) ?_
              refine jq_iconst (v := (nI 0)) dL_follow_295 (by decide) ?_
              refine jq_istore dL_follow_296 (by decide) rfl rfl ?_
              refine loopF false st (tb_asks w h num st).1 rd L1 c _ _ (fun j hj => ⟨(hsv j hj).2, fun q => by cases q⟩) (fun Y sv' rd2 rl2 wv o9 o10 o11 hF hall2 => ?_) (tb_ne w h) 0 _ _ _ _ _ _ _ (by omega) (lr_FS_0 (v := nI (c + 0)) hR hF) (fun j hj q => by cases q) (fun j hj => absurd hj (Nat.not_lt_zero j)) (fun j _ hj => ⟨(hsv j hj).1, (hrr j hj).1, rfl⟩)
              refine fin Y _ _ _ _ _ _ _ st rd rl c (if tb_torn w h (tb_asks w h num st) = true then 5 else 0) _ _ _ hF (fun j hj => ⟨?_, (hsv j hj).2⟩) (fun j hj => ⟨?_, ?_⟩) rfl rfl rfl ?_
              · have h9 := hall2 j hj; simp only [Bool.false_eq_true, false_and, if_false] at h9; rw [h9.1]
              · have h9 := hall2 j hj; simp only [Bool.false_eq_true, false_and, if_false] at h9; rw [h9.2.1]
              · have h9 := hall2 j hj; simp only [Bool.false_eq_true, false_and, if_false] at h9; rw [h9.2.2, (hall j hj).2]; exact keepL j hj
              · rw [hg, tb_go, if_neg (fun q => q hb)]; cases ht : tb_torn w h (tb_asks w h num st) with | true => simp | false => rw [ht] at hno; simp [hno.resolve_right (by simp)]
            · exact absurd rfl c285
          have s276t : ∀ (Y : xs_T) (o10 o11 : Option Value), tb_more w h (tb_asks w h num st) = true → tb_torn w h (tb_asks w h num st) = false → lr_FS n qs X Y sv rd' L1 wv (nI c) (nI 0) (tb_hint w h num mk) → jq_J l G mL_follow (jq_R 8 1 24) jq_E0 (xm_Ye G n ad (xs_pv (fun X' => lr_F n w h qs (tb_follow w h num mk) (tb_hint w h num mk) X X')) 1 24) 276 [some (.ref (ad1 21)), some (.ref (ad1 23)), some (.ref (ad1 22)), some (.ref (ad1 qs)), some (.ref (ad1 (qs + 1))), some (.ref (ad1 (qs + 2))), some (.ref (ad1 (qs + 3))), some (.ref (ad1 n)), some (.int (tb_b (tb_more w h (tb_asks w h num st)))), some (.int (nI (tb_ne w h))), o10, o11] [.int (nI (1))] (n + 1) ad1 (xs_mem G ad1 Y) (1) (24) := by
            intro Y o10 o11 hmo hto hF
            refine jq_istore dL_follow_276 (by decide) rfl rfl ?_
            refine jq_aload dL_follow_278 rfl ?_
            refine jq_iconst (v := (nI 0)) dL_follow_280 (by decide) ?_
            refine jq_dup2 dL_follow_281 rfl rfl ?_
            refine xq_iald dL_follow_282 (lr_zt hR hF) (lr_t0) (lr_g0 hF) ?_
            refine jq_iload dL_follow_283 rfl ?_
            refine jq_eqZ (tgt := 292) dL_follow_285 (by decide) (by decide) (fun c285 => ?_) (fun c285 => ?_)
            · exact absurd c285 (by decide)
            · refine jq_iconst (v := (nI 1)) dL_follow_288 (by decide) ?_
              refine jq_goto (tgt := 293) dL_follow_289 (by decide) ?_
              refine jq_iaddN dL_follow_293 ?_
              refine xq_iast dL_follow_294 (lr_zt hR hF) (lr_t0) ?_
              refine jq_iconst (v := (nI 0)) dL_follow_295 (by decide) ?_
              refine jq_istore dL_follow_296 (by decide) rfl rfl ?_
              refine loopF true st (tb_asks w h num st).1 rd L1 (c + 1) _ _ (fun j hj => ⟨(hsv j hj).2, fun _ => hW3 j hj⟩) (fun Y sv' rd2 rl2 wv o9 o10 o11 hF hall2 => ?_) (tb_ne w h) 0 _ _ _ _ _ _ _ (by omega) (lr_FS_0 (v := nI (c + 1)) hR hF) (fun j hj _ => (hall j hj).1) (fun j hj => absurd hj (Nat.not_lt_zero j)) (fun j _ hj => ⟨(hsv j hj).1, (hrr j hj).1, rfl⟩)
              refine ih (tb_dec (tb_asks w h num st) st) (tb_decR (tb_asks w h num st) rd (c + 1)) (tb_decL (tb_asks w h num st) rl) (c + 1) (tb_hint w h num mk) Y _ _ _ _ _ _ _ _ (by have := tb_unk_lt (w := w) (h := h) (st := st) tb_wok_all hmo; omega) (by omega) (fun q => absurd q (by omega)) (fun _ => rfl) (fun j hj => ?_) (fun j hj => ?_) (fun j hj => ?_) ?_ hF
              · refine ⟨?_, decle hto j hj⟩; rw [(hall2 j hj).1]; unfold tb_dec; by_cases z : (tb_asks w h num st).1 j = 0; (· rw [if_neg (fun q => q.2 z), if_pos z]); (· rw [if_pos ⟨rfl, z⟩, if_neg z])
              · have hl := decL j hj; refine ⟨?_, ?_⟩; (· rw [(hall2 j hj).2.1]; unfold tb_decR; by_cases z : (tb_asks w h num st).1 j = 0; (· rw [if_neg (fun q => q.2 z), if_pos z]); (· rw [if_pos ⟨rfl, z⟩, if_neg z])); (· rw [(hall2 j hj).2.2, (hall j hj).2]; simp only [true_and]; exact hl)
              · exact decI j hj
              · rw [hg, tb_go, if_neg (fun q => q hb), if_neg (by rw [hto]; simp), if_pos hmo]
          refine jq_iload dL_follow_259 rfl ?_
          refine jq_if_eq (tgt := 275) dL_follow_261 (by decide) (fun c261 => ?_) (fun c261 => ?_)
          · have dm := tb_b0.mp c261
            refine jq_iconst (v := (nI 0)) dL_follow_275 (by decide) ?_
            first | exact s276t _ _ _ dm dt (by rw [dt] at hF; exact hF) | exact s276f _ _ _ (Or.inl dm) hF | exact s276f _ _ _ (Or.inr dt) hF
          · have dm := tb_b1.mp c261
            refine jq_aload dL_follow_264 rfl ?_
            refine jq_iconst (v := (nI 1)) dL_follow_266 (by decide) ?_
            refine xq_iald dL_follow_267 (lr_zt hR hF) (lr_t1) (lr_g1 hF) ?_
            refine jq_neZ (tgt := 275) dL_follow_268 (by decide) (by split <;> decide) (fun c268 => ?_) (fun c268 => ?_)
            · have dt : tb_torn w h (tb_asks w h num st) = true := by cases ht : tb_torn w h (tb_asks w h num st) with | true => rfl | false => rw [ht] at c268; exact absurd rfl c268
              refine jq_iconst (v := (nI 0)) dL_follow_275 (by decide) ?_
              first | exact s276t _ _ _ dm dt (by rw [dt] at hF; exact hF) | exact s276f _ _ _ (Or.inl dm) hF | exact s276f _ _ _ (Or.inr dt) hF
            · have dt : tb_torn w h (tb_asks w h num st) = false := by cases ht : tb_torn w h (tb_asks w h num st) with | false => rfl | true => rw [ht] at c268; exact absurd c268 (by decide)
              refine jq_iconst (v := (nI 1)) dL_follow_271 (by decide) ?_
              refine jq_goto (tgt := 276) dL_follow_272 (by decide) ?_
              first | exact s276t _ _ _ dm dt (by rw [dt] at hF; exact hF) | exact s276f _ _ _ (Or.inl dm) hF | exact s276f _ _ _ (Or.inr dt) hF
        · have h5 := lr_br_small w h num st
          refine jq_iload dL_follow_89 rfl ?_
          refine jq_aload_n dL_follow_91 rfl rfl ?_
          refine xq_sI dL_follow_92 kL_32 (c_L_edges hBY) rfl rfl (Nat.le_of_ble_eq_true rfl) ⟨⟨by decide, by decide⟩, by decide, by decide⟩ ?_
          refine jq_geN (tgt := 259) dL_follow_95 (by decide) ⟨by omega, by omega⟩ (fun c95 => ?_) (fun c95 => ?_)
          · exact absurd c95 (by omega)
          · refine jq_aload dL_follow_98 rfl ?_
            refine jq_iconst (v := (nI 1)) dL_follow_100 (by decide) ?_
            refine xq_iald dL_follow_101 (lr_zt hR hF) (lr_t1) (lr_g1 hF) ?_
            refine jq_iconst (v := (nI 5)) dL_follow_102 (by decide) ?_
            refine jq_iremN dL_follow_103 (⟨by omega, by omega, by omega⟩) ?_
            rw [h5]
            refine jq_neZ (tgt := 259) dL_follow_104 (by decide) (by omega) (fun c104 => ?_) (fun c104 => ?_)
            · refine jq_iload dL_follow_259 rfl ?_
              refine jq_eqZ (tgt := 275) dL_follow_261 (by decide) (by decide) (fun c261 => ?_) (fun c261 => ?_)
              · refine jq_iconst (v := (nI 0)) dL_follow_275 (by decide) ?_
                refine jq_istore dL_follow_276 (by decide) rfl rfl ?_
                refine jq_aload dL_follow_278 rfl ?_
                refine jq_iconst (v := (nI 0)) dL_follow_280 (by decide) ?_
                refine jq_dup2 dL_follow_281 rfl rfl ?_
                refine xq_iald dL_follow_282 (lr_zt hR hF) (lr_t0) (lr_g0 hF) ?_
                refine jq_iload dL_follow_283 rfl ?_
                refine jq_eqZ (tgt := 292) dL_follow_285 (by decide) (by decide) (fun c285 => ?_) (fun c285 => ?_)
                · refine jq_iconst (v := (nI 0)) dL_follow_292 (by decide) ?_
                  refine jq_iaddN dL_follow_293 ?_
                  refine xq_iast dL_follow_294 (lr_zt hR hF) (lr_t0) ?_
                  refine jq_iconst (v := (nI 0)) dL_follow_295 (by decide) ?_
                  refine jq_istore dL_follow_296 (by decide) rfl rfl ?_
                  refine loopF false st (fun _ => 0) rd rl c _ _ (fun j hj => ⟨(hsv j hj).2, fun q => by cases q⟩) (fun Y sv' rd2 rl2 wv o9 o10 o11 hF hall2 => ?_) (tb_ne w h) 0 _ _ _ _ _ _ _ (by omega) (lr_FS_0 (v := nI (c + 0)) hR hF) (fun j hj q => by cases q) (fun j hj => absurd hj (Nat.not_lt_zero j)) (fun j _ hj => ⟨(hsv j hj).1, hrr j hj⟩)
                  refine fin Y _ _ _ _ _ _ _ st rd rl c (tb_broken w h num st) _ _ _ hF (fun j hj => ⟨?_, (hsv j hj).2⟩) (fun j hj => ⟨?_, ?_⟩) rfl rfl ?_ ?_
                  · have h9 := hall2 j hj; simp only [Bool.false_eq_true, false_and, if_false] at h9; rw [h9.1]
                  · have h9 := hall2 j hj; simp only [Bool.false_eq_true, false_and, if_false] at h9; rw [h9.2.1]
                  · have h9 := hall2 j hj; simp only [Bool.false_eq_true, false_and, if_false] at h9; rw [h9.2.2]; exact hkeep j hj
                  · by_cases z : c = 0; (· obtain ⟨z1, z2⟩ := hc0 z; rw [z2]; unfold tb_hint; rw [if_pos (by rw [← z1]; exact hb)]); (· exact hc1 z)
                  · rw [hg, tb_go, if_pos hb]
                · exact absurd rfl c285
              · exact absurd rfl c261
            · exact absurd c104 hb
      refine jq_iload dL_follow_68 rfl ?_
      refine jq_eqZ (tgt := 370) dL_follow_70 (by decide) (by decide) (fun c70 => ?_) (fun c70 => ?_)
      · exact absurd c70 (by decide)
      · refine jq_aload dL_follow_73 rfl ?_
        refine jq_iconst (v := (nI 1)) dL_follow_75 (by decide) ?_
        refine jq_aload_n dL_follow_76 rfl rfl ?_
        refine jq_aload_n dL_follow_77 rfl rfl ?_
        refine jq_aload_n dL_follow_78 rfl rfl ?_
        refine xq_sI dL_follow_79 kL_67 (c_L_broken hBY hSY hNY) rfl rfl (Nat.le_of_ble_eq_true rfl) ⟨⟨by decide, by decide⟩, by decide, by decide⟩ ?_
        rw [lr_br_eq hk hnum]
        refine xq_iast dL_follow_82 (lr_zt hR hF) (lr_t1) ?_
        refine jq_iconst (v := (nI 0)) dL_follow_83 (by decide) ?_
        refine jq_istore dL_follow_84 (by decide) rfl rfl ?_
        refine jq_iconst (v := (nI 0)) dL_follow_86 (by decide) ?_
        refine jq_istore dL_follow_87 (by decide) rfl rfl ?_
        exact s89 _ _ _ (lr_FS_1 (v := nI (tb_broken w h num st)) hR hF)
  have loopA : ∀ (k e : Nat) (Y : xs_T) (sv rd rl wv : Nat → Int32) (t0 t1 t2 : Int32) (o9 o10 o11 : Option Value), e + k = tb_ne w h → lr_FS n qs X Y sv rd rl wv t0 t1 t2 → (∀ j, j < e → sv j = nI (mk j) ∧ rd j = tb_rd0 mk j ∧ rl j = -1) → jq_J l G mL_follow (jq_R 8 1 24) jq_E0 (xm_Ye G n ad (xs_pv (fun X' => lr_F n w h qs (tb_follow w h num mk) (tb_hint w h num mk) X X')) 1 24) 9 [some (.ref (ad1 21)), some (.ref (ad1 23)), some (.ref (ad1 22)), some (.ref (ad1 qs)), some (.ref (ad1 (qs + 1))), some (.ref (ad1 (qs + 2))), some (.ref (ad1 (qs + 3))), some (.ref (ad1 n)), some (.int (nI (e))), o9, o10, o11] [] (n + 1) ad1 (xs_mem G ad1 Y) (1) (24) := by
    intro k
    induction k with
    | zero =>
      intro e Y sv rd rl wv t0 t1 t2 o9 o10 o11 he hF hall
      have hBY := lr_FS_B hR hB hF
      have F1 := lr_FS_0 (v := nI 0) hR hF
      have hu := lr_unkle w h mk
      have hrd : ∀ j, (mk j = 0 → tb_rd0 mk j = -1) := fun j hj => by unfold tb_rd0; rw [if_pos hj]
      refine jq_iload dL_follow_9 rfl ?_
      refine jq_aload_n dL_follow_11 rfl rfl ?_
      refine xq_sI dL_follow_12 kL_32 (c_L_edges hBY) rfl rfl (Nat.le_of_ble_eq_true rfl) ⟨⟨by decide, by decide⟩, by decide, by decide⟩ ?_
      refine jq_geN (tgt := 55) dL_follow_15 (by decide) ⟨by omega, by omega⟩ (fun c15 => ?_) (fun c15 => ?_)
      · refine jq_aload dL_follow_55 rfl ?_
        refine jq_iconst (v := (nI 0)) dL_follow_57 (by decide) ?_
        refine jq_iconst (v := (nI 0)) dL_follow_58 (by decide) ?_
        refine xq_iast dL_follow_59 (lr_zt hR hF) (lr_t0) ?_
        refine jq_aload dL_follow_60 rfl ?_
        refine jq_iconst (v := (nI 2)) dL_follow_62 (by decide) ?_
        refine jq_iconst (v := (-1)) dL_follow_63 (by decide) ?_
        refine xq_iast dL_follow_64 (lr_zt hR F1) (lr_t2) ?_
        refine jq_iconst (v := (nI 1)) dL_follow_65 (by decide) ?_
        refine jq_istore dL_follow_66 (by decide) rfl rfl ?_
        exact loopM 41 mk (tb_rd0 mk) (fun _ => -1) 0 (-1) _ _ _ _ _ _ _ _ _ (by omega) (by omega) (fun _ => ⟨rfl, rfl⟩) (fun q => absurd rfl q) (fun j hj => ⟨(hall j (by omega)).1, (hM.2 j hj).2⟩) (fun j hj => (hall j (by omega)).2) (fun j hj => ⟨hrd j, fun _ => rfl⟩) rfl (lr_FS_2 (v := -1) hR F1)
      · exact absurd c15 (by omega)
    | succ k ih =>
      intro e Y sv rd rl wv t0 t1 t2 o9 o10 o11 he hF hall
      have hee : e < tb_ne w h := by omega
      have h24 : e < 24 := by omega
      have hi : vp_in (nI e) 24 := vp_inN (by omega) (by decide)
      have hBY := lr_FS_B hR hB hF
      have hMY := lr_FS_M hR hM hF
      have hm2 := (hM.2 e hee).2
      have F1 := lr_FS_s (v := nI (mk e)) hR hF h24
      have hM1 := lr_FS_M hR hM F1
      have nxt : ∀ (Y : xs_T) (v : Int32), v = tb_rd0 mk e → lr_FS n qs X Y (tb_up sv e (nI (mk e))) (tb_up rd e v) rl wv t0 t1 t2 → jq_J l G mL_follow (jq_R 8 1 24) jq_E0 (xm_Ye G n ad (xs_pv (fun X' => lr_F n w h qs (tb_follow w h num mk) (tb_hint w h num mk) X X')) 1 24) 43 [some (.ref (ad1 21)), some (.ref (ad1 23)), some (.ref (ad1 22)), some (.ref (ad1 qs)), some (.ref (ad1 (qs + 1))), some (.ref (ad1 (qs + 2))), some (.ref (ad1 (qs + 3))), some (.ref (ad1 n)), some (.int (nI (e))), o9, o10, o11] [] (n + 1) ad1 (xs_mem G ad1 Y) (1) (24) := by
        intro Y v hv hF
        refine jq_aload dL_follow_43 rfl ?_
        refine jq_iload dL_follow_45 rfl ?_
        refine jq_iconst (v := (-1)) dL_follow_47 (by decide) ?_
        refine xq_iast dL_follow_48 (lr_zl hR hF) (hi) ?_
        refine jq_iincN dL_follow_49 (by decide) rfl rfl rfl ?_
        refine jq_goto (tgt := 9) dL_follow_52 (by decide) ?_
        refine ih (e + 1) _ _ _ _ _ _ _ _ _ _ _ (by omega) (lr_FS_l (v := -1) hR hF h24) (fun j hj => ?_)
        unfold tb_up
        by_cases z : j = e
        · rw [if_pos z, if_pos z, if_pos z, z]; exact ⟨rfl, hv, rfl⟩
        · rw [if_neg z, if_neg z, if_neg z]; exact hall j (by omega)
      refine jq_iload dL_follow_9 rfl ?_
      refine jq_aload_n dL_follow_11 rfl rfl ?_
      refine xq_sI dL_follow_12 kL_32 (c_L_edges hBY) rfl rfl (Nat.le_of_ble_eq_true rfl) ⟨⟨by decide, by decide⟩, by decide, by decide⟩ ?_
      refine jq_geN (tgt := 55) dL_follow_15 (by decide) ⟨by omega, by omega⟩ (fun c15 => ?_) (fun c15 => ?_)
      · exact absurd c15 (by omega)
      · refine jq_aload_n dL_follow_18 rfl rfl ?_
        refine jq_iload dL_follow_19 rfl ?_
        refine jq_aload_n dL_follow_21 rfl rfl ?_
        refine jq_iload dL_follow_22 rfl ?_
        refine xq_iald dL_follow_24 (hMY.1) (hi) ((hMY.2 e hee).1) ?_
        refine xq_iast dL_follow_25 (lr_zs hR hF) (hi) ?_
        refine jq_aload dL_follow_26 rfl ?_
        refine jq_iload dL_follow_28 rfl ?_
        refine jq_aload_n dL_follow_30 rfl rfl ?_
        refine jq_iload dL_follow_31 rfl ?_
        refine xq_iald dL_follow_33 (hM1.1) (hi) ((hM1.2 e hee).1) ?_
        refine jq_neZ (tgt := 41) dL_follow_34 (by decide) (by omega) (fun c34 => ?_) (fun c34 => ?_)
        · have hv : nI 0 = tb_rd0 mk e := by unfold tb_rd0; rw [if_neg c34]; rfl
          refine jq_iconst (v := (nI 0)) dL_follow_41 (by decide) ?_
          refine xq_iast dL_follow_42 (lr_zr hR F1) (hi) ?_
          exact nxt _ _ hv (lr_FS_r hR F1 h24)
        · have hv : -1 = tb_rd0 mk e := by unfold tb_rd0; rw [if_pos c34]
          refine jq_iconst (v := (-1)) dL_follow_37 (by decide) ?_
          refine jq_goto (tgt := 42) dL_follow_38 (by decide) ?_
          refine xq_iast dL_follow_42 (lr_zr hR F1) (hi) ?_
          exact nxt _ _ hv (lr_FS_r hR F1 h24)
  refine jq_astore dL_follow_4 (by decide) rfl rfl ?_
  refine jq_iconst (v := (nI 0)) dL_follow_6 (by decide) ?_
  refine jq_istore dL_follow_7 (by decide) rfl rfl ?_
  exact loopA (tb_ne w h) 0 _ _ _ _ _ _ _ _ _ _ _ (by omega) FS0 (fun j hj => absurd hj (Nat.not_lt_zero j))
