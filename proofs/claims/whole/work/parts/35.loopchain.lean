set_option maxHeartbeats 4000000 in
theorem c_X6_hasLoop {l : Launch} {G : jq_G} {n : Nat} {ad : Nat → Nat} {X : xs_T} (hn : 39 ≤ n) {w h : Nat} {st : Nat → Nat} (hT : rf_T w h X) (hS : rf_S w h st X) (hL : rf_L w h (tb_isL st) X) : xs_Ct l G mX6_hasLoop 2 [.ref (ad 21)] n ad X (xs_pd (some (.int (tb_b (tb_hasLoop w h st)))) X) := by
  have hz := tb_sizes hT.1
  have loop : ∀ (k p : Nat) (o2 o3 : Option Value), p + k = tb_np w h → (∀ j, j < p → tb_closed w h st j = false) → jq_J l G mX6_hasLoop (jq_R 2 0 0) jq_E0 (xs_Ye G n ad (xs_pd (some (.int (tb_b (tb_hasLoop w h st)))) X)) 2 [some (.ref (ad 21)), some (.int (nI (p))), o2, o3] [] n ad (xs_mem G ad X) 0 0 := by
    intro k
    induction k with
    | zero =>
      intro p o2 o3 hk hc
      refine jq_iload_n dX6_hasLoop_2 rfl rfl ?_
      refine jq_aload_n dX6_hasLoop_3 rfl rfl ?_
      refine xq_getI fX6_83 dX6_hasLoop_4 (xs_lt (by decide) hn) (by decide) hT.2.2.2.2.2.1 ?_
      refine jq_geN (tgt := 93) dX6_hasLoop_7 (by decide) ⟨by omega, by omega⟩ (fun c7 => ?_) (fun c7 => ?_)
      · refine jq_iconst (v := 0) dX6_hasLoop_93 (by decide) ?_
        exact xq_ireturn dX6_hasLoop_94 rfl rfl (⟨tb_vf (tb_anyF (by rw [show tb_np w h = p by omega]; exact hc)), rfl⟩)
      · exact absurd c7 (by omega)
    | succ k ih =>
      intro p o2 o3 hk hc
      have h3 := hL p (by omega)
      have hl := tb_L_lt (S := tb_isL st) (show p < tb_np w h by omega)
      have hd := tb_at_le hT.1 st p 1
      have hi : vp_in (nI p) 25 := vp_inN (by omega) (by decide)
      have h81 : ∀ o3 : Option Value, jq_J l G mX6_hasLoop (jq_R 2 0 0) jq_E0 (xs_Ye G n ad (xs_pd (some (.int (tb_b (tb_hasLoop w h st)))) X)) 81 [some (.ref (ad 21)), some (.int (nI (p))), some (.int (tb_b (tb_closed w h st p))), o3] [] n ad (xs_mem G ad X) 0 0 := by
        intro o3
        refine jq_iload_n dX6_hasLoop_81 rfl rfl ?_
        refine jq_if_eq (tgt := 87) dX6_hasLoop_82 (by decide) (fun c82 => ?_) (fun c82 => ?_)
        · refine jq_iincN dX6_hasLoop_87 (by decide) rfl rfl rfl ?_
          refine jq_goto (tgt := 2) dX6_hasLoop_90 (by decide) ?_
          refine ih (p + 1) _ _ (by omega) (fun j hj => ?_)
          rcases Nat.lt_or_ge j p with q | q
          · exact hc j q
          · rw [show j = p by omega]; exact tb_b0.mp c82
        · refine jq_iconst (v := 1) dX6_hasLoop_85 (by decide) ?_
          exact xq_ireturn dX6_hasLoop_86 rfl rfl (⟨tb_vt (tb_anyT (c := p) (by omega) (tb_b1.mp c82)), rfl⟩)
      have h34 : ∀ o3 : Option Value, jq_J l G mX6_hasLoop (jq_R 2 0 0) jq_E0 (xs_Ye G n ad (xs_pd (some (.int (tb_b (tb_hasLoop w h st)))) X)) 34 [some (.ref (ad 21)), some (.int (nI (p))), o2, o3] [.int (tb_b (tb_wayB w h st p))] n ad (xs_mem G ad X) 0 0 := by
        intro o3
        have loop2 : ∀ (k q : Nat), q + k = tb_np w h → jq_J l G mX6_hasLoop (jq_R 2 0 0) jq_E0 (xs_Ye G n ad (xs_pd (some (.int (tb_b (tb_hasLoop w h st)))) X)) 37 [some (.ref (ad 21)), some (.int (nI (p))), some (.int (tb_b (tb_wayB w h st p && (List.range q).all (fun q => !(tb_L w h (tb_isL st) q == p) || tb_deg w h st q == 2)))), some (.int (nI (q)))] [] n ad (xs_mem G ad X) 0 0 := by
          intro k
          induction k with
          | zero =>
            intro q hk
            have e : tb_np w h = q := by omega
            have h81' := h81 (some (.int (nI q)))
            unfold tb_closed at h81'
            rw [e] at h81'
            refine jq_iload_n dX6_hasLoop_37 rfl rfl ?_
            refine jq_aload_n dX6_hasLoop_38 rfl rfl ?_
            refine xq_getI fX6_83 dX6_hasLoop_39 (xs_lt (by decide) hn) (by decide) hT.2.2.2.2.2.1 ?_
            refine jq_geN (tgt := 81) dX6_hasLoop_42 (by decide) ⟨by omega, by omega⟩ (fun c42 => ?_) (fun c42 => ?_)
            · exact h81'
            · exact absurd c42 (by omega)
          | succ k ih2 =>
            intro q hk
            have h3q := hL q (by omega)
            have hlq := tb_L_lt (S := tb_isL st) (show q < tb_np w h by omega)
            have hdq := tb_at_le hT.1 st q 1
            have hiq : vp_in (nI q) 25 := vp_inN (by omega) (by decide)
            have hgo := ih2 (q + 1) (by omega)
            rw [tb_range_all] at hgo
            generalize hR : (List.range q).all (fun q => !(tb_L w h (tb_isL st) q == p) || tb_deg w h st q == 2) = rr at *
            refine jq_iload_n dX6_hasLoop_37 rfl rfl ?_
            refine jq_aload_n dX6_hasLoop_38 rfl rfl ?_
            refine xq_getI fX6_83 dX6_hasLoop_39 (xs_lt (by decide) hn) (by decide) hT.2.2.2.2.2.1 ?_
            refine jq_geN (tgt := 81) dX6_hasLoop_42 (by decide) ⟨by omega, by omega⟩ (fun c42 => ?_) (fun c42 => ?_)
            · exact absurd c42 (by omega)
            · refine jq_iload_n dX6_hasLoop_45 rfl rfl ?_
              refine jq_if_eq (tgt := 81) dX6_hasLoop_46 (by decide) (fun c46 => ?_) (fun c46 => ?_)
              · have hcf := tb_b0.mp c46
                have e : tb_closed w h st p = false := by
                  unfold tb_closed
                  rcases Bool.and_eq_false_iff.mp hcf with z | z
                  · rw [z]; rfl
                  · rw [Bool.and_eq_false_iff]; right
                    rw [Bool.eq_false_iff]; intro y
                    have y2 : (List.range q).all (fun q => !(tb_L w h (tb_isL st) q == p) || tb_deg w h st q == 2) = true := tb_allT (fun c hc => tb_allI.mp y c (by omega))
                    rw [hR, z] at y2; cases y2
                rw [hcf, ← e]
                exact h81 _
              · have hcf := tb_b1.mp c46
                refine jq_aload_n dX6_hasLoop_49 rfl rfl ?_
                refine xq_getR 34 fX6_46 dX6_hasLoop_50 (xs_lt (by decide) hn) (by decide) ?_
                refine jq_iload_n dX6_hasLoop_53 rfl rfl ?_
                refine xq_iaload dX6_hasLoop_54 (xs_lt (by decide) hn) rfl hiq (xs_rd h3q (by omega)) ?_
                refine jq_iload_n dX6_hasLoop_55 rfl rfl ?_
                refine jq_neN (tgt := 69) dX6_hasLoop_56 (by decide) ⟨by omega, by omega⟩ (fun c56 => ?_) (fun c56 => ?_)
                · refine jq_iconst (v := 1) dX6_hasLoop_69 (by decide) ?_
                  refine jq_goto (tgt := 74) dX6_hasLoop_70 (by decide) ?_
                  refine jq_istore_n dX6_hasLoop_74 rfl (by decide) rfl rfl ?_
                  refine jq_iincN dX6_hasLoop_75 (by decide) rfl rfl rfl ?_
                  refine jq_goto (tgt := 37) dX6_hasLoop_78 (by decide) ?_
                  rw [← Bool.and_assoc, hcf] at hgo
                  simp only [tb_deg] at hgo
                  first | (rw [show (!(tb_L w h (tb_isL st) q == p) || tb_at w h st q 1 == 2) = true by simp [*]] at hgo; exact hgo) | (rw [show (!(tb_L w h (tb_isL st) q == p) || tb_at w h st q 1 == 2) = false by simp [*]] at hgo; exact hgo)
                · refine jq_aload_n dX6_hasLoop_59 rfl rfl ?_
                  refine jq_iload_n dX6_hasLoop_60 rfl rfl ?_
                  refine jq_iconst (v := (nI 1)) dX6_hasLoop_61 (by decide) ?_
                  refine xq_vI dX6_hasLoop_62 kX6_114 (c_X6_at hn hT hS (by omega) (by decide)) (xs_lt (by decide) hn) ⟨rfl, rfl⟩ rfl rfl (Nat.le_of_ble_eq_true rfl) ⟨⟨by decide, by decide⟩, Nat.le_refl _, Nat.le_refl _⟩ ?_
                  refine jq_iconst (v := (nI 2)) dX6_hasLoop_65 (by decide) ?_
                  refine jq_neN (tgt := 73) dX6_hasLoop_66 (by decide) ⟨by omega, by omega⟩ (fun c66 => ?_) (fun c66 => ?_)
                  · refine jq_iconst (v := 0) dX6_hasLoop_73 (by decide) ?_
                    refine jq_istore_n dX6_hasLoop_74 rfl (by decide) rfl rfl ?_
                    refine jq_iincN dX6_hasLoop_75 (by decide) rfl rfl rfl ?_
                    refine jq_goto (tgt := 37) dX6_hasLoop_78 (by decide) ?_
                    rw [← Bool.and_assoc, hcf] at hgo
                    simp only [tb_deg] at hgo
                    first | (rw [show (!(tb_L w h (tb_isL st) q == p) || tb_at w h st q 1 == 2) = true by simp [*]] at hgo; exact hgo) | (rw [show (!(tb_L w h (tb_isL st) q == p) || tb_at w h st q 1 == 2) = false by simp [*]] at hgo; exact hgo)
                  · refine jq_iconst (v := 1) dX6_hasLoop_69 (by decide) ?_
                    refine jq_goto (tgt := 74) dX6_hasLoop_70 (by decide) ?_
                    refine jq_istore_n dX6_hasLoop_74 rfl (by decide) rfl rfl ?_
                    refine jq_iincN dX6_hasLoop_75 (by decide) rfl rfl rfl ?_
                    refine jq_goto (tgt := 37) dX6_hasLoop_78 (by decide) ?_
                    rw [← Bool.and_assoc, hcf] at hgo
                    simp only [tb_deg] at hgo
                    first | (rw [show (!(tb_L w h (tb_isL st) q == p) || tb_at w h st q 1 == 2) = true by simp [*]] at hgo; exact hgo) | (rw [show (!(tb_L w h (tb_isL st) q == p) || tb_at w h st q 1 == 2) = false by simp [*]] at hgo; exact hgo)
        refine jq_istore_n dX6_hasLoop_34 rfl (by decide) rfl rfl ?_
        refine jq_iconst (v := (nI 0)) dX6_hasLoop_35 (by decide) ?_
        refine jq_istore_n dX6_hasLoop_36 rfl (by decide) rfl rfl ?_
        have := loop2 (tb_np w h) 0 (by omega)
        simp only [List.range_zero, List.all_nil, Bool.and_true] at this
        exact this
      refine jq_iload_n dX6_hasLoop_2 rfl rfl ?_
      refine jq_aload_n dX6_hasLoop_3 rfl rfl ?_
      refine xq_getI fX6_83 dX6_hasLoop_4 (xs_lt (by decide) hn) (by decide) hT.2.2.2.2.2.1 ?_
      refine jq_geN (tgt := 93) dX6_hasLoop_7 (by decide) ⟨by omega, by omega⟩ (fun c7 => ?_) (fun c7 => ?_)
      · exact absurd c7 (by omega)
      · refine jq_aload_n dX6_hasLoop_10 rfl rfl ?_
        refine xq_getR 34 fX6_46 dX6_hasLoop_11 (xs_lt (by decide) hn) (by decide) ?_
        refine jq_iload_n dX6_hasLoop_14 rfl rfl ?_
        refine xq_iaload dX6_hasLoop_15 (xs_lt (by decide) hn) rfl hi (xs_rd h3 (by omega)) ?_
        refine jq_iload_n dX6_hasLoop_16 rfl rfl ?_
        refine jq_neN (tgt := 33) dX6_hasLoop_17 (by decide) ⟨by omega, by omega⟩ (fun c17 => ?_) (fun c17 => ?_)
        · refine jq_iconst (v := 0) dX6_hasLoop_33 (by decide) ?_
          exact xs_nm (by first | exact tb_b_t (by simp [tb_wayB, tb_deg, *]) | exact tb_b_f (by simp [tb_wayB, tb_deg, *])) (h34 _)
        · refine jq_aload_n dX6_hasLoop_20 rfl rfl ?_
          refine jq_iload_n dX6_hasLoop_21 rfl rfl ?_
          refine jq_iconst (v := (nI 1)) dX6_hasLoop_22 (by decide) ?_
          refine xq_vI dX6_hasLoop_23 kX6_114 (c_X6_at hn hT hS (by omega) (by decide)) (xs_lt (by decide) hn) ⟨rfl, rfl⟩ rfl rfl (Nat.le_of_ble_eq_true rfl) ⟨⟨by decide, by decide⟩, Nat.le_refl _, Nat.le_refl _⟩ ?_
          refine jq_leZ (tgt := 33) dX6_hasLoop_26 (by decide) (by omega) (fun c26 => ?_) (fun c26 => ?_)
          · refine jq_iconst (v := 0) dX6_hasLoop_33 (by decide) ?_
            exact xs_nm (by first | exact tb_b_t (by simp [tb_wayB, tb_deg, *]) | exact tb_b_f (by simp [tb_wayB, tb_deg, *])) (h34 _)
          · refine jq_iconst (v := 1) dX6_hasLoop_29 (by decide) ?_
            refine jq_goto (tgt := 34) dX6_hasLoop_30 (by decide) ?_
            exact xs_nm (by first | exact tb_b_t (by simp [tb_wayB, tb_deg, *]) | exact tb_b_f (by simp [tb_wayB, tb_deg, *])) (h34 _)
  refine xs_Ct_of (L := [some (.ref (ad 21)), none, none, none]) rfl (Nat.le_of_ble_eq_true rfl) rfl ?_
  refine jq_iconst (v := (nI 0)) dX6_hasLoop_0 (by decide) ?_
  refine jq_istore_n dX6_hasLoop_1 rfl (by decide) rfl rfl ?_
  exact loop (tb_np w h) 0 _ _ (by omega) (fun j hj => absurd hj (Nat.not_lt_zero j))
