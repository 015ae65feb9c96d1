abbrev dv_SB : List Nat := [2, 3, 4, 5, 6, 7, 8, 9, 10]
abbrev dv_FB : List (Nat × Nat) := [(1, 9), (1, 10), (1, 11), (1, 12), (1, 13), (1, 14), (1, 15)]
set_option maxHeartbeats 8000000 in
theorem c_X0_build {l : Launch} {G : jq_G} {n : Nat} {ad : Nat → Nat} {X : xs_T} (hn : 21 ≤ n) {w h : Nat} (hW : tb_W w h) : xs_Ct l G mX0_build 3 [.ref (ad 1), .int (nI (w)), .int (nI (h))] n ad X (xs_pv (fun X' => xs_fr dv_SB dv_FB X X' ∧ dv_T w h X' ∧ dv_N w h (fun _ => -1) X')) := by
  have hz := tb_sizes hW
  have hp1 : 1 ≤ 2 ^ tb_ne w h := Nat.one_le_two_pow
  have h87 : ∀ Y : xs_T, xs_fr dv_SB dv_FB X Y → dv_FF w h Y → jq_J l G mX0_build (jq_R 3 0 0) jq_E0 (xs_Ye G n ad (xs_pv (fun X' => xs_fr dv_SB dv_FB X X' ∧ dv_T w h X' ∧ dv_N w h (fun _ => -1) X'))) 87 [some (.ref (ad 1)), some (.int (nI (w))), some (.int (nI (h)))] [] n ad (xs_mem G ad Y) 0 0 := by
    intro Y hf hF
    refine jq_aload_n dX0_build_87 rfl rfl ?_
    refine xq_getR 2 fX0_9 dX0_build_88 (xs_lt (by decide) hn) (by decide) ?_
    refine jq_iconst (v := (-1)) dX0_build_91 (by decide) ?_
    refine xq_rSV dX0_build_92 kX0_63 (c_fillI_2 hn (-1)) rfl rfl (Nat.le_of_ble_eq_true rfl) ⟨⟨by decide, by decide⟩, Nat.le_refl _, Nat.le_refl _⟩ (fun X92 h92 => ?_)
    have hF1 := dv_ffr hF h92.1
    refine jq_aload_n dX0_build_95 rfl rfl ?_
    refine xq_getR 3 fX0_15 dX0_build_96 (xs_lt (by decide) hn) (by decide) ?_
    refine jq_lconst (v := (lN 0)) dX0_build_99 (by decide) ?_
    refine xq_rSV dX0_build_100 kX0_69 (c_fillL_3 hn (lN 0)) rfl rfl (Nat.le_of_ble_eq_true rfl) ⟨⟨by decide, by decide⟩, Nat.le_refl _, Nat.le_refl _⟩ (fun X100 h100 => ?_)
    have hF2 := dv_ffr hF1 h100.1
    refine jq_aload_n dX0_build_103 rfl rfl ?_
    refine xq_getR 4 fX0_19 dX0_build_104 (xs_lt (by decide) hn) (by decide) ?_
    refine jq_lconst (v := (lN 0)) dX0_build_107 (by decide) ?_
    refine xq_rSV dX0_build_108 kX0_69 (c_fillL_4 hn (lN 0)) rfl rfl (Nat.le_of_ble_eq_true rfl) ⟨⟨by decide, by decide⟩, Nat.le_refl _, Nat.le_refl _⟩ (fun X108 h108 => ?_)
    have hF3 := dv_ffr hF2 h108.1
    refine jq_aload_n dX0_build_111 rfl rfl ?_
    refine xq_rV dX0_build_112 kX0_72 (c_X0_tieEdges hn hW hF3 ⟨fun e he => absurd he (Nat.not_lt_zero e), fun p hp => h108.2 p (by omega), fun a ha => by rw [xs_fb h108.1 3]; exact h100.2 a (by omega)⟩) (xs_lt (by decide) hn) ⟨rfl, rfl⟩ rfl rfl (Nat.le_of_ble_eq_true rfl) ⟨⟨by decide, by decide⟩, Nat.le_refl _, Nat.le_refl _⟩ (fun X112 h112 => ?_)
    have hF4 := dv_ffr hF3 h112.1
    refine jq_aload_n dX0_build_115 rfl rfl ?_
    refine xq_rV dX0_build_116 kX0_75 (c_X0_placeCells hn hW hF4) (xs_lt (by decide) hn) ⟨rfl, rfl⟩ rfl rfl (Nat.le_of_ble_eq_true rfl) ⟨⟨by decide, by decide⟩, Nat.le_refl _, Nat.le_refl _⟩ (fun X116 h116 => ?_)
    have hF5 := dv_ffr hF4 h116.1
    refine xq_return rfl dX0_build_119 rfl ⟨rfl, ?_, ⟨hW, hF5, fun e he => ?_, fun a ha => ?_, fun p hp => ?_, h116.2⟩, fun c hc => ?_⟩
    · exact xs_fr_tr hf (xs_fr_tr (xs_fr_mo h92.1 (by decide)) (xs_fr_tr (xs_fr_mo h100.1 (by decide)) (xs_fr_tr (xs_fr_mo h108.1 (by decide)) (xs_fr_tr (xs_fr_mo h112.1 (by decide)) (xs_fr_mo h116.1 (by decide))))))
    · rw [xs_fa h116.1 5, xs_fa h116.1 6, xs_fa h116.1 7, xs_fa h116.1 8]; exact h112.2.1 e he
    · rw [xs_fb h116.1 3]; exact h112.2.2.2 a ha
    · rw [xs_fb h116.1 4]; exact h112.2.2.1 p hp
    · rw [xs_fa h116.1 2, xs_fa h112.1 2, xs_fa h108.1 2, xs_fa h100.1 2]; exact h92.2 c (by omega)
  refine xs_Ct_of (L := [some (.ref (ad 1)), some (.int (nI (w))), some (.int (nI (h)))]) rfl (Nat.le_of_ble_eq_true rfl) rfl ?_
  refine jq_aload_n dX0_build_0 rfl rfl ?_
  refine jq_iload_n dX0_build_1 rfl rfl ?_
  refine xq_putI pX0_40 dX0_build_2 (xs_lt (by decide) hn) (by decide) rfl rfl ?_
  refine jq_aload_n dX0_build_5 rfl rfl ?_
  refine jq_iload_n dX0_build_6 rfl rfl ?_
  refine xq_putI pX0_44 dX0_build_7 (xs_lt (by decide) hn) (by decide) rfl rfl ?_
  refine jq_aload_n dX0_build_10 rfl rfl ?_
  refine jq_aload_n dX0_build_11 rfl rfl ?_
  refine xq_getI fX0_40 dX0_build_12 (xs_lt (by decide) hn) (by decide) ((xs_si_ne (by decide)).trans xs_si_at) ?_
  refine jq_aload_n dX0_build_15 rfl rfl ?_
  refine xq_getI fX0_44 dX0_build_16 (xs_lt (by decide) hn) (by decide) xs_si_at ?_
  refine jq_imulN dX0_build_19 ?_
  refine xq_putI pX0_47 dX0_build_20 (xs_lt (by decide) hn) (by decide) rfl rfl ?_
  refine jq_aload_n dX0_build_23 rfl rfl ?_
  refine jq_aload_n dX0_build_24 rfl rfl ?_
  refine xq_getI fX0_40 dX0_build_25 (xs_lt (by decide) hn) (by decide) ((xs_si_ne (by decide)).trans ((xs_si_ne (by decide)).trans xs_si_at)) ?_
  refine jq_iconst (v := (nI 1)) dX0_build_28 (by decide) ?_
  refine jq_iaddN dX0_build_29 ?_
  refine jq_aload_n dX0_build_30 rfl rfl ?_
  refine xq_getI fX0_44 dX0_build_31 (xs_lt (by decide) hn) (by decide) ((xs_si_ne (by decide)).trans xs_si_at) ?_
  refine jq_iconst (v := (nI 1)) dX0_build_34 (by decide) ?_
  refine jq_iaddN dX0_build_35 ?_
  refine jq_imulN dX0_build_36 ?_
  refine xq_putI pX0_50 dX0_build_37 (xs_lt (by decide) hn) (by decide) rfl rfl ?_
  refine jq_aload_n dX0_build_40 rfl rfl ?_
  refine jq_aload_n dX0_build_41 rfl rfl ?_
  refine xq_getI fX0_40 dX0_build_42 (xs_lt (by decide) hn) (by decide) ((xs_si_ne (by decide)).trans ((xs_si_ne (by decide)).trans ((xs_si_ne (by decide)).trans xs_si_at))) ?_
  refine jq_aload_n dX0_build_45 rfl rfl ?_
  refine xq_getI fX0_44 dX0_build_46 (xs_lt (by decide) hn) (by decide) ((xs_si_ne (by decide)).trans ((xs_si_ne (by decide)).trans xs_si_at)) ?_
  refine jq_iconst (v := (nI 1)) dX0_build_49 (by decide) ?_
  refine jq_iaddN dX0_build_50 ?_
  refine jq_imulN dX0_build_51 ?_
  rw [show w * (h + 1) = tb_nf w h from Nat.mul_comm _ _]
  refine xq_putI pX0_53 dX0_build_52 (xs_lt (by decide) hn) (by decide) rfl rfl ?_
  refine jq_aload_n dX0_build_55 rfl rfl ?_
  refine jq_aload_n dX0_build_56 rfl rfl ?_
  refine xq_getI fX0_53 dX0_build_57 (xs_lt (by decide) hn) (by decide) xs_si_at ?_
  refine jq_aload_n dX0_build_60 rfl rfl ?_
  refine xq_getI fX0_40 dX0_build_61 (xs_lt (by decide) hn) (by decide) ((xs_si_ne (by decide)).trans ((xs_si_ne (by decide)).trans ((xs_si_ne (by decide)).trans ((xs_si_ne (by decide)).trans xs_si_at)))) ?_
  refine jq_iconst (v := (nI 1)) dX0_build_64 (by decide) ?_
  refine jq_iaddN dX0_build_65 ?_
  refine jq_aload_n dX0_build_66 rfl rfl ?_
  refine xq_getI fX0_44 dX0_build_67 (xs_lt (by decide) hn) (by decide) ((xs_si_ne (by decide)).trans ((xs_si_ne (by decide)).trans ((xs_si_ne (by decide)).trans xs_si_at))) ?_
  refine jq_imulN dX0_build_70 ?_
  refine jq_iaddN dX0_build_71 ?_
  rw [show tb_nf w h + (w + 1) * h = tb_ne w h from by rw [Nat.mul_comm (w + 1) h]; rfl]
  refine xq_putI pX0_56 dX0_build_72 (xs_lt (by decide) hn) (by decide) rfl rfl ?_
  refine jq_aload_n dX0_build_75 rfl rfl ?_
  refine jq_lconst (v := (lN 1)) dX0_build_76 (by decide) ?_
  refine jq_aload_n dX0_build_77 rfl rfl ?_
  refine xq_getI fX0_56 dX0_build_78 (xs_lt (by decide) hn) (by decide) xs_si_at ?_
  refine jq_lshl dX0_build_81 (wb_shl 1 (show tb_ne w h < 64 by omega)) ?_
  rw [Nat.one_mul]
  refine jq_lconst (v := (lN 1)) dX0_build_82 (by decide) ?_
  refine jq_lsub dX0_build_83 ?_
  rw [lN_sub1 hp1]
  refine xq_putL pX0_59 dX0_build_84 (xs_lt (by decide) hn) (by decide) ?_
  refine h87 _ (xs_fr_sl (xs_fr_si (xs_fr_si (xs_fr_si (xs_fr_si (xs_fr_si (xs_fr_si xs_fr_rf (by decide)) (by decide)) (by decide)) (by decide)) (by decide)) (by decide)) (by decide)) ⟨?_, ?_, ?_, ?_, ?_, ?_, xs_sl_at⟩
  · rw [xs_sl_I]; exact (xs_si_ne (by decide)).trans ((xs_si_ne (by decide)).trans ((xs_si_ne (by decide)).trans ((xs_si_ne (by decide)).trans ((xs_si_ne (by decide)).trans xs_si_at))))
  · rw [xs_sl_I]; exact (xs_si_ne (by decide)).trans ((xs_si_ne (by decide)).trans ((xs_si_ne (by decide)).trans ((xs_si_ne (by decide)).trans xs_si_at)))
  · rw [xs_sl_I]; exact (xs_si_ne (by decide)).trans ((xs_si_ne (by decide)).trans ((xs_si_ne (by decide)).trans xs_si_at))
  · rw [xs_sl_I]; exact (xs_si_ne (by decide)).trans ((xs_si_ne (by decide)).trans xs_si_at)
  · rw [xs_sl_I]; exact xs_si_at
  · rw [xs_sl_I]; exact (xs_si_ne (by decide)).trans xs_si_at
