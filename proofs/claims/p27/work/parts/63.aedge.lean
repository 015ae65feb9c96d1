theorem lN_sub1 {a : Nat} (h : 1 ≤ a) : lN a - lN 1 = lN (a - 1) := by
  apply wb_inj
  rw [Int64.toBitVec_sub, wb_tb, wb_tb, wb_tb]
  apply BitVec.eq_of_toNat_eq
  rw [BitVec.toNat_sub, BitVec.toNat_ofNat, BitVec.toNat_ofNat, BitVec.toNat_ofNat]
  omega
theorem xs_sl_I {X : xs_T} {q k : Nat} {v : Int64} : (xs_sl X q k v).1 = X.1 := rfl
theorem dv_up_s {w r c : Nat} (hw : 1 ≤ w ∧ w ≤ 4) (hr : r < 4) (hc : c < w) : dv_up w (r * w + c) = 2 ^ (r * w + c) ||| (if 0 < r then dv_up w (r * w + c - w) else 0) := by
  have H : ∀ w, w < 5 → 1 ≤ w → ∀ r, r < 4 → ∀ c, c < w → dv_up w (r * w + c) = 2 ^ (r * w + c) ||| (if 0 < r then dv_up w (r * w + c - w) else 0) := by decide +kernel
  exact H w (by omega) hw.1 r hr c hc
theorem dv_up_lt (w c : Nat) : dv_up w c < 2 ^ 16 := bm_lt _ _
set_option maxHeartbeats 4000000 in
theorem c_X0_edgeAt {l : Launch} {G : jq_G} {n : Nat} {ad : Nat → Nat} {X : xs_T} (hn : 21 ≤ n) {w h : Nat} (hT : dv_T w h X) {c s : Nat} (hc : c < tb_nc w h) (hs : s < 4) : xs_Ct l G mX0_edgeAt 1 [.ref (ad 1), .int (nI (c)), .int (nI (s))] n ad X (xs_pd (some (.int (nI (tb_sid w h c s)))) X) := by
  have hz := tb_sizes hT.1
  have hi : vp_in (nI c) 16 := vp_inN (by omega) (by decide)
  have hco := (hT.2.2.2.2.2 c hc).1
  have h28 : s = 0 → jq_J l G mX0_edgeAt (jq_R 1 0 0) jq_E0 (xs_Ye G n ad (xs_pd (some (.int (nI (tb_sid w h c s)))) X)) 28 [some (.ref (ad 1)), some (.int (nI (c))), some (.int (nI (s)))] [] n ad (xs_mem G ad X) 0 0 := by
    intro q
    refine jq_iload_n dX0_edgeAt_28 rfl rfl ?_
    exact xq_ireturn dX0_edgeAt_29 rfl rfl (⟨by rw [q]; rfl, rfl⟩)
  have h30 : s = 1 → jq_J l G mX0_edgeAt (jq_R 1 0 0) jq_E0 (xs_Ye G n ad (xs_pd (some (.int (nI (tb_sid w h c s)))) X)) 30 [some (.ref (ad 1)), some (.int (nI (c))), some (.int (nI (s)))] [] n ad (xs_mem G ad X) 0 0 := by
    intro q
    refine jq_iload_n dX0_edgeAt_30 rfl rfl ?_
    refine jq_aload_n dX0_edgeAt_31 rfl rfl ?_
    refine xq_getI fX0_40 dX0_edgeAt_32 (xs_lt (by decide) hn) (by decide) hT.2.1.1 ?_
    refine jq_iaddN dX0_edgeAt_35 ?_
    exact xq_ireturn dX0_edgeAt_36 rfl rfl (⟨by rw [q]; rfl, rfl⟩)
  have h37 : s = 2 → jq_J l G mX0_edgeAt (jq_R 1 0 0) jq_E0 (xs_Ye G n ad (xs_pd (some (.int (nI (tb_sid w h c s)))) X)) 37 [some (.ref (ad 1)), some (.int (nI (c))), some (.int (nI (s)))] [] n ad (xs_mem G ad X) 0 0 := by
    intro q
    refine jq_aload_n dX0_edgeAt_37 rfl rfl ?_
    refine xq_getI fX0_53 dX0_edgeAt_38 (xs_lt (by decide) hn) (by decide) hT.2.1.2.2.2.2.2.1 ?_
    refine jq_aload_n dX0_edgeAt_41 rfl rfl ?_
    refine xq_getR 9 fX0_34 dX0_edgeAt_42 (xs_lt (by decide) hn) (by decide) ?_
    refine jq_iload_n dX0_edgeAt_45 rfl rfl ?_
    refine xq_iaload dX0_edgeAt_46 (xs_lt (by decide) hn) rfl hi (xs_rd hco (by omega)) ?_
    refine jq_iaddN dX0_edgeAt_47 ?_
    exact xq_ireturn dX0_edgeAt_48 rfl rfl (⟨by rw [q]; rfl, rfl⟩)
  have h49 : s = 3 → jq_J l G mX0_edgeAt (jq_R 1 0 0) jq_E0 (xs_Ye G n ad (xs_pd (some (.int (nI (tb_sid w h c s)))) X)) 49 [some (.ref (ad 1)), some (.int (nI (c))), some (.int (nI (s)))] [] n ad (xs_mem G ad X) 0 0 := by
    intro q
    refine jq_aload_n dX0_edgeAt_49 rfl rfl ?_
    refine xq_getI fX0_53 dX0_edgeAt_50 (xs_lt (by decide) hn) (by decide) hT.2.1.2.2.2.2.2.1 ?_
    refine jq_aload_n dX0_edgeAt_53 rfl rfl ?_
    refine xq_getR 9 fX0_34 dX0_edgeAt_54 (xs_lt (by decide) hn) (by decide) ?_
    refine jq_iload_n dX0_edgeAt_57 rfl rfl ?_
    refine xq_iaload dX0_edgeAt_58 (xs_lt (by decide) hn) rfl hi (xs_rd hco (by omega)) ?_
    refine jq_iaddN dX0_edgeAt_59 ?_
    refine jq_iconst (v := (nI 1)) dX0_edgeAt_60 (by decide) ?_
    refine jq_iaddN dX0_edgeAt_61 ?_
    exact xq_ireturn dX0_edgeAt_62 rfl rfl (⟨by rw [q]; rfl, rfl⟩)
  refine xs_Ct_of (L := [some (.ref (ad 1)), some (.int (nI (c))), some (.int (nI (s)))]) rfl (Nat.le_of_ble_eq_true rfl) rfl ?_
  refine jq_iload_n dX0_edgeAt_0 rfl rfl ?_
  have h4 : s = 0 ∨ s = 1 ∨ s = 2 ∨ s = 3 := by omega
  rcases h4 with q | q | q | q
  · refine jq_tableIn (off := 27) (tgt := 28) dX0_edgeAt_1 (by rw [q]; decide) (by rw [q]; decide) (by rw [q]; rfl) rfl (h28 q)
  · refine jq_tableIn (off := 29) (tgt := 30) dX0_edgeAt_1 (by rw [q]; decide) (by rw [q]; decide) (by rw [q]; rfl) rfl (h30 q)
  · refine jq_tableIn (off := 36) (tgt := 37) dX0_edgeAt_1 (by rw [q]; decide) (by rw [q]; decide) (by rw [q]; rfl) rfl (h37 q)
  · refine jq_tableOut (tgt := 49) dX0_edgeAt_1 (by rw [q]; decide) rfl (h49 q)
