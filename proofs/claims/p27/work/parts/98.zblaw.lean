/-! THE LAW'S BODY -/
theorem hL_202 : Cond.methodLink RL 202 yL_cell ∈ jq_big := jq_in1 280 (by decide +kernel) rfl
theorem hL_205 : Cond.methodLink RL 205 yL_acts ∈ jq_big := jq_in1 287 (by decide +kernel) rfl
theorem hL_209 : Cond.methodLink RL 209 yL_looks ∈ jq_big := jq_in1 676 (by decide +kernel) rfl
theorem hL_213 : Cond.methodLink RL 213 yL_solves ∈ jq_big := jq_in1 713 (by decide +kernel) rfl
abbrev mlaw (nm : String) : jq_M := (⟨RL, nm, "([I)Z"⟩, code, 10, ret)
def lw_E (b Ln : Nat) (xs : Nat → Int32) : jq_E := fun s args A => (jx_N s ∧ jx_H A s s.heap) ∧ va_X b Ln xs s s.heap ∧ b < s.heap.size ∧ ¬ A b ∧ args = #[.ref b] ∧ ∀ q, A q → s.heap.size ≤ q
def lw_Y : jq_Y := fun below args s _ => lw_Z below args s
theorem lw_Eok {b Ln : Nat} {xs : Nat → Int32} : jx_Ok (lw_E b Ln xs) := fun _ _ _ h => h.1
section LW
variable {l : Launch} {G : jq_G} {M M' : jq_M} {R : Room} {Ex : jq_E} {Y : jq_Y} {pc idx na : Nat} {L : jq_L} {st As rest : List Value} {n : Nat} {ad : Nat → Nat} {mem : Nat → va_E} {X : xs_T} {cells slots b Ln : Nat} {xs : Nat → Int32}
theorem lw_up {c' s' : Nat} (h1 : cells ≤ c') (h2 : slots ≤ s') (k : jq_J l G M R Ex Y pc L st n ad mem c' s') : jq_J l G M R Ex Y pc L st n ad mem cells slots :=
  fun p e s m args below meth c A hC hE H locs ls hl hP hD hS => W.widen h1 h2 (k p e s m args below meth c A hC hE H locs ls hl hP hD hS)
theorem lw_fin {nm : String} (h1 : cells ≤ 600172) (h2 : slots ≤ 7300668) (hd : decode code pc = .ok (.ireturn, 1)) : jq_J l G (mlaw nm) room_1 (lw_E b Ln xs) lw_Y pc L [.int 1] n ad mem cells slots := by
  intro p e s m args below meth c A hC hE H locs ls hl hP hD hS
  obtain ⟨-, -, -, -, rfl, hA⟩ := hE
  exact va_forget (fun q hq => hA _ (hS.2.2 q hq)) (W.widen h1 h2 (lw_ret hC.1.1 hC.1.2.1 hC.2.2.2.2.2.1 hC.2.2.2.2.2.2.1 hd))
theorem lw_cell {i : Nat} (hLn : Ln ≤ 1000) (hi : i < 1000) (hd : decode M.2.1 pc = .ok (.invokestatic 202, 3)) (hM : M.1.cls = RL) (hf : jq_fit R mL_cell 1 0 0 cells slots)
    (k : ∀ v, jq_J l G M R (lw_E b Ln xs) Y (pc + 3) L [.int v] n ad mem cells slots) : jq_J l G M R (lw_E b Ln xs) Y pc L [.int (nI i), .ref b] n ad mem cells slots :=
  lx_invS (fun s args A h => ⟨h.2.1, h.2.2.1, h.2.2.2.1⟩) hd (by rw [hM]; exact kL_202) (by rw [hM]; exact hL_202) (c_L_cell (l := l) (G := G) hLn hi) rfl (rest := []) rfl (Nat.le_of_ble_eq_true rfl) hf (fun r h => by obtain ⟨_, _, _, v, rfl⟩ := h; exact k v)
theorem lw_callJ {d' mc' ms' : Nat} (hd : decode M.2.1 pc = .ok (.invokestatic idx, 3)) (F : jq_LS M.1.cls idx M' na) (hF2 : Cond.methodLink M.1.cls idx M'.1 ∈ jq_big) (hCt : xj_Ct l G M' d' mc' ms' As n ad X (xs_pi (fun r X' => r = nI 1 ∧ lk_Z X'))) (hn : As.length = na) (hst : st = As.reverse) (hf : jq_fit R M' d' mc' ms' cells slots)
    (k : ∀ X', lk_Z X' → jq_J l G M R (lw_E b Ln xs) Y (pc + 3) L [.int (nI 1)] n ad (xs_mem G ad X') (cells + mc') (slots + ms')) : jq_J l G M R (lw_E b Ln xs) Y pc L st n ad (xs_mem G ad X) cells slots :=
  xj_invS lw_Eok hd F hF2 hCt hn (rest := []) (by rw [List.append_nil]; exact hst) (Nat.le_of_ble_eq_true rfl) hf (fun r X' h => by obtain ⟨v, rfl, rfl, hZ⟩ := h; exact k X' hZ)
end LW
set_option maxHeartbeats 8000000 in
theorem lw_loop {l : Launch} {G : jq_G} {nm : String} {ad : Nat → Nat} {b Ln : Nat} {xs : Nat → Int32} (hl : l.stackTraces = false) (hLn : Ln ≤ 1000) : ∀ (m i : Nat) (X : xs_T) (o6 o7 o8 o9 : Option Value), i + m = 60 → lk_Z X → jq_J l G (mlaw nm) room_1 (lw_E b Ln xs) lw_Y 55 [some (.ref b), some (.ref (ad 0)), some (.ref (ad 21)), some (.ref (ad 22)), some (.ref (ad 23)), some (.int (nI i)), o6, o7, o8, o9] [] 24 ad (xs_mem G ad X) (25 + 1800 * i) (10000 + 45700 * i) := by
  intro m
  induction m with
  | zero =>
    intro i X o6 o7 o8 o9 hi hZ
    have e1 : i = 60 := by omega
    subst e1
    refine jq_iload dL_law_55 rfl ?_
    refine jq_bipush (v := (nI 60)) dL_law_57 (by decide) ?_
    refine jq_geN (tgt := 190) dL_law_59 (by decide) ⟨by decide, by decide⟩ (fun c59 => ?_) (fun c59 => ?_)
    · refine jq_iconst (v := 1) dL_law_190 (by decide) ?_
      exact lw_fin (by omega) (by omega) dL_law_191
    · exact absurd c59 (by decide)
  | succ m ih =>
    intro i X o6 o7 o8 o9 hi hZ
    obtain ⟨w, h, num, mk, hI⟩ := hZ
    have hi60 : i < 60 := by omega
    have s170 : ∀ (X' : xs_T) (v6 v7 v8 : Int32) (ce sl : Nat), lk_Z X' → ce ≤ 25 + 1800 * (i + 1) → sl ≤ 10000 + 45700 * (i + 1) → jq_J l G (mlaw nm) room_1 (lw_E b Ln xs) lw_Y 170 [some (.ref b), some (.ref (ad 0)), some (.ref (ad 21)), some (.ref (ad 22)), some (.ref (ad 23)), some (.int (nI i)), some (.int v6), some (.int v7), some (.int v8), some (.int (nI 1))] [] 24 ad (xs_mem G ad X') (ce) (sl) := by
      intro X' v6 v7 v8 ce sl hZ hce hsl
      refine jq_iconst (v := (nI 1)) dL_law_170 (by decide) ?_
      refine jq_goto (tgt := 175) dL_law_171 (by decide) ?_
      refine jq_istore dL_law_175 (Nat.le_of_ble_eq_true rfl) rfl rfl ?_
      refine jq_iload dL_law_177 rfl ?_
      refine jq_neZ (tgt := 184) dL_law_179 (by decide) (by decide) (fun c179 => ?_) (fun c179 => ?_)
      · refine jq_iincN dL_law_184 (Nat.le_of_ble_eq_true rfl) rfl rfl rfl ?_
        refine jq_goto (tgt := 55) dL_law_187 (by decide) ?_
        exact lw_up hce hsl (ih (i + 1) X' _ _ _ _ (by omega) hZ)
      · exact absurd c179 (by decide)
    have s109 : ∀ (kd : Nat) (v6 v7 v8 : Int32) (o9 : Option Value), kd < 100 → jq_J l G (mlaw nm) room_1 (lw_E b Ln xs) lw_Y 109 [some (.ref b), some (.ref (ad 0)), some (.ref (ad 21)), some (.ref (ad 22)), some (.ref (ad 23)), some (.int (nI i)), some (.int v6), some (.int v7), some (.int v8), o9] [.int (nI kd), .ref (ad 0)] 24 ad (xs_mem G ad X) (25 + 1800 * i) (10000 + 45700 * i) := by
      intro kd v6 v7 v8 o9 hkd
      refine jq_iload dL_law_109 rfl ?_
      refine jq_aload_n dL_law_111 rfl rfl ?_
      refine jq_aload_n dL_law_112 rfl rfl ?_
      refine jq_aload dL_law_113 rfl ?_
      refine lw_callJ dL_law_115 kL_205 hL_205 (c_L_acts hl hI hkd v7) rfl rfl ⟨⟨by decide, by decide⟩, by show _ ≤ 600172; omega, by show _ ≤ 7300668; omega⟩ (fun X1 hZ1 => ?_)
      refine jq_istore dL_law_118 (Nat.le_of_ble_eq_true rfl) rfl rfl ?_
      refine jq_iload dL_law_120 rfl ?_
      refine jq_eqZ (tgt := 174) dL_law_122 (by decide) (by decide) (fun c122 => ?_) (fun c122 => ?_)
      · exact absurd c122 (by decide)
      · refine jq_iload dL_law_125 rfl ?_
        refine jq_iconst (v := (nI 3)) dL_law_127 (by decide) ?_
        refine jq_iremN dL_law_128 (⟨by omega, by decide, by decide⟩) ?_
        refine jq_neZ (tgt := 148) dL_law_129 (by decide) (by omega) (fun c129 => ?_) (fun c129 => ?_)
        · refine jq_iload dL_law_148 rfl ?_
          refine jq_bipush (v := (nI 6)) dL_law_150 (by decide) ?_
          refine jq_iremN dL_law_152 (⟨by omega, by decide, by decide⟩) ?_
          refine jq_iconst (v := (nI 5)) dL_law_153 (by decide) ?_
          refine jq_neN (tgt := 170) dL_law_154 (by decide) ⟨by omega, by decide⟩ (fun c154 => ?_) (fun c154 => ?_)
          · exact s170 X1 v6 v7 v8 _ _ hZ1 (by omega) (by omega)
          · refine jq_aload_n dL_law_157 rfl rfl ?_
            refine jq_iload dL_law_158 rfl ?_
            refine jq_aload_n dL_law_160 rfl rfl ?_
            refine jq_aload_n dL_law_161 rfl rfl ?_
            refine jq_aload dL_law_162 rfl ?_
            obtain ⟨w1, h1, num1, mk1, hI1⟩ := hZ1
            refine lw_callJ dL_law_164 kL_213 hL_213 (c_L_solves hl hI1 v7) rfl rfl ⟨⟨by decide, by decide⟩, by show _ ≤ 600172; omega, by show _ ≤ 7300668; omega⟩ (fun X2 hZ2 => ?_)
            refine jq_eqZ (tgt := 174) dL_law_167 (by decide) (by decide) (fun c167 => ?_) (fun c167 => ?_)
            · exact absurd c167 (by decide)
            · exact s170 X2 v6 v7 v8 _ _ hZ2 (by omega) (by omega)
        · refine jq_aload_n dL_law_132 rfl rfl ?_
          refine jq_iload dL_law_133 rfl ?_
          refine jq_aload_n dL_law_135 rfl rfl ?_
          refine jq_aload_n dL_law_136 rfl rfl ?_
          refine jq_aload dL_law_137 rfl ?_
          obtain ⟨w1, h1, num1, mk1, hI1⟩ := hZ1
          refine lw_callJ dL_law_139 kL_209 hL_209 (c_L_looks hl hI1 v7) rfl rfl ⟨⟨by decide, by decide⟩, by show _ ≤ 600172; omega, by show _ ≤ 7300668; omega⟩ (fun X2 hZ2 => ?_)
          refine jq_eqZ (tgt := 174) dL_law_142 (by decide) (by decide) (fun c142 => ?_) (fun c142 => ?_)
          · exact absurd c142 (by decide)
          · refine jq_goto (tgt := 170) dL_law_145 (by decide) ?_
            exact s170 X2 v6 v7 v8 _ _ hZ2 (by omega) (by omega)
    refine jq_iload dL_law_55 rfl ?_
    refine jq_bipush (v := (nI 60)) dL_law_57 (by decide) ?_
    refine jq_geN (tgt := 190) dL_law_59 (by decide) ⟨by omega, by decide⟩ (fun c59 => ?_) (fun c59 => ?_)
    · exact absurd c59 (by omega)
    · refine jq_aload_n dL_law_62 rfl rfl ?_
      refine jq_iload dL_law_63 rfl ?_
      refine lw_cell hLn (by omega) dL_law_65 rfl ⟨⟨by decide, by decide⟩, by show _ ≤ 600172; omega, by show _ ≤ 7300668; omega⟩ (fun v6 => ?_)
      refine jq_istore dL_law_68 (Nat.le_of_ble_eq_true rfl) rfl rfl ?_
      refine jq_iload dL_law_70 rfl ?_
      refine jq_iconst (v := (nI 4)) dL_law_72 (by decide) ?_
      refine jq_ishr dL_law_73 rfl ?_
      refine jq_istore dL_law_74 (Nat.le_of_ble_eq_true rfl) rfl rfl ?_
      refine jq_iload dL_law_76 rfl ?_
      refine jq_bipush (v := (nI 13)) dL_law_78 (by decide) ?_
      refine xq_sI dL_law_80 kL_135 (c_L_some v6 (by decide) (by decide)) rfl rfl (Nat.le_of_ble_eq_true rfl) (⟨⟨by decide, by decide⟩, by show _ ≤ 600172; omega, by show _ ≤ 7300668; omega⟩) ?_
      refine jq_istore dL_law_83 (Nat.le_of_ble_eq_true rfl) rfl rfl ?_
      refine jq_aload_n dL_law_85 rfl rfl ?_
      refine jq_iload dL_law_86 rfl ?_
      refine jq_neZ (tgt := 95) dL_law_88 (by decide) (by omega) (fun c88 => ?_) (fun c88 => ?_)
      · refine jq_iload dL_law_95 rfl ?_
        refine jq_bipush (v := (nI 10)) dL_law_97 (by decide) ?_
        refine jq_leN (tgt := 107) dL_law_99 (by decide) ⟨by have := lr_sm_lt v6 (show 0 < 13 by decide); omega, by decide⟩ (fun c99 => ?_) (fun c99 => ?_)
        · refine jq_iload dL_law_107 rfl ?_
          exact s109 _ _ _ _ _ (by first | decide | omega)
        · refine jq_bipush (v := (nI 11)) dL_law_102 (by decide) ?_
          refine jq_goto (tgt := 109) dL_law_104 (by decide) ?_
          exact s109 _ _ _ _ _ (by first | decide | omega)
      · refine jq_iconst (v := (nI 0)) dL_law_91 (by decide) ?_
        refine jq_goto (tgt := 109) dL_law_92 (by decide) ?_
        exact s109 _ _ _ _ _ (by first | decide | omega)
