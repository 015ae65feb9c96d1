/-! throwing contracts over the record; links of the law and of calls that may throw. printed by wip/p27/gen/mk80.py -/
abbrev xx_P (G : jq_G) (n : Nat) (ad : Nat → Nat) (Pr : Option Value → xs_T → Prop) : Option Value → Nat → (Nat → Nat) → (Nat → va_E) → Prop := fun r n' ad' mem' => n' = n ∧ ad' = ad ∧ ∃ X', mem' = xs_mem G ad X' ∧ Pr r X'
abbrev xx_X (G : jq_G) (n : Nat) (ad : Nat → Nat) (PX : String → xs_T → Prop) : String → Nat → (Nat → Nat) → (Nat → va_E) → Prop := fun E n' ad' mem' => n' = n ∧ ad' = ad ∧ ∃ X', mem' = xs_mem G ad X' ∧ PX E X'
def xx_Ct (l : Launch) (G : jq_G) (M : jq_M) (d : Nat) (av : List Value) (n : Nat) (ad : Nat → Nat) (X : xs_T) (Pr : Option Value → xs_T → Prop) (PX : String → xs_T → Prop) : Prop := jx_Ct l G M (jx_cd M) d 1 6 av n ad (xs_mem G ad X) (xx_P G n ad Pr) (xx_X G n ad PX)
def xx_Cw (l : Launch) (G : jq_G) (M : jq_M) (hh : List (Nat × Nat × Nat × Nat)) (d : Nat) (av : List Value) (n : Nat) (ad : Nat → Nat) (X : xs_T) (Pr : Option Value → xs_T → Prop) : Prop := jx_Ct l G M (jx_cw M hh) d 1 6 av n ad (xs_mem G ad X) (xx_P G n ad Pr) (fun _ _ _ _ => False)
abbrev xx_Ye (G : jq_G) (n : Nat) (ad : Nat → Nat) (Pr : Option Value → xs_T → Prop) (PX : String → xs_T → Prop) : jq_Y := jx_Ye G (xx_P G n ad Pr) (xx_X G n ad PX) 1 6
abbrev xx_Yw (G : jq_G) (n : Nat) (ad : Nat → Nat) (Pr : Option Value → xs_T → Prop) : jq_Y := jx_Ye G (xx_P G n ad Pr) (fun _ _ _ _ => False) 1 6
section JXX
variable {l : Launch} {G : jq_G} {M M' : jq_M} {R : Room} {Ex : jq_E} {Y : jq_Y} {pc d d' idx na mc ms : Nat} {L : jq_L} {st As rest av : List Value} {n : Nat} {ad : Nat → Nat} {X : xs_T} {cells slots : Nat} {Pr Pr' : Option Value → xs_T → Prop} {PX PX' : String → xs_T → Prop} {PZ : String → Nat → (Nat → Nat) → (Nat → va_E) → Prop} {tb : List ExceptionTableEntry} {hh : List (Nat × Nat × Nat × Nat)}
theorem xx_Ct_of (hy : plainName M.1.cls = true) (hlen : (lg_sl av).length ≤ M.2.2.1) (hL : jq_ent av ++ List.replicate (M.2.2.1 - (jq_ent av).length) none = L)
    (k : jq_J l G M (jq_R d 1 6) (jx_E []) (xx_Ye G n ad Pr PX) 0 L [] n ad (xs_mem G ad X) 0 0) : xx_Ct l G M d av n ad X Pr PX := jx_Ct_of hy hlen hL k
theorem xx_Cw_of (hy : plainName M.1.cls = true) (hlen : (lg_sl av).length ≤ M.2.2.1) (hL : jq_ent av ++ List.replicate (M.2.2.1 - (jq_ent av).length) none = L)
    (k : jq_J l G M (jq_R d 1 6) (jx_E (tableOf hh)) (xx_Yw G n ad Pr) 0 L [] n ad (xs_mem G ad X) 0 0) : xx_Cw l G M hh d av n ad X Pr := jx_Ct_ofW hy hlen hL k
theorem xz_ireturn {v : Int32} {ty : FieldType} (hd : decode M.2.1 pc = .ok (.ireturn, 1)) (hr : M.2.2.2 = some ty) (hn : narrow ty (.int v) = .int v) (hc : cells ≤ mc ∧ slots ≤ ms) (k : Pr (some (.int v)) X) : jq_J l G M R Ex (jx_Ye G (xx_P G n ad Pr) PZ mc ms) pc L [.int v] n ad (xs_mem G ad X) cells slots :=
  jx_ret (jq_ireturn hd hr hn hc.1 hc.2 ⟨rfl, rfl, X, rfl, k⟩)
theorem xx_throw {cls text : String} {ik ic is : Nat} (hl : l.stackTraces = false) (hT : jx_T cls ik ic) (hown : M.1.cls = "SlitherFence") (hs : (is, text) ∈ jx_str)
    (d0 : decode M.2.1 pc = .ok (.new ik, 3)) (d3 : decode M.2.1 (pc + 3) = .ok (.dup, 1)) (d4 : decode M.2.1 (pc + 4) = .ok (.ldc is, 2)) (d6 : decode M.2.1 (pc + 6) = .ok (.invokespecial ic, 3)) (d9 : decode M.2.1 (pc + 9) = .ok (.athrow, 1))
    (hR : 5 < R.frames ∧ 100 ≤ R.locals ∧ cells + 1 ≤ R.cells ∧ slots + 6 ≤ R.slots) (hm : cells + 1 ≤ mc ∧ slots + 6 ≤ ms) (k : PX cls X) : jq_J l G M R (jx_E []) (jx_Ye G (xx_P G n ad Pr) (xx_X G n ad PX) mc ms) pc L [] n ad (xs_mem G ad X) cells slots :=
  jx_throw hl hT hown hs d0 d3 d4 d6 d9 hR (by decide) hm ⟨rfl, rfl, X, rfl, k⟩
/-- a call that throws for sure -/
theorem xx_inv {q : Nat} (hd : decode M.2.1 pc = .ok (.invokevirtual idx, 3)) (F : jq_LV M.1.cls idx M' na) (hF2 : Cond.methodLink M.1.cls idx M'.1 ∈ jq_big) (hCt : xx_Ct l G M' d' (.ref (ad q) :: As) n ad X (fun _ _ => False) PX') (hq : q < n) (hs : xs_k q = 0 ∧ (vwCl[xs_c q]?).map (fun z => z.1) = some M'.1.cls) (hn : As.length = na) (hst : st = As.reverse ++ .ref (ad q) :: rest) (hw : (rest.map fun v => v.category).sum ≤ 8) (hf : jq_fit R M' d' 1 6 cells slots) (hm : cells + 1 ≤ mc ∧ slots + 6 ≤ ms)
    (kx : ∀ E X', PX' E X' → PX E X') : jq_J l G M R (jx_E []) (jx_Ye G (xx_P G n ad Pr) (xx_X G n ad PX) mc ms) pc L st n ad (xs_mem G ad X) cells slots :=
  jx_invV hd F hF2 hCt hq (xs_m0 hs.1) hs.2 hn hst hw hf hm (fun E n' ad' mem' h => by obtain ⟨rfl, rfl, X', rfl, h⟩ := h; exact ⟨rfl, rfl, X', rfl, kx E X' h⟩) (fun r n' ad' mem' h => by obtain ⟨_, _, X', _, h⟩ := h; exact h.elim)
/-- .. and is caught -/
theorem xx_invc {q : Nat} (hpc : Nat) (hd : decode M.2.1 pc = .ok (.invokevirtual idx, 3)) (F : jq_LV M.1.cls idx M' na) (hF2 : Cond.methodLink M.1.cls idx M'.1 ∈ jq_big) (hCt : xx_Ct l G M' d' (.ref (ad q) :: As) n ad X (fun _ _ => False) PX') (hq : q < n) (hs : xs_k q = 0 ∧ (vwCl[xs_c q]?).map (fun z => z.1) = some M'.1.cls) (hn : As.length = na) (hst : st = As.reverse ++ .ref (ad q) :: rest) (hw : (rest.map fun v => v.category).sum ≤ 8) (hf : jq_fit R M' d' 1 6 cells slots)
    (kx : ∀ E X' q9, PX' E X' → jx_at tb M.1.cls pc E hpc ∧ jq_J l G M R (jx_E tb) Y hpc L [.ref q9] n ad (xs_mem G ad X') (cells + 1) (slots + 6)) : jq_J l G M R (jx_E tb) Y pc L st n ad (xs_mem G ad X) cells slots :=
  jx_invVc hd F hF2 hCt hq (xs_m0 hs.1) hs.2 hn hst hw hf (fun E n' ad' mem' q9 h => by obtain ⟨rfl, rfl, X', rfl, h⟩ := h; exact ⟨hpc, kx E X' q9 h⟩) (fun r n' ad' mem' h => by obtain ⟨_, _, X', _, h⟩ := h; exact h.elim)
theorem xx_invS (hOk : jx_Ok Ex) (hd : decode M.2.1 pc = .ok (.invokestatic idx, 3)) (F1 : Cond.methodLink M.1.cls idx M'.1 ∈ jq_big ∧ Cond.static M'.1 ∈ jq_big ∧ Cond.initialized M'.1.cls ∈ jq_big ∧ jx_cw M' hh ∈ jq_big) (F2 : M'.1.cls ≠ "java/lang/invoke/MethodHandle" ∧ M'.1.cls ≠ "java/lang/invoke/VarHandle" ∧ (parseMethodDescriptor M'.1.desc).map (fun d => d.parameters.length) = some na) (hCt : xx_Cw l G M' hh d' As n ad X Pr') (hn : As.length = na) (hst : st = As.reverse ++ rest) (hw : (rest.map fun v => v.category).sum ≤ 8) (hf : jq_fit R M' d' 1 6 cells slots)
    (k : ∀ r X', Pr' r X' → jq_J l G M R Ex Y (pc + 3) L (r.toList ++ rest) n ad (xs_mem G ad X') (cells + 1) (slots + 6)) : jq_J l G M R Ex Y pc L st n ad (xs_mem G ad X) cells slots :=
  jx_invS hOk hd F1 F2 hCt hn hst hw hf (fun r n' ad' mem' h => by obtain ⟨rfl, rfl, X', rfl, h⟩ := h; exact k r X' h)
end JXX
def hL_laid : List (Nat × Nat × Nat × Nat) := [(0, 7, 8, 93)]
abbrev mL_laid : jq_M := (yL_laid, cL_laid, 4, (some .int))
theorem jc_L_laid : jx_cw mL_laid hL_laid ∈ jq_big := jq_in1 292 (by decide +kernel) rfl
theorem jt_L_laid : Cond.static yL_laid ∈ jq_big := jq_in1 291 (by decide +kernel) rfl
theorem gL_138 : Cond.methodLink RL 138 yL_laid ∈ jq_big ∧ Cond.static yL_laid ∈ jq_big ∧ Cond.initialized RL ∈ jq_big ∧ jx_cw mL_laid hL_laid ∈ jq_big := ⟨jq_in1 290 (by decide +kernel) rfl, jt_L_laid, ji_L, jc_L_laid⟩
def hL_tells : List (Nat × Nat × Nat × Nat) := [(0, 19, 20, 91), (0, 19, 25, 93)]
abbrev mL_tells : jq_M := (yL_tells, cL_tells, 5, (some .int))
theorem jc_L_tells : jx_cw mL_tells hL_tells ∈ jq_big := jq_in1 376 (by decide +kernel) rfl
theorem jt_L_tells : Cond.static yL_tells ∈ jq_big := jq_in1 375 (by decide +kernel) rfl
theorem gL_142 : Cond.methodLink RL 142 yL_tells ∈ jq_big ∧ Cond.static yL_tells ∈ jq_big ∧ Cond.initialized RL ∈ jq_big ∧ jx_cw mL_tells hL_tells ∈ jq_big := ⟨jq_in1 374 (by decide +kernel) rfl, jt_L_tells, ji_L, jc_L_tells⟩
def hL_of : List (Nat × Nat × Nat × Nat) := [(0, 82, 83, 91)]
abbrev mL_of : jq_M := (yL_of, cL_of, 5, (some .int))
theorem jc_L_of : jx_cw mL_of hL_of ∈ jq_big := jq_in1 607 (by decide +kernel) rfl
theorem jt_L_of : Cond.static yL_of ∈ jq_big := jq_in1 606 (by decide +kernel) rfl
theorem gL_156 : Cond.methodLink RL 156 yL_of ∈ jq_big ∧ Cond.static yL_of ∈ jq_big ∧ Cond.initialized RL ∈ jq_big ∧ jx_cw mL_of hL_of ∈ jq_big := ⟨jq_in1 605 (by decide +kernel) rfl, jt_L_of, ji_L, jc_L_of⟩
def hL_answer : List (Nat × Nat × Nat × Nat) := [(0, 5, 6, 91)]
abbrev mL_answer : jq_M := (yL_answer, cL_answer, 3, (some .long))
theorem jc_L_answer : jx_cw mL_answer hL_answer ∈ jq_big := jq_in1 731 (by decide +kernel) rfl
theorem jt_L_answer : Cond.static yL_answer ∈ jq_big := jq_in1 730 (by decide +kernel) rfl
theorem gL_191 : Cond.methodLink RL 191 yL_answer ∈ jq_big ∧ Cond.static yL_answer ∈ jq_big ∧ Cond.initialized RL ∈ jq_big ∧ jx_cw mL_answer hL_answer ∈ jq_big := ⟨jq_in1 729 (by decide +kernel) rfl, jt_L_answer, ji_L, jc_L_answer⟩
def hL_proved : List (Nat × Nat × Nat × Nat) := [(0, 5, 6, 91), (0, 5, 10, 129)]
abbrev mL_proved : jq_M := (yL_proved, cL_proved, 3, (some .int))
theorem jc_L_proved : jx_cw mL_proved hL_proved ∈ jq_big := jq_in1 739 (by decide +kernel) rfl
theorem jt_L_proved : Cond.static yL_proved ∈ jq_big := jq_in1 738 (by decide +kernel) rfl
theorem gL_194 : Cond.methodLink RL 194 yL_proved ∈ jq_big ∧ Cond.static yL_proved ∈ jq_big ∧ Cond.initialized RL ∈ jq_big ∧ jx_cw mL_proved hL_proved ∈ jq_big := ⟨jq_in1 737 (by decide +kernel) rfl, jt_L_proved, ji_L, jc_L_proved⟩
def hL_beyond : List (Nat × Nat × Nat × Nat) := [(0, 4, 5, 129)]
abbrev mL_beyond : jq_M := (yL_beyond, cL_beyond, 2, (some .int))
theorem jc_L_beyond : jx_cw mL_beyond hL_beyond ∈ jq_big := jq_in1 775 (by decide +kernel) rfl
theorem jt_L_beyond : Cond.static yL_beyond ∈ jq_big := jq_in1 774 (by decide +kernel) rfl
theorem gL_197 : Cond.methodLink RL 197 yL_beyond ∈ jq_big ∧ Cond.static yL_beyond ∈ jq_big ∧ Cond.initialized RL ∈ jq_big ∧ jx_cw mL_beyond hL_beyond ∈ jq_big := ⟨jq_in1 773 (by decide +kernel) rfl, jt_L_beyond, ji_L, jc_L_beyond⟩
theorem hL_95 : Cond.methodLink RL 95 yX5_lay ∈ jq_big := jq_in1 294 (by decide +kernel) rfl
theorem hX5_55 : Cond.methodLink RX5 55 yX5_unmark ∈ jq_big := jq_in1 370 (by decide +kernel) rfl
theorem hL_82 : Cond.methodLink RL 82 yX5_number ∈ jq_big := jq_in1 378 (by decide +kernel) rfl
theorem hX5_65 : Cond.methodLink RX5 65 yX5_requireCell ∈ jq_big := jq_in1 382 (by decide +kernel) rfl
theorem hL_88 : Cond.methodLink RL 88 yX5_mark ∈ jq_big := jq_in1 403 (by decide +kernel) rfl
theorem hX5_75 : Cond.methodLink RX5 75 yX5_requireEdge ∈ jq_big := jq_in1 407 (by decide +kernel) rfl
theorem hL_146 : Cond.methodLink RL 146 yX5_wipe ∈ jq_big := jq_in1 423 (by decide +kernel) rfl
theorem hL_153 : Cond.methodLink RL 153 yX5_markAll ∈ jq_big := jq_in1 481 (by decide +kernel) rfl
theorem hL_99 : Cond.methodLink RL 99 yX5_follows ∈ jq_big := jq_in1 608 (by decide +kernel) rfl
theorem hL_103 : Cond.methodLink RL 103 yX5_roundOf ∈ jq_big := jq_in1 612 (by decide +kernel) rfl
theorem hL_106 : Cond.methodLink RL 106 yX5_ruleOf ∈ jq_big := jq_in1 616 (by decide +kernel) rfl
theorem hL_109 : Cond.methodLink RL 109 yX5_edgeOf ∈ jq_big := jq_in1 620 (by decide +kernel) rfl
theorem hL_112 : Cond.methodLink RL 112 yX5_isNeeded ∈ jq_big := jq_in1 629 (by decide +kernel) rfl
theorem hL_116 : Cond.methodLink RL 116 yX5_isInside ∈ jq_big := jq_in1 655 (by decide +kernel) rfl
theorem hX5_160 : Cond.methodLink RX5 160 yX5_requireAnswer ∈ jq_big := jq_in1 659 (by decide +kernel) rfl
theorem hL_160 : Cond.methodLink RL 160 yX5_rounds ∈ jq_big := jq_in1 668 (by decide +kernel) rfl
theorem hL_163 : Cond.methodLink RL 163 yX5_end ∈ jq_big := jq_in1 672 (by decide +kernel) rfl
theorem hL_166 : Cond.methodLink RL 166 yX5_lines ∈ jq_big := jq_in1 679 (by decide +kernel) rfl
theorem hL_168 : Cond.methodLink RL 168 yX5_ways ∈ jq_big := jq_in1 683 (by decide +kernel) rfl
theorem hL_171 : Cond.methodLink RL 171 yX5_broken ∈ jq_big := jq_in1 688 (by decide +kernel) rfl
theorem hL_173 : Cond.methodLink RL 173 yX5_isAnswer ∈ jq_big := jq_in1 694 (by decide +kernel) rfl
theorem hL_177 : Cond.methodLink RL 177 yX5_hint ∈ jq_big := jq_in1 700 (by decide +kernel) rfl
theorem hL_180 : Cond.methodLink RL 180 yX5_cells ∈ jq_big := jq_in1 705 (by decide +kernel) rfl
theorem hL_183 : Cond.methodLink RL 183 yX5_edges ∈ jq_big := jq_in1 709 (by decide +kernel) rfl
theorem hL_189 : Cond.methodLink RL 189 yX5_answers ∈ jq_big := jq_in1 725 (by decide +kernel) rfl
theorem hL_120 : Cond.methodLink RL 120 yX5_answer ∈ jq_big := jq_in1 732 (by decide +kernel) rfl
theorem hL_126 : Cond.methodLink RL 126 yX5_proved ∈ jq_big := jq_in1 741 (by decide +kernel) rfl
theorem hX5_168 : Cond.methodLink RX5 168 yX5_requireSomeAnswer ∈ jq_big := jq_in1 745 (by decide +kernel) rfl
theorem hL_131 : Cond.methodLink RL 131 yX5_beyondRules ∈ jq_big := jq_in1 776 (by decide +kernel) rfl
theorem jx_s47 : (47, "width and height are 1 to 4") ∈ jx_str := by decide +kernel
theorem jx_s181 : (181, "no such cell") ∈ jx_str := by decide +kernel
theorem jx_s69 : (69, "a number is 0 to 3, or NONE") ∈ jx_str := by decide +kernel
theorem jx_s183 : (183, "no such edge") ∈ jx_str := by decide +kernel
theorem jx_s78 : (78, "a state is UNKNOWN, LINE or CROSS") ∈ jx_str := by decide +kernel
theorem jx_s110 : (110, "no such side") ∈ jx_str := by decide +kernel
theorem jx_s189 : (189, "there are not so many answers") ∈ jx_str := by decide +kernel
theorem jx_s193 : (193, "there is no answer") ∈ jx_str := by decide +kernel
