/-! throwing contracts over the record; links of the law and of calls that may throw. printed by wip/whole/gen/mk80.py -/
abbrev xx_P (G : jq_G) (n : Nat) (ad : Nat → Nat) (Pr : Option Value → xs_T → Prop) : Option Value → Nat → (Nat → Nat) → (Nat → va_E) → Prop := fun r n' ad' mem' => n' = n ∧ ad' = ad ∧ ∃ X', mem' = xs_mem G ad X' ∧ Pr r X'
abbrev xx_X (G : jq_G) (n : Nat) (ad : Nat → Nat) (PX : String → xs_T → Prop) : String → Nat → (Nat → Nat) → (Nat → va_E) → Prop := fun E n' ad' mem' => n' = n ∧ ad' = ad ∧ ∃ X', mem' = xs_mem G ad X' ∧ PX E X'
def xx_Ct (l : Launch) (G : jq_G) (M : jq_M) (d : Nat) (av : List Value) (n : Nat) (ad : Nat → Nat) (X : xs_T) (Pr : Option Value → xs_T → Prop) (PX : String → xs_T → Prop) : Prop := jx_Ct l G M (jx_cd M) d 1 6 av n ad (xs_mem G ad X) (xx_P G n ad Pr) (xx_X G n ad PX)
def xx_Cw (l : Launch) (G : jq_G) (M : jq_M) (hh : List (Nat × Nat × Nat × Nat)) (d : Nat) (av : List Value) (n : Nat) (ad : Nat → Nat) (X : xs_T) (Pr : Option Value → xs_T → Prop) : Prop := jx_Ct l G M (jx_cw M hh) d 1 6 av n ad (xs_mem G ad X) (xx_P G n ad Pr) (fun _ _ _ _ => False)
abbrev xx_Ye (G : jq_G) (n : Nat) (ad : Nat → Nat) (Pr : Option Value → xs_T → Prop) (PX : String → xs_T → Prop) : jq_Y := jx_Ye G (xx_P G n ad Pr) (xx_X G n ad PX) 1 6
abbrev xx_Yw (G : jq_G) (n : Nat) (ad : Nat → Nat) (Pr : Option Value → xs_T → Prop) : jq_Y := jx_Ye G (xx_P G n ad Pr) (fun _ _ _ _ => False) 1 6
section JXX
variable {l : Launch} {G : jq_G} {M M' : jq_M} {R : Room} {Ex : jq_E} {Y : jq_Y} {pc d d' idx na mc ms : Nat} {L : jq_L} {st As rest av : List Value} {n : Nat} {ad : Nat → Nat} {X : xs_T} {cells slots : Nat} {Pr Pr' : Option Value → xs_T → Prop} {PX PX' : String → xs_T → Prop} {PZ : String → Nat → (Nat → Nat) → (Nat → va_E) → Prop} {tb : List ExceptionTableEntry} {hh : List (Nat × Nat × Nat × Nat)}
theorem xx_Ct_of (hy : plainName M.1.cls = true) (hlen : (lg_sl av).length ≤ M.2.2.1) (hL : jq_ent av ++ List.replicate (M.2.2.1 - (jq_ent av).length) none = L)
    (k : jq_J l G M (jq_R d 1 6) (jx_E []) (xx_Ye G n ad Pr PX) 0 L [] n ad (xs_mem G ad X) 0 0) : xx_Ct l G M d av n ad X Pr PX := jx_Ct_of hy hlen hL k
theorem xx_Cw_of (hy : plainName M.1.cls = true) (hlen : (lg_sl av).length ≤ M.2.2.1) (hL : jq_ent av ++ List.replicate (M.2.2.1 - (jq_ent av).length) none = L)
    (k : jq_J l G M (jq_R d 1 6) (jx_E (tableOf hh)) (xx_Yw G n ad Pr) 0 L [] n ad (xs_mem G ad X) 0 0) : xx_Cw l G M hh d av n ad X Pr := jx_Ct_ofW hy hlen hL k
theorem xz_ireturn {v : Int32} {ty : FieldType} (hd : decode M.2.1 pc = .ok (.ireturn, 1)) (hr : M.2.2.2 = some ty) (hn : narrow ty (.int v) = .int v) (hc : cells ≤ mc ∧ slots ≤ ms) (k : Pr (some (.int v)) X) : jq_J l G M R Ex (jx_Ye G (xx_P G n ad Pr) PZ mc ms) pc L [.int v] n ad (xs_mem G ad X) cells slots :=
  jx_ret (jq_ireturn hd hr hn hc.1 hc.2 ⟨rfl, rfl, X, rfl, k⟩)
theorem xx_throw {cls text : String} {ik ic is : Nat} (hl : l.stackTraces = false) (hT : jx_T cls ik ic) (hown : M.1.cls = "SlitherFence") (hs : (is, text) ∈ jx_str)
    (d0 : decode M.2.1 pc = .ok (.new ik, 3)) (d3 : decode M.2.1 (pc + 3) = .ok (.dup, 1)) (d4 : decode M.2.1 (pc + 4) = .ok (.ldc is, 2)) (d6 : decode M.2.1 (pc + 6) = .ok (.invokespecial ic, 3)) (d9 : decode M.2.1 (pc + 9) = .ok (.athrow, 1))
    (hR : 5 < R.frames ∧ 100 ≤ R.locals ∧ cells + 1 ≤ R.cells ∧ slots + 6 ≤ R.slots) (hm : cells + 1 ≤ mc ∧ slots + 6 ≤ ms) (k : PX cls X) : jq_J l G M R (jx_E []) (jx_Ye G (xx_P G n ad Pr) (xx_X G n ad PX) mc ms) pc L [] n ad (xs_mem G ad X) cells slots :=
  jx_throw hl hT hown hs d0 d3 d4 d6 d9 hR (by decide) hm ⟨rfl, rfl, X, rfl, k⟩
/-- a call that throws for sure -/
theorem xx_inv {q : Nat} (hd : decode M.2.1 pc = .ok (.invokevirtual idx, 3)) (F : jq_LV M.1.cls idx M' na) (hF2 : Cond.methodLink M.1.cls idx M'.1 ∈ jq_big) (hCt : xx_Ct l G M' d' (.ref (ad q) :: As) n ad X (fun _ _ => False) PX') (hq : q < n) (hs : xs_k q = 0 ∧ (vwCl[xs_c q]?).map (fun z => z.1) = some M'.1.cls) (hn : As.length = na) (hst : st = As.reverse ++ .ref (ad q) :: rest) (hw : (rest.map fun v => v.category).sum ≤ 8) (hf : jq_fit R M' d' 1 6 cells slots) (hm : cells + 1 ≤ mc ∧ slots + 6 ≤ ms)
    (kx : ∀ E X', PX' E X' → PX E X') : jq_J l G M R (jx_E []) (jx_Ye G (xx_P G n ad Pr) (xx_X G n ad PX) mc ms) pc L st n ad (xs_mem G ad X) cells slots :=
  jx_invV hd F hF2 hCt hq (xs_m0 hs.1) hs.2 hn hst hw hf hm (fun E n' ad' mem' h => by obtain ⟨rfl, rfl, X', rfl, h⟩ := h; exact ⟨rfl, rfl, X', rfl, kx E X' h⟩) (fun r n' ad' mem' h => by obtain ⟨_, _, X', _, h⟩ := h; exact h.elim)
/-- .. and is caught -/
theorem xx_invc {q : Nat} (hpc : Nat) (hd : decode M.2.1 pc = .ok (.invokevirtual idx, 3)) (F : jq_LV M.1.cls idx M' na) (hF2 : Cond.methodLink M.1.cls idx M'.1 ∈ jq_big) (hCt : xx_Ct l G M' d' (.ref (ad q) :: As) n ad X (fun _ _ => False) PX') (hq : q < n) (hs : xs_k q = 0 ∧ (vwCl[xs_c q]?).map (fun z => z.1) = some M'.1.cls) (hn : As.length = na) (hst : st = As.reverse ++ .ref (ad q) :: rest) (hw : (rest.map fun v => v.category).sum ≤ 8) (hf : jq_fit R M' d' 1 6 cells slots)
    (kx : ∀ E X' q9, PX' E X' → jx_at tb M.1.cls pc E hpc ∧ jq_J l G M R (jx_E tb) Y hpc L [.ref q9] n ad (xs_mem G ad X') (cells + 1) (slots + 6)) : jq_J l G M R (jx_E tb) Y pc L st n ad (xs_mem G ad X) cells slots :=
  jx_invVc hd F hF2 hCt hq (xs_m0 hs.1) hs.2 hn hst hw hf (fun E n' ad' mem' q9 h => by obtain ⟨rfl, rfl, X', rfl, h⟩ := h; exact ⟨hpc, kx E X' q9 h⟩) (fun r n' ad' mem' h => by obtain ⟨_, _, X', _, h⟩ := h; exact h.elim)
theorem xx_invS (hOk : jx_Ok Ex) (hd : decode M.2.1 pc = .ok (.invokestatic idx, 3)) (F1 : Cond.methodLink M.1.cls idx M'.1 ∈ jq_big ∧ Cond.static M'.1 ∈ jq_big ∧ Cond.initialized M'.1.cls ∈ jq_big ∧ jx_cw M' hh ∈ jq_big) (F2 : M'.1.cls ≠ "java/lang/invoke/MethodHandle" ∧ M'.1.cls ≠ "java/lang/invoke/VarHandle" ∧ (parseMethodDescriptor M'.1.desc).map (fun d => d.parameters.length) = some na) (hCt : xx_Cw l G M' hh d' As n ad X Pr') (hn : As.length = na) (hst : st = As.reverse ++ rest) (hw : (rest.map fun v => v.category).sum ≤ 8) (hf : jq_fit R M' d' 1 6 cells slots)
    (k : ∀ r X', Pr' r X' → jq_J l G M R Ex Y (pc + 3) L (r.toList ++ rest) n ad (xs_mem G ad X') (cells + 1) (slots + 6)) : jq_J l G M R Ex Y pc L st n ad (xs_mem G ad X) cells slots :=
  jx_invS hOk hd F1 F2 hCt hn hst hw hf (fun r n' ad' mem' h => by obtain ⟨rfl, rfl, X', rfl, h⟩ := h; exact k r X' h)
end JXX
def hL_lay : List (Nat × Nat × Nat × Nat) := [(0, 6, 9, 13)]
abbrev mL_lay : jq_M := (yL_lay, cL_lay, 4, (some .int))
theorem jc_L_lay : jx_cw mL_lay hL_lay ∈ jq_big := jq_in1 516 (by decide +kernel) rfl
theorem jt_L_lay : Cond.static yL_lay ∈ jq_big := jq_in1 515 (by decide +kernel) rfl
theorem gL_62 : Cond.methodLink RL 62 yL_lay ∈ jq_big ∧ Cond.static yL_lay ∈ jq_big ∧ Cond.initialized RL ∈ jq_big ∧ jx_cw mL_lay hL_lay ∈ jq_big := ⟨jq_in1 514 (by decide +kernel) rfl, jt_L_lay, ji_L, jc_L_lay⟩
def hL_number : List (Nat × Nat × Nat × Nat) := [(0, 10, 13, 19), (0, 10, 17, 13)]
abbrev mL_number : jq_M := (yL_number, cL_number, 5, (some .int))
theorem jc_L_number : jx_cw mL_number hL_number ∈ jq_big := jq_in1 596 (by decide +kernel) rfl
theorem jt_L_number : Cond.static yL_number ∈ jq_big := jq_in1 595 (by decide +kernel) rfl
theorem gL_79 : Cond.methodLink RL 79 yL_number ∈ jq_big ∧ Cond.static yL_number ∈ jq_big ∧ Cond.initialized RL ∈ jq_big ∧ jx_cw mL_number hL_number ∈ jq_big := ⟨jq_in1 594 (by decide +kernel) rfl, jt_L_number, ji_L, jc_L_number⟩
def hL_mark : List (Nat × Nat × Nat × Nat) := [(0, 10, 13, 19), (0, 10, 17, 13)]
abbrev mL_mark : jq_M := (yL_mark, cL_mark, 5, (some .int))
theorem jc_L_mark : jx_cw mL_mark hL_mark ∈ jq_big := jq_in1 625 (by decide +kernel) rfl
theorem jt_L_mark : Cond.static yL_mark ∈ jq_big := jq_in1 624 (by decide +kernel) rfl
theorem gL_83 : Cond.methodLink RL 83 yL_mark ∈ jq_big ∧ Cond.static yL_mark ∈ jq_big ∧ Cond.initialized RL ∈ jq_big ∧ jx_cw mL_mark hL_mark ∈ jq_big := ⟨jq_in1 623 (by decide +kernel) rfl, jt_L_mark, ji_L, jc_L_mark⟩
def hL_edgeOf : List (Nat × Nat × Nat × Nat) := [(0, 10, 13, 19)]
abbrev mL_edgeOf : jq_M := (yL_edgeOf, cL_edgeOf, 5, (some .int))
theorem jc_L_edgeOf : jx_cw mL_edgeOf hL_edgeOf ∈ jq_big := jq_in1 641 (by decide +kernel) rfl
theorem jt_L_edgeOf : Cond.static yL_edgeOf ∈ jq_big := jq_in1 640 (by decide +kernel) rfl
theorem gL_94 : Cond.methodLink RL 94 yL_edgeOf ∈ jq_big ∧ Cond.static yL_edgeOf ∈ jq_big ∧ Cond.initialized RL ∈ jq_big ∧ jx_cw mL_edgeOf hL_edgeOf ∈ jq_big := ⟨jq_in1 639 (by decide +kernel) rfl, jt_L_edgeOf, ji_L, jc_L_edgeOf⟩
def hL_follows : List (Nat × Nat × Nat × Nat) := [(0, 9, 12, 19)]
abbrev mL_follows : jq_M := (yL_follows, cL_follows, 4, (some .int))
theorem jc_L_follows : jx_cw mL_follows hL_follows ∈ jq_big := jq_in1 653 (by decide +kernel) rfl
theorem jt_L_follows : Cond.static yL_follows ∈ jq_big := jq_in1 652 (by decide +kernel) rfl
theorem gL_114 : Cond.methodLink RL 114 yL_follows ∈ jq_big ∧ Cond.static yL_follows ∈ jq_big ∧ Cond.initialized RL ∈ jq_big ∧ jx_cw mL_follows hL_follows ∈ jq_big := ⟨jq_in1 651 (by decide +kernel) rfl, jt_L_follows, ji_L, jc_L_follows⟩
def hL_roundOf : List (Nat × Nat × Nat × Nat) := [(0, 9, 12, 19)]
abbrev mL_roundOf : jq_M := (yL_roundOf, cL_roundOf, 4, (some .int))
theorem jc_L_roundOf : jx_cw mL_roundOf hL_roundOf ∈ jq_big := jq_in1 660 (by decide +kernel) rfl
theorem jt_L_roundOf : Cond.static yL_roundOf ∈ jq_big := jq_in1 659 (by decide +kernel) rfl
theorem gL_118 : Cond.methodLink RL 118 yL_roundOf ∈ jq_big ∧ Cond.static yL_roundOf ∈ jq_big ∧ Cond.initialized RL ∈ jq_big ∧ jx_cw mL_roundOf hL_roundOf ∈ jq_big := ⟨jq_in1 658 (by decide +kernel) rfl, jt_L_roundOf, ji_L, jc_L_roundOf⟩
def hL_ruleOf : List (Nat × Nat × Nat × Nat) := [(0, 9, 12, 19)]
abbrev mL_ruleOf : jq_M := (yL_ruleOf, cL_ruleOf, 4, (some .int))
theorem jc_L_ruleOf : jx_cw mL_ruleOf hL_ruleOf ∈ jq_big := jq_in1 667 (by decide +kernel) rfl
theorem jt_L_ruleOf : Cond.static yL_ruleOf ∈ jq_big := jq_in1 666 (by decide +kernel) rfl
theorem gL_121 : Cond.methodLink RL 121 yL_ruleOf ∈ jq_big ∧ Cond.static yL_ruleOf ∈ jq_big ∧ Cond.initialized RL ∈ jq_big ∧ jx_cw mL_ruleOf hL_ruleOf ∈ jq_big := ⟨jq_in1 665 (by decide +kernel) rfl, jt_L_ruleOf, ji_L, jc_L_ruleOf⟩
def hL_answer : List (Nat × Nat × Nat × Nat) := [(0, 8, 11, 19)]
abbrev mL_answer : jq_M := (yL_answer, cL_answer, 4, (some .int))
theorem jc_L_answer : jx_cw mL_answer hL_answer ∈ jq_big := jq_in1 674 (by decide +kernel) rfl
theorem jt_L_answer : Cond.static yL_answer ∈ jq_big := jq_in1 673 (by decide +kernel) rfl
theorem gL_140 : Cond.methodLink RL 140 yL_answer ∈ jq_big ∧ Cond.static yL_answer ∈ jq_big ∧ Cond.initialized RL ∈ jq_big ∧ jx_cw mL_answer hL_answer ∈ jq_big := ⟨jq_in1 672 (by decide +kernel) rfl, jt_L_answer, ji_L, jc_L_answer⟩
def hL_isInside : List (Nat × Nat × Nat × Nat) := [(0, 17, 20, 19)]
abbrev mL_isInside : jq_M := (yL_isInside, cL_isInside, 5, (some .int))
theorem jc_L_isInside : jx_cw mL_isInside hL_isInside ∈ jq_big := jq_in1 690 (by decide +kernel) rfl
theorem jt_L_isInside : Cond.static yL_isInside ∈ jq_big := jq_in1 689 (by decide +kernel) rfl
theorem gL_143 : Cond.methodLink RL 143 yL_isInside ∈ jq_big ∧ Cond.static yL_isInside ∈ jq_big ∧ Cond.initialized RL ∈ jq_big ∧ jx_cw mL_isInside hL_isInside ∈ jq_big := ⟨jq_in1 688 (by decide +kernel) rfl, jt_L_isInside, ji_L, jc_L_isInside⟩
def hL_proved : List (Nat × Nat × Nat × Nat) := [(0, 9, 12, 19), (0, 9, 15, 48)]
abbrev mL_proved : jq_M := (yL_proved, cL_proved, 4, (some .int))
theorem jc_L_proved : jx_cw mL_proved hL_proved ∈ jq_big := jq_in1 697 (by decide +kernel) rfl
theorem jt_L_proved : Cond.static yL_proved ∈ jq_big := jq_in1 696 (by decide +kernel) rfl
theorem gL_146 : Cond.methodLink RL 146 yL_proved ∈ jq_big ∧ Cond.static yL_proved ∈ jq_big ∧ Cond.initialized RL ∈ jq_big ∧ jx_cw mL_proved hL_proved ∈ jq_big := ⟨jq_in1 695 (by decide +kernel) rfl, jt_L_proved, ji_L, jc_L_proved⟩
def hL_beyondRules : List (Nat × Nat × Nat × Nat) := [(0, 8, 11, 48)]
abbrev mL_beyondRules : jq_M := (yL_beyondRules, cL_beyondRules, 3, (some .int))
theorem jc_L_beyondRules : jx_cw mL_beyondRules hL_beyondRules ∈ jq_big := jq_in1 733 (by decide +kernel) rfl
theorem jt_L_beyondRules : Cond.static yL_beyondRules ∈ jq_big := jq_in1 732 (by decide +kernel) rfl
theorem gL_149 : Cond.methodLink RL 149 yL_beyondRules ∈ jq_big ∧ Cond.static yL_beyondRules ∈ jq_big ∧ Cond.initialized RL ∈ jq_big ∧ jx_cw mL_beyondRules hL_beyondRules ∈ jq_big := ⟨jq_in1 731 (by decide +kernel) rfl, jt_L_beyondRules, ji_L, jc_L_beyondRules⟩
def hL_isNeeded : List (Nat × Nat × Nat × Nat) := [(0, 16, 19, 19)]
abbrev mL_isNeeded : jq_M := (yL_isNeeded, cL_isNeeded, 4, (some .int))
theorem jc_L_isNeeded : jx_cw mL_isNeeded hL_isNeeded ∈ jq_big := jq_in1 740 (by decide +kernel) rfl
theorem jt_L_isNeeded : Cond.static yL_isNeeded ∈ jq_big := jq_in1 739 (by decide +kernel) rfl
theorem gL_153 : Cond.methodLink RL 153 yL_isNeeded ∈ jq_big ∧ Cond.static yL_isNeeded ∈ jq_big ∧ Cond.initialized RL ∈ jq_big ∧ jx_cw mL_isNeeded hL_isNeeded ∈ jq_big := ⟨jq_in1 738 (by decide +kernel) rfl, jt_L_isNeeded, ji_L, jc_L_isNeeded⟩
theorem hL_71 : Cond.methodLink RL 71 yX5_cells ∈ jq_big := jq_in1 310 (by decide +kernel) rfl
theorem hL_75 : Cond.methodLink RL 75 yX5_edges ∈ jq_big := jq_in1 314 (by decide +kernel) rfl
theorem hL_86 : Cond.methodLink RL 86 yX5_wipe ∈ jq_big := jq_in1 318 (by decide +kernel) rfl
theorem hX5_55 : Cond.methodLink RX5 55 yX5_unmark ∈ jq_big := jq_in1 322 (by decide +kernel) rfl
theorem hL_90 : Cond.methodLink RL 90 yX5_markAll ∈ jq_big := jq_in1 326 (by decide +kernel) rfl
theorem hL_97 : Cond.methodLink RL 97 yX5_lines ∈ jq_big := jq_in1 452 (by decide +kernel) rfl
theorem hL_101 : Cond.methodLink RL 101 yX5_ways ∈ jq_big := jq_in1 456 (by decide +kernel) rfl
theorem hL_105 : Cond.methodLink RL 105 yX5_broken ∈ jq_big := jq_in1 462 (by decide +kernel) rfl
theorem hL_109 : Cond.methodLink RL 109 yX5_isAnswer ∈ jq_big := jq_in1 468 (by decide +kernel) rfl
theorem hL_124 : Cond.methodLink RL 124 yX5_rounds ∈ jq_big := jq_in1 474 (by decide +kernel) rfl
theorem hL_128 : Cond.methodLink RL 128 yX5_end ∈ jq_big := jq_in1 478 (by decide +kernel) rfl
theorem hL_132 : Cond.methodLink RL 132 yX5_hint ∈ jq_big := jq_in1 482 (by decide +kernel) rfl
theorem hL_136 : Cond.methodLink RL 136 yX5_answers ∈ jq_big := jq_in1 488 (by decide +kernel) rfl
theorem hL_7 : Cond.methodLink RL 7 yX5_lay ∈ jq_big := jq_in1 518 (by decide +kernel) rfl
theorem hL_15 : Cond.methodLink RL 15 yX5_number ∈ jq_big := jq_in1 598 (by decide +kernel) rfl
theorem hX5_65 : Cond.methodLink RX5 65 yX5_requireCell ∈ jq_big := jq_in1 602 (by decide +kernel) rfl
theorem hL_21 : Cond.methodLink RL 21 yX5_mark ∈ jq_big := jq_in1 626 (by decide +kernel) rfl
theorem hX5_75 : Cond.methodLink RX5 75 yX5_requireEdge ∈ jq_big := jq_in1 630 (by decide +kernel) rfl
theorem hL_24 : Cond.methodLink RL 24 yX5_edgeOf ∈ jq_big := jq_in1 642 (by decide +kernel) rfl
theorem hL_27 : Cond.methodLink RL 27 yX5_follows ∈ jq_big := jq_in1 654 (by decide +kernel) rfl
theorem hL_31 : Cond.methodLink RL 31 yX5_roundOf ∈ jq_big := jq_in1 661 (by decide +kernel) rfl
theorem hL_34 : Cond.methodLink RL 34 yX5_ruleOf ∈ jq_big := jq_in1 668 (by decide +kernel) rfl
theorem hL_37 : Cond.methodLink RL 37 yX5_answer ∈ jq_big := jq_in1 675 (by decide +kernel) rfl
theorem hX5_160 : Cond.methodLink RX5 160 yX5_requireAnswer ∈ jq_big := jq_in1 679 (by decide +kernel) rfl
theorem hL_41 : Cond.methodLink RL 41 yX5_isInside ∈ jq_big := jq_in1 691 (by decide +kernel) rfl
theorem hL_45 : Cond.methodLink RL 45 yX5_proved ∈ jq_big := jq_in1 699 (by decide +kernel) rfl
theorem hX5_168 : Cond.methodLink RX5 168 yX5_requireSomeAnswer ∈ jq_big := jq_in1 703 (by decide +kernel) rfl
theorem hL_50 : Cond.methodLink RL 50 yX5_beyondRules ∈ jq_big := jq_in1 734 (by decide +kernel) rfl
theorem hL_54 : Cond.methodLink RL 54 yX5_isNeeded ∈ jq_big := jq_in1 741 (by decide +kernel) rfl
theorem jx_s47 : (47, "width and height are 1 to 4") ∈ jx_str := by decide +kernel
theorem jx_s181 : (181, "no such cell") ∈ jx_str := by decide +kernel
theorem jx_s69 : (69, "a number is 0 to 3, or NONE") ∈ jx_str := by decide +kernel
theorem jx_s183 : (183, "no such edge") ∈ jx_str := by decide +kernel
theorem jx_s78 : (78, "a state is UNKNOWN, LINE or CROSS") ∈ jx_str := by decide +kernel
theorem jx_s110 : (110, "no such side") ∈ jx_str := by decide +kernel
theorem jx_s189 : (189, "there are not so many answers") ∈ jx_str := by decide +kernel
theorem jx_s193 : (193, "there is no answer") ∈ jx_str := by decide +kernel
