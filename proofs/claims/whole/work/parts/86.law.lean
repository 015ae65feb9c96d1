/-! printed by program: THE LAW'S BODY, each branch of its table, then its loop, then its start -/
abbrev mlaw (nm : String) : jq_M := (⟨RL, nm, "([I)Z"⟩, code, 8, ret)
def lw_E (b Ln : Nat) (xs : Nat → Int32) : jq_E := fun s args A => (jx_N s ∧ jx_H A s s.heap) ∧ va_X b Ln xs s s.heap ∧ b < s.heap.size ∧ ¬ A b ∧ args = #[.ref b] ∧ ∀ q, A q → s.heap.size ≤ q
def lw_Y : jq_Y := fun below args s _ => lw_Z below args s
theorem lw_Eok {b Ln : Nat} {xs : Nat → Int32} : jx_Ok (lw_E b Ln xs) := fun _ _ _ h => h.1
abbrev lw_L (ad : Nat → Nat) (b i : Nat) : jq_L := [some (.ref b), some (.ref (ad 0)), some (.ref (ad 21)), some (.ref (ad 39)), some (.int (nI i)), none, none, none]
section LW
variable {l : Launch} {G : jq_G} {M M' : jq_M} {R : Room} {Ex : jq_E} {Y : jq_Y} {pc idx na : Nat} {L : jq_L} {st As rest : List Value} {n : Nat} {ad : Nat → Nat} {mem : Nat → va_E} {X : xs_T} {cells slots b Ln : Nat} {xs : Nat → Int32}
theorem lw_sload {i : Int32} (hd : decode M.2.1 pc = .ok (.iaload, 1)) (hin : vp_in i Ln) (k : jq_J l G M R (lw_E b Ln xs) Y (pc + 1) L (.int (xs i.toNatClampNeg) :: st) n ad mem cells slots) : jq_J l G M R (lw_E b Ln xs) Y pc L (.int i :: .ref b :: st) n ad mem cells slots :=
  fun p e s m args below meth c A hC hE H locs ls hl hP hD hS => va_sld hC.1.1 hC.1.2.1 hE.2.1 hE.2.2.1 hE.2.2.2.1 hS hin hd (k p e s m args below meth c A hC hE H locs ls hl hP hD hS)
theorem lw_slen (hd : decode M.2.1 pc = .ok (.arraylength, 1)) (k : jq_J l G M R (lw_E b Ln xs) Y (pc + 1) L (.int (nI Ln) :: st) n ad mem cells slots) : jq_J l G M R (lw_E b Ln xs) Y pc L (.ref b :: st) n ad mem cells slots :=
  fun p e s m args below meth c A hC hE H locs ls hl hP hD hS => va_slen hC.1.1 hC.1.2.1 hE.2.1 hE.2.2.1 hE.2.2.2.1 hS hd (k p e s m args below meth c A hC hE H locs ls hl hP hD hS)
theorem lw_up {c' s' : Nat} (h1 : cells ≤ c') (h2 : slots ≤ s') (k : jq_J l G M R Ex Y pc L st n ad mem c' s') : jq_J l G M R Ex Y pc L st n ad mem cells slots :=
  fun p e s m args below meth c A hC hE H locs ls hl hP hD hS => W.widen h1 h2 (k p e s m args below meth c A hC hE H locs ls hl hP hD hS)
theorem lw_fin {nm : String} (h1 : cells ≤ 601024) (h2 : slots ≤ 7293034) (hd : decode code pc = .ok (.ireturn, 1)) : jq_J l G (mlaw nm) room_1 (lw_E b Ln xs) lw_Y pc L [.int 1] n ad mem cells slots := by
  intro p e s m args below meth c A hC hE H locs ls hl hP hD hS
  obtain ⟨-, -, -, -, rfl, hA⟩ := hE
  exact va_forget (fun q hq => hA _ (hS.2.2 q hq)) (W.widen h1 h2 (lw_ret hC.1.1 hC.1.2.1 hC.2.2.2.2.2.1 hC.2.2.2.2.2.2.1 hd))
theorem lw_call {nm : String} {hh : List (Nat × Nat × Nat × Nat)} {code : Int32} {Z : xs_T → Prop} (hd : decode (mlaw nm).2.1 pc = .ok (.invokestatic idx, 3)) (F1 : Cond.methodLink RL idx M'.1 ∈ jq_big ∧ Cond.static M'.1 ∈ jq_big ∧ Cond.initialized M'.1.cls ∈ jq_big ∧ jx_cw M' hh ∈ jq_big) (F2 : M'.1.cls ≠ "java/lang/invoke/MethodHandle" ∧ M'.1.cls ≠ "java/lang/invoke/VarHandle" ∧ (parseMethodDescriptor M'.1.desc).map (fun d => d.parameters.length) = some na) (hCt : xx_Cw l G M' hh 24 As 40 ad X (xs_pi (fun r X1 => r = code ∧ Z X1))) (hn : As.length = na) (hst : st = As.reverse) (hML : M'.2.2.1 ≤ 100) (hc1 : cells + 1 ≤ 601024) (hs1 : slots + 6 ≤ 7293034)
    (k : ∀ X1, Z X1 → jq_J l G (mlaw nm) room_1 (lw_E b Ln xs) Y (pc + 3) L [.int code] 40 ad (xs_mem G ad X1) (cells + 1) (slots + 6)) : jq_J l G (mlaw nm) room_1 (lw_E b Ln xs) Y pc L st 40 ad (xs_mem G ad X) cells slots := by
  refine xx_invS lw_Eok hd F1 F2 hCt hn (rest := []) (by rw [List.append_nil]; exact hst) (Nat.le_of_ble_eq_true rfl) ⟨⟨Nat.le_of_ble_eq_true rfl, by show 8 + (M'.2.2.1 + 11) + 40 * 24 ≤ 84000; omega⟩, hc1, hs1⟩ (fun r X1 hr => ?_)
  obtain ⟨v, rfl, rfl, hZ⟩ := hr
  exact k X1 hZ
end LW
theorem lg_cmp_self (x : Int64) : lg_cmp x x = 0 := by
  unfold lg_cmp
  have h : ¬ x > x := by simp [Int64.lt_iff_toInt_lt]
  rw [if_neg h, if_pos rfl]
/-- the law at the end of a branch: the loop goes on -/
def lw_K (l : Launch) (G : jq_G) (nm : String) (b Ln : Nat) (xs : Nat → Int32) (ad : Nat → Nat) (i cells slots : Nat) : Prop := ∀ X, lw_st X → jq_J l G (mlaw nm) room_1 (lw_E b Ln xs) lw_Y 1015 (lw_L ad b i) [] 40 ad (xs_mem G ad X) (cells + 1) (slots + 6)
section LW2
variable {l : Launch} {G : jq_G} {nm : String} {ad : Nat → Nat} {X : xs_T} {w h i cells slots b Ln : Nat} {xs : Nat → Int32} {num : Nat → Int32} {mk : Nat → Nat}
set_option maxHeartbeats 1000000 in
theorem lw_at_lay (hl : l.stackTraces = false) (hI : lw_go w h num mk X) (hi : i + 3 ≤ Ln) (hLn : Ln ≤ 1536) (hc1 : cells + 1 ≤ 601024) (hs1 : slots + 6 ≤ 7293034) (K : lw_K l G nm b Ln xs ad i cells slots) : jq_J l G (mlaw nm) room_1 (lw_E b Ln xs) lw_Y 148 (lw_L ad b i) [] 40 ad (xs_mem G ad X) cells slots := by
  obtain ⟨code, Z, hcl, hrf⟩ := lw_lay (ad := ad) (G := G) hl hI (xs (nI (i + 1)).toNatClampNeg) (xs (nI (i + 2)).toNatClampNeg)
  refine jq_aload_n dL_law_148 rfl rfl ?_
  refine jq_aload_n dL_law_149 rfl rfl ?_
  refine jq_iload dL_law_150 rfl ?_
  refine jq_iconst (v := nI 1) dL_law_152 (by decide) ?_
  refine jq_iaddN dL_law_153 ?_
  refine lw_sload dL_law_154 (vp_inN (show i + 1 < Ln by omega) (by omega)) ?_
  refine jq_aload_n dL_law_155 rfl rfl ?_
  refine jq_iload dL_law_156 rfl ?_
  refine jq_iconst (v := nI 2) dL_law_158 (by decide) ?_
  refine jq_iaddN dL_law_159 ?_
  refine lw_sload dL_law_160 (vp_inN (show i + 2 < Ln by omega) (by omega)) ?_
  refine lw_call (na := 3) dL_law_161 gL_62 ⟨by decide, by decide, by decide +kernel⟩ hcl rfl rfl (Nat.le_of_ble_eq_true rfl) hc1 hs1 (fun X1 hZ => ?_)
  refine jq_istore dL_law_164 (Nat.le_of_ble_eq_true rfl) rfl rfl ?_
  refine jq_aload_n dL_law_166 rfl rfl ?_
  refine jq_aload_n dL_law_167 rfl rfl ?_
  refine jq_iload dL_law_168 rfl ?_
  refine jq_iconst (v := nI 1) dL_law_170 (by decide) ?_
  refine jq_iaddN dL_law_171 ?_
  refine lw_sload dL_law_172 (vp_inN (show i + 1 < Ln by omega) (by omega)) ?_
  refine jq_aload_n dL_law_173 rfl rfl ?_
  refine jq_iload dL_law_174 rfl ?_
  refine jq_iconst (v := nI 2) dL_law_176 (by decide) ?_
  refine jq_iaddN dL_law_177 ?_
  refine lw_sload dL_law_178 (vp_inN (show i + 2 < Ln by omega) (by omega)) ?_
  refine xq_rV dL_law_179 kL_67 (hrf X1 hZ) (by decide) ⟨rfl, rfl⟩ rfl rfl (Nat.le_of_ble_eq_true rfl) ⟨⟨by decide, by decide⟩, hc1, hs1⟩ (fun X2 h2 => ?_)
  obtain ⟨e2, hS⟩ := h2
  refine jq_aload_n dL_law_182 rfl rfl ?_
  refine xq_vI dL_law_183 kL_68 (c_X6_thrown (by decide)) (by decide) ⟨rfl, rfl⟩ rfl rfl (Nat.le_of_ble_eq_true rfl) ⟨⟨by decide, by decide⟩, hc1, hs1⟩ ?_
  refine jq_iload dL_law_186 rfl ?_
  refine jq_icmp_eq (tgt := 193) dL_law_188 (by decide) (fun _ => ?_) (fun z => absurd e2 z)
  exact jq_goto (tgt := 1015) dL_law_193 (by decide) (jq_wk (L' := lw_L ad b i) ⟨rfl, rfl, rfl, rfl, rfl, trivial⟩ (K X2 hS))
set_option maxHeartbeats 1000000 in
theorem lw_at_cells (hl : l.stackTraces = false) (hI : lw_go w h num mk X) (hc1 : cells + 1 ≤ 601024) (hs1 : slots + 6 ≤ 7293034) (K : lw_K l G nm b Ln xs ad i cells slots) : jq_J l G (mlaw nm) room_1 (lw_E b Ln xs) lw_Y 196 (lw_L ad b i) [] 40 ad (xs_mem G ad X) cells slots := by
  obtain ⟨val, Z, hcl, hrf⟩ := lw_cells (l := l) (G := G) (ad := ad) hI
  refine jq_aload_n dL_law_196 rfl rfl ?_
  refine xq_rI dL_law_197 kL_71 hcl (by decide) ⟨rfl, rfl⟩ rfl rfl (Nat.le_of_ble_eq_true rfl) ⟨⟨by decide, by decide⟩, Nat.le_of_succ_le hc1, Nat.le_trans (Nat.le_add_right _ 6) hs1⟩ (fun v1 X1 h1 => ?_)
  obtain ⟨rfl, hZ⟩ := h1
  refine jq_aload_n dL_law_200 rfl rfl ?_
  refine xq_rI dL_law_201 kL_74 (hrf X1 hZ) (by decide) ⟨rfl, rfl⟩ rfl rfl (Nat.le_of_ble_eq_true rfl) ⟨⟨by decide, by decide⟩, Nat.le_of_succ_le hc1, Nat.le_trans (Nat.le_add_right _ 6) hs1⟩ (fun v2 X2 h2 => ?_)
  obtain ⟨e2, hS⟩ := h2
  refine jq_icmp_eq (tgt := 1015) dL_law_204 (by decide) (fun _ => lw_up (Nat.le_add_right _ 1) (Nat.le_add_right _ 6) (K X2 hS)) (fun z => absurd e2.symm z)
set_option maxHeartbeats 1000000 in
theorem lw_at_edges (hl : l.stackTraces = false) (hI : lw_go w h num mk X) (hc1 : cells + 1 ≤ 601024) (hs1 : slots + 6 ≤ 7293034) (K : lw_K l G nm b Ln xs ad i cells slots) : jq_J l G (mlaw nm) room_1 (lw_E b Ln xs) lw_Y 209 (lw_L ad b i) [] 40 ad (xs_mem G ad X) cells slots := by
  obtain ⟨val, Z, hcl, hrf⟩ := lw_edges (l := l) (G := G) (ad := ad) hI
  refine jq_aload_n dL_law_209 rfl rfl ?_
  refine xq_rI dL_law_210 kL_75 hcl (by decide) ⟨rfl, rfl⟩ rfl rfl (Nat.le_of_ble_eq_true rfl) ⟨⟨by decide, by decide⟩, Nat.le_of_succ_le hc1, Nat.le_trans (Nat.le_add_right _ 6) hs1⟩ (fun v1 X1 h1 => ?_)
  obtain ⟨rfl, hZ⟩ := h1
  refine jq_aload_n dL_law_213 rfl rfl ?_
  refine xq_rI dL_law_214 kL_78 (hrf X1 hZ) (by decide) ⟨rfl, rfl⟩ rfl rfl (Nat.le_of_ble_eq_true rfl) ⟨⟨by decide, by decide⟩, Nat.le_of_succ_le hc1, Nat.le_trans (Nat.le_add_right _ 6) hs1⟩ (fun v2 X2 h2 => ?_)
  obtain ⟨e2, hS⟩ := h2
  refine jq_icmp_eq (tgt := 1015) dL_law_217 (by decide) (fun _ => lw_up (Nat.le_add_right _ 1) (Nat.le_add_right _ 6) (K X2 hS)) (fun z => absurd e2.symm z)
set_option maxHeartbeats 1000000 in
theorem lw_at_number (hl : l.stackTraces = false) (hI : lw_go w h num mk X) (hi : i + 3 ≤ Ln) (hLn : Ln ≤ 1536) (hc1 : cells + 1 ≤ 601024) (hs1 : slots + 6 ≤ 7293034) (K : lw_K l G nm b Ln xs ad i cells slots) : jq_J l G (mlaw nm) room_1 (lw_E b Ln xs) lw_Y 222 (lw_L ad b i) [] 40 ad (xs_mem G ad X) cells slots := by
  obtain ⟨code, Z, hcl, hrf⟩ := lw_number (ad := ad) (G := G) hl hI (xs (nI (i + 1)).toNatClampNeg) (xs (nI (i + 2)).toNatClampNeg)
  refine jq_aload_n dL_law_222 rfl rfl ?_
  refine jq_aload_n dL_law_223 rfl rfl ?_
  refine jq_iload dL_law_224 rfl ?_
  refine jq_iconst (v := nI 1) dL_law_226 (by decide) ?_
  refine jq_iaddN dL_law_227 ?_
  refine lw_sload dL_law_228 (vp_inN (show i + 1 < Ln by omega) (by omega)) ?_
  refine jq_aload_n dL_law_229 rfl rfl ?_
  refine jq_iload dL_law_230 rfl ?_
  refine jq_iconst (v := nI 2) dL_law_232 (by decide) ?_
  refine jq_iaddN dL_law_233 ?_
  refine lw_sload dL_law_234 (vp_inN (show i + 2 < Ln by omega) (by omega)) ?_
  refine jq_aload_n dL_law_235 rfl rfl ?_
  refine lw_call (na := 4) dL_law_236 gL_79 ⟨by decide, by decide, by decide +kernel⟩ hcl rfl rfl (Nat.le_of_ble_eq_true rfl) hc1 hs1 (fun X1 hZ => ?_)
  refine jq_istore dL_law_239 (Nat.le_of_ble_eq_true rfl) rfl rfl ?_
  refine jq_aload_n dL_law_241 rfl rfl ?_
  refine jq_aload_n dL_law_242 rfl rfl ?_
  refine jq_iload dL_law_243 rfl ?_
  refine jq_iconst (v := nI 1) dL_law_245 (by decide) ?_
  refine jq_iaddN dL_law_246 ?_
  refine lw_sload dL_law_247 (vp_inN (show i + 1 < Ln by omega) (by omega)) ?_
  refine jq_aload_n dL_law_248 rfl rfl ?_
  refine jq_iload dL_law_249 rfl ?_
  refine jq_iconst (v := nI 2) dL_law_251 (by decide) ?_
  refine jq_iaddN dL_law_252 ?_
  refine lw_sload dL_law_253 (vp_inN (show i + 2 < Ln by omega) (by omega)) ?_
  refine xq_rI dL_law_254 kL_82 (hrf X1 hZ) (by decide) ⟨rfl, rfl⟩ rfl rfl (Nat.le_of_ble_eq_true rfl) ⟨⟨by decide, by decide⟩, hc1, hs1⟩ (fun v2 X2 h2 => ?_)
  obtain ⟨e2, hS, e3⟩ := h2
  refine jq_istore dL_law_257 (Nat.le_of_ble_eq_true rfl) rfl rfl ?_
  refine jq_aload_n dL_law_259 rfl rfl ?_
  refine xq_vI dL_law_260 kL_68 (c_X6_thrown (by decide)) (by decide) ⟨rfl, rfl⟩ rfl rfl (Nat.le_of_ble_eq_true rfl) ⟨⟨by decide, by decide⟩, hc1, hs1⟩ ?_
  refine jq_iload dL_law_263 rfl ?_
  refine jq_icmp_eq (tgt := 270) dL_law_265 (by decide) (fun _ => ?_) (fun z => absurd e2 z)
  have hj : jq_J l G (mlaw nm) room_1 (lw_E b Ln xs) lw_Y 287 [some (.ref b), some (.ref (ad 0)), some (.ref (ad 21)), some (.ref (ad 39)), some (.int (nI i)), some (.int code), some (.int v2), none] [] 40 ad (xs_mem G ad X2) (cells + 1) (slots + 6) := jq_goto (tgt := 1015) dL_law_287 (by decide) (jq_wk (L' := lw_L ad b i) ⟨rfl, rfl, rfl, rfl, rfl, trivial⟩ (K X2 hS))
  refine jq_iload dL_law_270 rfl ?_
  refine jq_if_ne (tgt := 287) dL_law_272 (by decide) (fun _ => hj) (fun z => ?_)
  have e4 := e3 z
  refine jq_aload_n dL_law_275 rfl rfl ?_
  refine jq_iconst (v := nI 0) dL_law_276 (by decide) ?_
  refine xq_laload (q := 39) dL_law_277 (by decide) rfl (vp_inN (by decide) (by decide)) e4 ?_
  refine jq_iload dL_law_278 rfl ?_
  refine jq_i2l dL_law_280 rfl ?_
  refine jq_lcmp dL_law_281 ?_
  exact jq_if_eq (tgt := 287) dL_law_282 (by decide) (fun _ => hj) (fun z => absurd (lg_cmp_self _) z)
set_option maxHeartbeats 1000000 in
theorem lw_at_mark (hl : l.stackTraces = false) (hI : lw_go w h num mk X) (hi : i + 3 ≤ Ln) (hLn : Ln ≤ 1536) (hc1 : cells + 1 ≤ 601024) (hs1 : slots + 6 ≤ 7293034) (K : lw_K l G nm b Ln xs ad i cells slots) : jq_J l G (mlaw nm) room_1 (lw_E b Ln xs) lw_Y 290 (lw_L ad b i) [] 40 ad (xs_mem G ad X) cells slots := by
  obtain ⟨code, Z, hcl, hrf⟩ := lw_mark (ad := ad) (G := G) hl hI (xs (nI (i + 1)).toNatClampNeg) (xs (nI (i + 2)).toNatClampNeg)
  refine jq_aload_n dL_law_290 rfl rfl ?_
  refine jq_aload_n dL_law_291 rfl rfl ?_
  refine jq_iload dL_law_292 rfl ?_
  refine jq_iconst (v := nI 1) dL_law_294 (by decide) ?_
  refine jq_iaddN dL_law_295 ?_
  refine lw_sload dL_law_296 (vp_inN (show i + 1 < Ln by omega) (by omega)) ?_
  refine jq_aload_n dL_law_297 rfl rfl ?_
  refine jq_iload dL_law_298 rfl ?_
  refine jq_iconst (v := nI 2) dL_law_300 (by decide) ?_
  refine jq_iaddN dL_law_301 ?_
  refine lw_sload dL_law_302 (vp_inN (show i + 2 < Ln by omega) (by omega)) ?_
  refine jq_aload_n dL_law_303 rfl rfl ?_
  refine lw_call (na := 4) dL_law_304 gL_83 ⟨by decide, by decide, by decide +kernel⟩ hcl rfl rfl (Nat.le_of_ble_eq_true rfl) hc1 hs1 (fun X1 hZ => ?_)
  refine jq_istore dL_law_307 (Nat.le_of_ble_eq_true rfl) rfl rfl ?_
  refine jq_aload_n dL_law_309 rfl rfl ?_
  refine jq_aload_n dL_law_310 rfl rfl ?_
  refine jq_iload dL_law_311 rfl ?_
  refine jq_iconst (v := nI 1) dL_law_313 (by decide) ?_
  refine jq_iaddN dL_law_314 ?_
  refine lw_sload dL_law_315 (vp_inN (show i + 1 < Ln by omega) (by omega)) ?_
  refine jq_aload_n dL_law_316 rfl rfl ?_
  refine jq_iload dL_law_317 rfl ?_
  refine jq_iconst (v := nI 2) dL_law_319 (by decide) ?_
  refine jq_iaddN dL_law_320 ?_
  refine lw_sload dL_law_321 (vp_inN (show i + 2 < Ln by omega) (by omega)) ?_
  refine xq_rI dL_law_322 kL_85 (hrf X1 hZ) (by decide) ⟨rfl, rfl⟩ rfl rfl (Nat.le_of_ble_eq_true rfl) ⟨⟨by decide, by decide⟩, hc1, hs1⟩ (fun v2 X2 h2 => ?_)
  obtain ⟨e2, hS, e3⟩ := h2
  refine jq_istore dL_law_325 (Nat.le_of_ble_eq_true rfl) rfl rfl ?_
  refine jq_aload_n dL_law_327 rfl rfl ?_
  refine xq_vI dL_law_328 kL_68 (c_X6_thrown (by decide)) (by decide) ⟨rfl, rfl⟩ rfl rfl (Nat.le_of_ble_eq_true rfl) ⟨⟨by decide, by decide⟩, hc1, hs1⟩ ?_
  refine jq_iload dL_law_331 rfl ?_
  refine jq_icmp_eq (tgt := 338) dL_law_333 (by decide) (fun _ => ?_) (fun z => absurd e2 z)
  have hj : jq_J l G (mlaw nm) room_1 (lw_E b Ln xs) lw_Y 355 [some (.ref b), some (.ref (ad 0)), some (.ref (ad 21)), some (.ref (ad 39)), some (.int (nI i)), some (.int code), some (.int v2), none] [] 40 ad (xs_mem G ad X2) (cells + 1) (slots + 6) := jq_goto (tgt := 1015) dL_law_355 (by decide) (jq_wk (L' := lw_L ad b i) ⟨rfl, rfl, rfl, rfl, rfl, trivial⟩ (K X2 hS))
  refine jq_iload dL_law_338 rfl ?_
  refine jq_if_ne (tgt := 355) dL_law_340 (by decide) (fun _ => hj) (fun z => ?_)
  have e4 := e3 z
  refine jq_aload_n dL_law_343 rfl rfl ?_
  refine jq_iconst (v := nI 0) dL_law_344 (by decide) ?_
  refine xq_laload (q := 39) dL_law_345 (by decide) rfl (vp_inN (by decide) (by decide)) e4 ?_
  refine jq_iload dL_law_346 rfl ?_
  refine jq_i2l dL_law_348 rfl ?_
  refine jq_lcmp dL_law_349 ?_
  exact jq_if_eq (tgt := 355) dL_law_350 (by decide) (fun _ => hj) (fun z => absurd (lg_cmp_self _) z)
set_option maxHeartbeats 1000000 in
theorem lw_at_wipe (hl : l.stackTraces = false) (hI : lw_go w h num mk X) (hc1 : cells + 1 ≤ 601024) (hs1 : slots + 6 ≤ 7293034) (K : lw_K l G nm b Ln xs ad i cells slots) : jq_J l G (mlaw nm) room_1 (lw_E b Ln xs) lw_Y 358 (lw_L ad b i) [] 40 ad (xs_mem G ad X) cells slots := by
  obtain ⟨Z, hcl, hrf⟩ := lw_wipe (l := l) (G := G) (ad := ad) hI
  refine jq_aload_n dL_law_358 rfl rfl ?_
  refine xq_rV dL_law_359 kL_86 hcl (by decide) ⟨rfl, rfl⟩ rfl rfl (Nat.le_of_ble_eq_true rfl) ⟨⟨by decide, by decide⟩, Nat.le_of_succ_le hc1, Nat.le_trans (Nat.le_add_right _ 6) hs1⟩ (fun X1 hZ => ?_)
  refine jq_aload_n dL_law_362 rfl rfl ?_
  refine xq_rV dL_law_363 kL_89 (hrf X1 hZ) (by decide) ⟨rfl, rfl⟩ rfl rfl (Nat.le_of_ble_eq_true rfl) ⟨⟨by decide, by decide⟩, Nat.le_of_succ_le hc1, Nat.le_trans (Nat.le_add_right _ 6) hs1⟩ (fun X2 hS => ?_)
  exact jq_goto (tgt := 1015) dL_law_366 (by decide) (lw_up (Nat.le_add_right _ 1) (Nat.le_add_right _ 6) (K X2 hS))
set_option maxHeartbeats 1000000 in
theorem lw_at_markAll (hl : l.stackTraces = false) (hI : lw_go w h num mk X) (hc1 : cells + 1 ≤ 601024) (hs1 : slots + 6 ≤ 7293034) (K : lw_K l G nm b Ln xs ad i cells slots) : jq_J l G (mlaw nm) room_1 (lw_E b Ln xs) lw_Y 369 (lw_L ad b i) [] 40 ad (xs_mem G ad X) cells slots := by
  obtain ⟨val, Z, hcl, hrf⟩ := lw_markAll (l := l) (G := G) (ad := ad) hI
  refine jq_aload_n dL_law_369 rfl rfl ?_
  refine xq_rI dL_law_370 kL_90 hcl (by decide) ⟨rfl, rfl⟩ rfl rfl (Nat.le_of_ble_eq_true rfl) ⟨⟨by decide, by decide⟩, Nat.le_of_succ_le hc1, Nat.le_trans (Nat.le_add_right _ 6) hs1⟩ (fun v1 X1 h1 => ?_)
  obtain ⟨rfl, hZ⟩ := h1
  refine jq_aload_n dL_law_373 rfl rfl ?_
  refine xq_rI dL_law_374 kL_93 (hrf X1 hZ) (by decide) ⟨rfl, rfl⟩ rfl rfl (Nat.le_of_ble_eq_true rfl) ⟨⟨by decide, by decide⟩, Nat.le_of_succ_le hc1, Nat.le_trans (Nat.le_add_right _ 6) hs1⟩ (fun v2 X2 h2 => ?_)
  obtain ⟨e2, hS⟩ := h2
  refine jq_icmp_eq (tgt := 1015) dL_law_377 (by decide) (fun _ => lw_up (Nat.le_add_right _ 1) (Nat.le_add_right _ 6) (K X2 hS)) (fun z => absurd e2.symm z)
set_option maxHeartbeats 1000000 in
theorem lw_at_edgeOf (hl : l.stackTraces = false) (hI : lw_go w h num mk X) (hi : i + 3 ≤ Ln) (hLn : Ln ≤ 1536) (hc1 : cells + 1 ≤ 601024) (hs1 : slots + 6 ≤ 7293034) (K : lw_K l G nm b Ln xs ad i cells slots) : jq_J l G (mlaw nm) room_1 (lw_E b Ln xs) lw_Y 382 (lw_L ad b i) [] 40 ad (xs_mem G ad X) cells slots := by
  obtain ⟨code, Z, hcl, hrf⟩ := lw_edgeOf (ad := ad) (G := G) hl hI (xs (nI (i + 1)).toNatClampNeg) (xs (nI (i + 2)).toNatClampNeg)
  refine jq_aload_n dL_law_382 rfl rfl ?_
  refine jq_aload_n dL_law_383 rfl rfl ?_
  refine jq_iload dL_law_384 rfl ?_
  refine jq_iconst (v := nI 1) dL_law_386 (by decide) ?_
  refine jq_iaddN dL_law_387 ?_
  refine lw_sload dL_law_388 (vp_inN (show i + 1 < Ln by omega) (by omega)) ?_
  refine jq_aload_n dL_law_389 rfl rfl ?_
  refine jq_iload dL_law_390 rfl ?_
  refine jq_iconst (v := nI 2) dL_law_392 (by decide) ?_
  refine jq_iaddN dL_law_393 ?_
  refine lw_sload dL_law_394 (vp_inN (show i + 2 < Ln by omega) (by omega)) ?_
  refine jq_aload_n dL_law_395 rfl rfl ?_
  refine lw_call (na := 4) dL_law_396 gL_94 ⟨by decide, by decide, by decide +kernel⟩ hcl rfl rfl (Nat.le_of_ble_eq_true rfl) hc1 hs1 (fun X1 hZ => ?_)
  refine jq_istore dL_law_399 (Nat.le_of_ble_eq_true rfl) rfl rfl ?_
  refine jq_aload_n dL_law_401 rfl rfl ?_
  refine jq_aload_n dL_law_402 rfl rfl ?_
  refine jq_iload dL_law_403 rfl ?_
  refine jq_iconst (v := nI 1) dL_law_405 (by decide) ?_
  refine jq_iaddN dL_law_406 ?_
  refine lw_sload dL_law_407 (vp_inN (show i + 1 < Ln by omega) (by omega)) ?_
  refine jq_aload_n dL_law_408 rfl rfl ?_
  refine jq_iload dL_law_409 rfl ?_
  refine jq_iconst (v := nI 2) dL_law_411 (by decide) ?_
  refine jq_iaddN dL_law_412 ?_
  refine lw_sload dL_law_413 (vp_inN (show i + 2 < Ln by omega) (by omega)) ?_
  refine xq_rI dL_law_414 kL_96 (hrf X1 hZ) (by decide) ⟨rfl, rfl⟩ rfl rfl (Nat.le_of_ble_eq_true rfl) ⟨⟨by decide, by decide⟩, hc1, hs1⟩ (fun v2 X2 h2 => ?_)
  obtain ⟨e2, hS, e3⟩ := h2
  refine jq_istore dL_law_417 (Nat.le_of_ble_eq_true rfl) rfl rfl ?_
  refine jq_aload_n dL_law_419 rfl rfl ?_
  refine xq_vI dL_law_420 kL_68 (c_X6_thrown (by decide)) (by decide) ⟨rfl, rfl⟩ rfl rfl (Nat.le_of_ble_eq_true rfl) ⟨⟨by decide, by decide⟩, hc1, hs1⟩ ?_
  refine jq_iload dL_law_423 rfl ?_
  refine jq_icmp_eq (tgt := 430) dL_law_425 (by decide) (fun _ => ?_) (fun z => absurd e2 z)
  have hj : jq_J l G (mlaw nm) room_1 (lw_E b Ln xs) lw_Y 447 [some (.ref b), some (.ref (ad 0)), some (.ref (ad 21)), some (.ref (ad 39)), some (.int (nI i)), some (.int code), some (.int v2), none] [] 40 ad (xs_mem G ad X2) (cells + 1) (slots + 6) := jq_goto (tgt := 1015) dL_law_447 (by decide) (jq_wk (L' := lw_L ad b i) ⟨rfl, rfl, rfl, rfl, rfl, trivial⟩ (K X2 hS))
  refine jq_iload dL_law_430 rfl ?_
  refine jq_if_ne (tgt := 447) dL_law_432 (by decide) (fun _ => hj) (fun z => ?_)
  have e4 := e3 z
  refine jq_aload_n dL_law_435 rfl rfl ?_
  refine jq_iconst (v := nI 0) dL_law_436 (by decide) ?_
  refine xq_laload (q := 39) dL_law_437 (by decide) rfl (vp_inN (by decide) (by decide)) e4 ?_
  refine jq_iload dL_law_438 rfl ?_
  refine jq_i2l dL_law_440 rfl ?_
  refine jq_lcmp dL_law_441 ?_
  exact jq_if_eq (tgt := 447) dL_law_442 (by decide) (fun _ => hj) (fun z => absurd (lg_cmp_self _) z)
set_option maxHeartbeats 1000000 in
theorem lw_at_lines (hl : l.stackTraces = false) (hI : lw_go w h num mk X) (hc1 : cells + 1 ≤ 601024) (hs1 : slots + 6 ≤ 7293034) (K : lw_K l G nm b Ln xs ad i cells slots) : jq_J l G (mlaw nm) room_1 (lw_E b Ln xs) lw_Y 450 (lw_L ad b i) [] 40 ad (xs_mem G ad X) cells slots := by
  obtain ⟨val, Z, hcl, hrf⟩ := lw_lines (l := l) (G := G) (ad := ad) hI
  refine jq_aload_n dL_law_450 rfl rfl ?_
  refine xq_rI dL_law_451 kL_97 hcl (by decide) ⟨rfl, rfl⟩ rfl rfl (Nat.le_of_ble_eq_true rfl) ⟨⟨by decide, by decide⟩, Nat.le_of_succ_le hc1, Nat.le_trans (Nat.le_add_right _ 6) hs1⟩ (fun v1 X1 h1 => ?_)
  obtain ⟨rfl, hZ⟩ := h1
  refine jq_aload_n dL_law_454 rfl rfl ?_
  refine xq_rI dL_law_455 kL_100 (hrf X1 hZ) (by decide) ⟨rfl, rfl⟩ rfl rfl (Nat.le_of_ble_eq_true rfl) ⟨⟨by decide, by decide⟩, Nat.le_of_succ_le hc1, Nat.le_trans (Nat.le_add_right _ 6) hs1⟩ (fun v2 X2 h2 => ?_)
  obtain ⟨e2, hS⟩ := h2
  refine jq_icmp_eq (tgt := 1015) dL_law_458 (by decide) (fun _ => lw_up (Nat.le_add_right _ 1) (Nat.le_add_right _ 6) (K X2 hS)) (fun z => absurd e2.symm z)
set_option maxHeartbeats 1000000 in
theorem lw_at_ways (hl : l.stackTraces = false) (hI : lw_go w h num mk X) (hc1 : cells + 1 ≤ 601024) (hs1 : slots + 6 ≤ 7293034) (K : lw_K l G nm b Ln xs ad i cells slots) : jq_J l G (mlaw nm) room_1 (lw_E b Ln xs) lw_Y 463 (lw_L ad b i) [] 40 ad (xs_mem G ad X) cells slots := by
  obtain ⟨val, Z, hcl, hrf⟩ := lw_ways (l := l) (G := G) (ad := ad) hI
  refine jq_aload_n dL_law_463 rfl rfl ?_
  refine xq_rI dL_law_464 kL_101 hcl (by decide) ⟨rfl, rfl⟩ rfl rfl (Nat.le_of_ble_eq_true rfl) ⟨⟨by decide, by decide⟩, Nat.le_of_succ_le hc1, Nat.le_trans (Nat.le_add_right _ 6) hs1⟩ (fun v1 X1 h1 => ?_)
  obtain ⟨rfl, hZ⟩ := h1
  refine jq_aload_n dL_law_467 rfl rfl ?_
  refine xq_rI dL_law_468 kL_104 (hrf X1 hZ) (by decide) ⟨rfl, rfl⟩ rfl rfl (Nat.le_of_ble_eq_true rfl) ⟨⟨by decide, by decide⟩, Nat.le_of_succ_le hc1, Nat.le_trans (Nat.le_add_right _ 6) hs1⟩ (fun v2 X2 h2 => ?_)
  obtain ⟨e2, hS⟩ := h2
  refine jq_icmp_eq (tgt := 1015) dL_law_471 (by decide) (fun _ => lw_up (Nat.le_add_right _ 1) (Nat.le_add_right _ 6) (K X2 hS)) (fun z => absurd e2.symm z)
set_option maxHeartbeats 1000000 in
theorem lw_at_broken (hl : l.stackTraces = false) (hI : lw_go w h num mk X) (hc1 : cells + 1 ≤ 601024) (hs1 : slots + 6 ≤ 7293034) (K : lw_K l G nm b Ln xs ad i cells slots) : jq_J l G (mlaw nm) room_1 (lw_E b Ln xs) lw_Y 476 (lw_L ad b i) [] 40 ad (xs_mem G ad X) cells slots := by
  obtain ⟨val, Z, hcl, hrf⟩ := lw_broken (l := l) (G := G) (ad := ad) hI
  refine jq_aload_n dL_law_476 rfl rfl ?_
  refine xq_rI dL_law_477 kL_105 hcl (by decide) ⟨rfl, rfl⟩ rfl rfl (Nat.le_of_ble_eq_true rfl) ⟨⟨by decide, by decide⟩, Nat.le_of_succ_le hc1, Nat.le_trans (Nat.le_add_right _ 6) hs1⟩ (fun v1 X1 h1 => ?_)
  obtain ⟨rfl, hZ⟩ := h1
  refine jq_aload_n dL_law_480 rfl rfl ?_
  refine xq_rI dL_law_481 kL_108 (hrf X1 hZ) (by decide) ⟨rfl, rfl⟩ rfl rfl (Nat.le_of_ble_eq_true rfl) ⟨⟨by decide, by decide⟩, Nat.le_of_succ_le hc1, Nat.le_trans (Nat.le_add_right _ 6) hs1⟩ (fun v2 X2 h2 => ?_)
  obtain ⟨e2, hS⟩ := h2
  refine jq_icmp_eq (tgt := 1015) dL_law_484 (by decide) (fun _ => lw_up (Nat.le_add_right _ 1) (Nat.le_add_right _ 6) (K X2 hS)) (fun z => absurd e2.symm z)
set_option maxHeartbeats 1000000 in
theorem lw_at_isAnswer (hl : l.stackTraces = false) (hI : lw_go w h num mk X) (hc1 : cells + 1 ≤ 601024) (hs1 : slots + 6 ≤ 7293034) (K : lw_K l G nm b Ln xs ad i cells slots) : jq_J l G (mlaw nm) room_1 (lw_E b Ln xs) lw_Y 489 (lw_L ad b i) [] 40 ad (xs_mem G ad X) cells slots := by
  obtain ⟨val, Z, hcl, hrf⟩ := lw_isAnswer (l := l) (G := G) (ad := ad) hI
  refine jq_aload_n dL_law_489 rfl rfl ?_
  refine xq_rI dL_law_490 kL_109 hcl (by decide) ⟨rfl, rfl⟩ rfl rfl (Nat.le_of_ble_eq_true rfl) ⟨⟨by decide, by decide⟩, Nat.le_of_succ_le hc1, Nat.le_trans (Nat.le_add_right _ 6) hs1⟩ (fun v1 X1 h1 => ?_)
  obtain ⟨rfl, hZ⟩ := h1
  refine jq_aload_n dL_law_493 rfl rfl ?_
  refine xq_rI dL_law_494 kL_113 (hrf X1 hZ) (by decide) ⟨rfl, rfl⟩ rfl rfl (Nat.le_of_ble_eq_true rfl) ⟨⟨by decide, by decide⟩, Nat.le_of_succ_le hc1, Nat.le_trans (Nat.le_add_right _ 6) hs1⟩ (fun v2 X2 h2 => ?_)
  obtain ⟨e2, hS⟩ := h2
  refine jq_icmp_eq (tgt := 1015) dL_law_497 (by decide) (fun _ => lw_up (Nat.le_add_right _ 1) (Nat.le_add_right _ 6) (K X2 hS)) (fun z => absurd e2.symm z)
set_option maxHeartbeats 1000000 in
theorem lw_at_follows (hl : l.stackTraces = false) (hI : lw_go w h num mk X) (hi : i + 3 ≤ Ln) (hLn : Ln ≤ 1536) (hc1 : cells + 1 ≤ 601024) (hs1 : slots + 6 ≤ 7293034) (K : lw_K l G nm b Ln xs ad i cells slots) : jq_J l G (mlaw nm) room_1 (lw_E b Ln xs) lw_Y 502 (lw_L ad b i) [] 40 ad (xs_mem G ad X) cells slots := by
  obtain ⟨code, Z, hcl, hrf⟩ := lw_follows (ad := ad) (G := G) hl hI (xs (nI (i + 1)).toNatClampNeg)
  refine jq_aload_n dL_law_502 rfl rfl ?_
  refine jq_aload_n dL_law_503 rfl rfl ?_
  refine jq_iload dL_law_504 rfl ?_
  refine jq_iconst (v := nI 1) dL_law_506 (by decide) ?_
  refine jq_iaddN dL_law_507 ?_
  refine lw_sload dL_law_508 (vp_inN (show i + 1 < Ln by omega) (by omega)) ?_
  refine jq_aload_n dL_law_509 rfl rfl ?_
  refine lw_call (na := 3) dL_law_510 gL_114 ⟨by decide, by decide, by decide +kernel⟩ hcl rfl rfl (Nat.le_of_ble_eq_true rfl) hc1 hs1 (fun X1 hZ => ?_)
  refine jq_istore dL_law_513 (Nat.le_of_ble_eq_true rfl) rfl rfl ?_
  refine jq_aload_n dL_law_515 rfl rfl ?_
  refine jq_aload_n dL_law_516 rfl rfl ?_
  refine jq_iload dL_law_517 rfl ?_
  refine jq_iconst (v := nI 1) dL_law_519 (by decide) ?_
  refine jq_iaddN dL_law_520 ?_
  refine lw_sload dL_law_521 (vp_inN (show i + 1 < Ln by omega) (by omega)) ?_
  refine xq_rI dL_law_522 kL_117 (hrf X1 hZ) (by decide) ⟨rfl, rfl⟩ rfl rfl (Nat.le_of_ble_eq_true rfl) ⟨⟨by decide, by decide⟩, hc1, hs1⟩ (fun v2 X2 h2 => ?_)
  obtain ⟨e2, hS, e3⟩ := h2
  refine jq_istore dL_law_525 (Nat.le_of_ble_eq_true rfl) rfl rfl ?_
  refine jq_aload_n dL_law_527 rfl rfl ?_
  refine xq_vI dL_law_528 kL_68 (c_X6_thrown (by decide)) (by decide) ⟨rfl, rfl⟩ rfl rfl (Nat.le_of_ble_eq_true rfl) ⟨⟨by decide, by decide⟩, hc1, hs1⟩ ?_
  refine jq_iload dL_law_531 rfl ?_
  refine jq_icmp_eq (tgt := 538) dL_law_533 (by decide) (fun _ => ?_) (fun z => absurd e2 z)
  have hj : jq_J l G (mlaw nm) room_1 (lw_E b Ln xs) lw_Y 555 [some (.ref b), some (.ref (ad 0)), some (.ref (ad 21)), some (.ref (ad 39)), some (.int (nI i)), some (.int code), some (.int v2), none] [] 40 ad (xs_mem G ad X2) (cells + 1) (slots + 6) := jq_goto (tgt := 1015) dL_law_555 (by decide) (jq_wk (L' := lw_L ad b i) ⟨rfl, rfl, rfl, rfl, rfl, trivial⟩ (K X2 hS))
  refine jq_iload dL_law_538 rfl ?_
  refine jq_if_ne (tgt := 555) dL_law_540 (by decide) (fun _ => hj) (fun z => ?_)
  have e4 := e3 z
  refine jq_aload_n dL_law_543 rfl rfl ?_
  refine jq_iconst (v := nI 0) dL_law_544 (by decide) ?_
  refine xq_laload (q := 39) dL_law_545 (by decide) rfl (vp_inN (by decide) (by decide)) e4 ?_
  refine jq_iload dL_law_546 rfl ?_
  refine jq_i2l dL_law_548 rfl ?_
  refine jq_lcmp dL_law_549 ?_
  exact jq_if_eq (tgt := 555) dL_law_550 (by decide) (fun _ => hj) (fun z => absurd (lg_cmp_self _) z)
set_option maxHeartbeats 1000000 in
theorem lw_at_roundOf (hl : l.stackTraces = false) (hI : lw_go w h num mk X) (hi : i + 3 ≤ Ln) (hLn : Ln ≤ 1536) (hc1 : cells + 1 ≤ 601024) (hs1 : slots + 6 ≤ 7293034) (K : lw_K l G nm b Ln xs ad i cells slots) : jq_J l G (mlaw nm) room_1 (lw_E b Ln xs) lw_Y 558 (lw_L ad b i) [] 40 ad (xs_mem G ad X) cells slots := by
  obtain ⟨code, Z, hcl, hrf⟩ := lw_roundOf (ad := ad) (G := G) hl hI (xs (nI (i + 1)).toNatClampNeg)
  refine jq_aload_n dL_law_558 rfl rfl ?_
  refine jq_aload_n dL_law_559 rfl rfl ?_
  refine jq_iload dL_law_560 rfl ?_
  refine jq_iconst (v := nI 1) dL_law_562 (by decide) ?_
  refine jq_iaddN dL_law_563 ?_
  refine lw_sload dL_law_564 (vp_inN (show i + 1 < Ln by omega) (by omega)) ?_
  refine jq_aload_n dL_law_565 rfl rfl ?_
  refine lw_call (na := 3) dL_law_566 gL_118 ⟨by decide, by decide, by decide +kernel⟩ hcl rfl rfl (Nat.le_of_ble_eq_true rfl) hc1 hs1 (fun X1 hZ => ?_)
  refine jq_istore dL_law_569 (Nat.le_of_ble_eq_true rfl) rfl rfl ?_
  refine jq_aload_n dL_law_571 rfl rfl ?_
  refine jq_aload_n dL_law_572 rfl rfl ?_
  refine jq_iload dL_law_573 rfl ?_
  refine jq_iconst (v := nI 1) dL_law_575 (by decide) ?_
  refine jq_iaddN dL_law_576 ?_
  refine lw_sload dL_law_577 (vp_inN (show i + 1 < Ln by omega) (by omega)) ?_
  refine xq_rI dL_law_578 kL_120 (hrf X1 hZ) (by decide) ⟨rfl, rfl⟩ rfl rfl (Nat.le_of_ble_eq_true rfl) ⟨⟨by decide, by decide⟩, hc1, hs1⟩ (fun v2 X2 h2 => ?_)
  obtain ⟨e2, hS, e3⟩ := h2
  refine jq_istore dL_law_581 (Nat.le_of_ble_eq_true rfl) rfl rfl ?_
  refine jq_aload_n dL_law_583 rfl rfl ?_
  refine xq_vI dL_law_584 kL_68 (c_X6_thrown (by decide)) (by decide) ⟨rfl, rfl⟩ rfl rfl (Nat.le_of_ble_eq_true rfl) ⟨⟨by decide, by decide⟩, hc1, hs1⟩ ?_
  refine jq_iload dL_law_587 rfl ?_
  refine jq_icmp_eq (tgt := 594) dL_law_589 (by decide) (fun _ => ?_) (fun z => absurd e2 z)
  have hj : jq_J l G (mlaw nm) room_1 (lw_E b Ln xs) lw_Y 611 [some (.ref b), some (.ref (ad 0)), some (.ref (ad 21)), some (.ref (ad 39)), some (.int (nI i)), some (.int code), some (.int v2), none] [] 40 ad (xs_mem G ad X2) (cells + 1) (slots + 6) := jq_goto (tgt := 1015) dL_law_611 (by decide) (jq_wk (L' := lw_L ad b i) ⟨rfl, rfl, rfl, rfl, rfl, trivial⟩ (K X2 hS))
  refine jq_iload dL_law_594 rfl ?_
  refine jq_if_ne (tgt := 611) dL_law_596 (by decide) (fun _ => hj) (fun z => ?_)
  have e4 := e3 z
  refine jq_aload_n dL_law_599 rfl rfl ?_
  refine jq_iconst (v := nI 0) dL_law_600 (by decide) ?_
  refine xq_laload (q := 39) dL_law_601 (by decide) rfl (vp_inN (by decide) (by decide)) e4 ?_
  refine jq_iload dL_law_602 rfl ?_
  refine jq_i2l dL_law_604 rfl ?_
  refine jq_lcmp dL_law_605 ?_
  exact jq_if_eq (tgt := 611) dL_law_606 (by decide) (fun _ => hj) (fun z => absurd (lg_cmp_self _) z)
set_option maxHeartbeats 1000000 in
theorem lw_at_ruleOf (hl : l.stackTraces = false) (hI : lw_go w h num mk X) (hi : i + 3 ≤ Ln) (hLn : Ln ≤ 1536) (hc1 : cells + 1 ≤ 601024) (hs1 : slots + 6 ≤ 7293034) (K : lw_K l G nm b Ln xs ad i cells slots) : jq_J l G (mlaw nm) room_1 (lw_E b Ln xs) lw_Y 614 (lw_L ad b i) [] 40 ad (xs_mem G ad X) cells slots := by
  obtain ⟨code, Z, hcl, hrf⟩ := lw_ruleOf (ad := ad) (G := G) hl hI (xs (nI (i + 1)).toNatClampNeg)
  refine jq_aload_n dL_law_614 rfl rfl ?_
  refine jq_aload_n dL_law_615 rfl rfl ?_
  refine jq_iload dL_law_616 rfl ?_
  refine jq_iconst (v := nI 1) dL_law_618 (by decide) ?_
  refine jq_iaddN dL_law_619 ?_
  refine lw_sload dL_law_620 (vp_inN (show i + 1 < Ln by omega) (by omega)) ?_
  refine jq_aload_n dL_law_621 rfl rfl ?_
  refine lw_call (na := 3) dL_law_622 gL_121 ⟨by decide, by decide, by decide +kernel⟩ hcl rfl rfl (Nat.le_of_ble_eq_true rfl) hc1 hs1 (fun X1 hZ => ?_)
  refine jq_istore dL_law_625 (Nat.le_of_ble_eq_true rfl) rfl rfl ?_
  refine jq_aload_n dL_law_627 rfl rfl ?_
  refine jq_aload_n dL_law_628 rfl rfl ?_
  refine jq_iload dL_law_629 rfl ?_
  refine jq_iconst (v := nI 1) dL_law_631 (by decide) ?_
  refine jq_iaddN dL_law_632 ?_
  refine lw_sload dL_law_633 (vp_inN (show i + 1 < Ln by omega) (by omega)) ?_
  refine xq_rI dL_law_634 kL_123 (hrf X1 hZ) (by decide) ⟨rfl, rfl⟩ rfl rfl (Nat.le_of_ble_eq_true rfl) ⟨⟨by decide, by decide⟩, hc1, hs1⟩ (fun v2 X2 h2 => ?_)
  obtain ⟨e2, hS, e3⟩ := h2
  refine jq_istore dL_law_637 (Nat.le_of_ble_eq_true rfl) rfl rfl ?_
  refine jq_aload_n dL_law_639 rfl rfl ?_
  refine xq_vI dL_law_640 kL_68 (c_X6_thrown (by decide)) (by decide) ⟨rfl, rfl⟩ rfl rfl (Nat.le_of_ble_eq_true rfl) ⟨⟨by decide, by decide⟩, hc1, hs1⟩ ?_
  refine jq_iload dL_law_643 rfl ?_
  refine jq_icmp_eq (tgt := 650) dL_law_645 (by decide) (fun _ => ?_) (fun z => absurd e2 z)
  have hj : jq_J l G (mlaw nm) room_1 (lw_E b Ln xs) lw_Y 667 [some (.ref b), some (.ref (ad 0)), some (.ref (ad 21)), some (.ref (ad 39)), some (.int (nI i)), some (.int code), some (.int v2), none] [] 40 ad (xs_mem G ad X2) (cells + 1) (slots + 6) := jq_goto (tgt := 1015) dL_law_667 (by decide) (jq_wk (L' := lw_L ad b i) ⟨rfl, rfl, rfl, rfl, rfl, trivial⟩ (K X2 hS))
  refine jq_iload dL_law_650 rfl ?_
  refine jq_if_ne (tgt := 667) dL_law_652 (by decide) (fun _ => hj) (fun z => ?_)
  have e4 := e3 z
  refine jq_aload_n dL_law_655 rfl rfl ?_
  refine jq_iconst (v := nI 0) dL_law_656 (by decide) ?_
  refine xq_laload (q := 39) dL_law_657 (by decide) rfl (vp_inN (by decide) (by decide)) e4 ?_
  refine jq_iload dL_law_658 rfl ?_
  refine jq_i2l dL_law_660 rfl ?_
  refine jq_lcmp dL_law_661 ?_
  exact jq_if_eq (tgt := 667) dL_law_662 (by decide) (fun _ => hj) (fun z => absurd (lg_cmp_self _) z)
set_option maxHeartbeats 1000000 in
theorem lw_at_rounds (hl : l.stackTraces = false) (hI : lw_go w h num mk X) (hc1 : cells + 1 ≤ 601024) (hs1 : slots + 6 ≤ 7293034) (K : lw_K l G nm b Ln xs ad i cells slots) : jq_J l G (mlaw nm) room_1 (lw_E b Ln xs) lw_Y 670 (lw_L ad b i) [] 40 ad (xs_mem G ad X) cells slots := by
  obtain ⟨val, Z, hcl, hrf⟩ := lw_rounds (l := l) (G := G) (ad := ad) hI
  refine jq_aload_n dL_law_670 rfl rfl ?_
  refine xq_rI dL_law_671 kL_124 hcl (by decide) ⟨rfl, rfl⟩ rfl rfl (Nat.le_of_ble_eq_true rfl) ⟨⟨by decide, by decide⟩, Nat.le_of_succ_le hc1, Nat.le_trans (Nat.le_add_right _ 6) hs1⟩ (fun v1 X1 h1 => ?_)
  obtain ⟨rfl, hZ⟩ := h1
  refine jq_aload_n dL_law_674 rfl rfl ?_
  refine xq_rI dL_law_675 kL_127 (hrf X1 hZ) (by decide) ⟨rfl, rfl⟩ rfl rfl (Nat.le_of_ble_eq_true rfl) ⟨⟨by decide, by decide⟩, Nat.le_of_succ_le hc1, Nat.le_trans (Nat.le_add_right _ 6) hs1⟩ (fun v2 X2 h2 => ?_)
  obtain ⟨e2, hS⟩ := h2
  refine jq_icmp_eq (tgt := 1015) dL_law_678 (by decide) (fun _ => lw_up (Nat.le_add_right _ 1) (Nat.le_add_right _ 6) (K X2 hS)) (fun z => absurd e2.symm z)
set_option maxHeartbeats 1000000 in
theorem lw_at_end (hl : l.stackTraces = false) (hI : lw_go w h num mk X) (hc1 : cells + 1 ≤ 601024) (hs1 : slots + 6 ≤ 7293034) (K : lw_K l G nm b Ln xs ad i cells slots) : jq_J l G (mlaw nm) room_1 (lw_E b Ln xs) lw_Y 683 (lw_L ad b i) [] 40 ad (xs_mem G ad X) cells slots := by
  obtain ⟨val, Z, hcl, hrf⟩ := lw_end (l := l) (G := G) (ad := ad) hI
  refine jq_aload_n dL_law_683 rfl rfl ?_
  refine xq_rI dL_law_684 kL_128 hcl (by decide) ⟨rfl, rfl⟩ rfl rfl (Nat.le_of_ble_eq_true rfl) ⟨⟨by decide, by decide⟩, Nat.le_of_succ_le hc1, Nat.le_trans (Nat.le_add_right _ 6) hs1⟩ (fun v1 X1 h1 => ?_)
  obtain ⟨rfl, hZ⟩ := h1
  refine jq_aload_n dL_law_687 rfl rfl ?_
  refine xq_rI dL_law_688 kL_131 (hrf X1 hZ) (by decide) ⟨rfl, rfl⟩ rfl rfl (Nat.le_of_ble_eq_true rfl) ⟨⟨by decide, by decide⟩, Nat.le_of_succ_le hc1, Nat.le_trans (Nat.le_add_right _ 6) hs1⟩ (fun v2 X2 h2 => ?_)
  obtain ⟨e2, hS⟩ := h2
  refine jq_icmp_eq (tgt := 1015) dL_law_691 (by decide) (fun _ => lw_up (Nat.le_add_right _ 1) (Nat.le_add_right _ 6) (K X2 hS)) (fun z => absurd e2.symm z)
set_option maxHeartbeats 1000000 in
theorem lw_at_hint (hl : l.stackTraces = false) (hI : lw_go w h num mk X) (hc1 : cells + 1 ≤ 601024) (hs1 : slots + 6 ≤ 7293034) (K : lw_K l G nm b Ln xs ad i cells slots) : jq_J l G (mlaw nm) room_1 (lw_E b Ln xs) lw_Y 696 (lw_L ad b i) [] 40 ad (xs_mem G ad X) cells slots := by
  obtain ⟨val, Z, hcl, hrf⟩ := lw_hint (l := l) (G := G) (ad := ad) hI
  refine jq_aload_n dL_law_696 rfl rfl ?_
  refine xq_rI dL_law_697 kL_132 hcl (by decide) ⟨rfl, rfl⟩ rfl rfl (Nat.le_of_ble_eq_true rfl) ⟨⟨by decide, by decide⟩, Nat.le_of_succ_le hc1, Nat.le_trans (Nat.le_add_right _ 6) hs1⟩ (fun v1 X1 h1 => ?_)
  obtain ⟨rfl, hZ⟩ := h1
  refine jq_aload_n dL_law_700 rfl rfl ?_
  refine xq_rI dL_law_701 kL_135 (hrf X1 hZ) (by decide) ⟨rfl, rfl⟩ rfl rfl (Nat.le_of_ble_eq_true rfl) ⟨⟨by decide, by decide⟩, Nat.le_of_succ_le hc1, Nat.le_trans (Nat.le_add_right _ 6) hs1⟩ (fun v2 X2 h2 => ?_)
  obtain ⟨e2, hS⟩ := h2
  refine jq_icmp_eq (tgt := 1015) dL_law_704 (by decide) (fun _ => lw_up (Nat.le_add_right _ 1) (Nat.le_add_right _ 6) (K X2 hS)) (fun z => absurd e2.symm z)
set_option maxHeartbeats 1000000 in
theorem lw_at_answers (hl : l.stackTraces = false) (hI : lw_go w h num mk X) (hc1 : cells + 1 ≤ 601024) (hs1 : slots + 6 ≤ 7293034) (K : lw_K l G nm b Ln xs ad i cells slots) : jq_J l G (mlaw nm) room_1 (lw_E b Ln xs) lw_Y 709 (lw_L ad b i) [] 40 ad (xs_mem G ad X) cells slots := by
  obtain ⟨val, Z, hcl, hrf⟩ := lw_answers (l := l) (G := G) (ad := ad) hI
  refine jq_aload_n dL_law_709 rfl rfl ?_
  refine xq_rI dL_law_710 kL_136 hcl (by decide) ⟨rfl, rfl⟩ rfl rfl (Nat.le_of_ble_eq_true rfl) ⟨⟨by decide, by decide⟩, Nat.le_of_succ_le hc1, Nat.le_trans (Nat.le_add_right _ 6) hs1⟩ (fun v1 X1 h1 => ?_)
  obtain ⟨rfl, hZ⟩ := h1
  refine jq_aload_n dL_law_713 rfl rfl ?_
  refine xq_rI dL_law_714 kL_139 (hrf X1 hZ) (by decide) ⟨rfl, rfl⟩ rfl rfl (Nat.le_of_ble_eq_true rfl) ⟨⟨by decide, by decide⟩, Nat.le_of_succ_le hc1, Nat.le_trans (Nat.le_add_right _ 6) hs1⟩ (fun v2 X2 h2 => ?_)
  obtain ⟨e2, hS⟩ := h2
  refine jq_icmp_eq (tgt := 1015) dL_law_717 (by decide) (fun _ => lw_up (Nat.le_add_right _ 1) (Nat.le_add_right _ 6) (K X2 hS)) (fun z => absurd e2.symm z)
set_option maxHeartbeats 1000000 in
theorem lw_at_answer (hl : l.stackTraces = false) (hI : lw_go w h num mk X) (hi : i + 3 ≤ Ln) (hLn : Ln ≤ 1536) (hc1 : cells + 1 ≤ 601024) (hs1 : slots + 6 ≤ 7293034) (K : lw_K l G nm b Ln xs ad i cells slots) : jq_J l G (mlaw nm) room_1 (lw_E b Ln xs) lw_Y 722 (lw_L ad b i) [] 40 ad (xs_mem G ad X) cells slots := by
  obtain ⟨code, Z, hcl, hrf⟩ := lw_answer (ad := ad) (G := G) hl hI (xs (nI (i + 1)).toNatClampNeg)
  refine jq_aload_n dL_law_722 rfl rfl ?_
  refine jq_aload_n dL_law_723 rfl rfl ?_
  refine jq_iload dL_law_724 rfl ?_
  refine jq_iconst (v := nI 1) dL_law_726 (by decide) ?_
  refine jq_iaddN dL_law_727 ?_
  refine lw_sload dL_law_728 (vp_inN (show i + 1 < Ln by omega) (by omega)) ?_
  refine jq_aload_n dL_law_729 rfl rfl ?_
  refine lw_call (na := 3) dL_law_730 gL_140 ⟨by decide, by decide, by decide +kernel⟩ hcl rfl rfl (Nat.le_of_ble_eq_true rfl) hc1 hs1 (fun X1 hZ => ?_)
  refine jq_istore dL_law_733 (Nat.le_of_ble_eq_true rfl) rfl rfl ?_
  refine jq_aload_n dL_law_735 rfl rfl ?_
  refine jq_aload_n dL_law_736 rfl rfl ?_
  refine jq_iload dL_law_737 rfl ?_
  refine jq_iconst (v := nI 1) dL_law_739 (by decide) ?_
  refine jq_iaddN dL_law_740 ?_
  refine lw_sload dL_law_741 (vp_inN (show i + 1 < Ln by omega) (by omega)) ?_
  refine xq_rL dL_law_742 kL_142 (hrf X1 hZ) (by decide) ⟨rfl, rfl⟩ rfl rfl (Nat.le_of_ble_eq_true rfl) ⟨⟨by decide, by decide⟩, hc1, hs1⟩ (fun v2 X2 h2 => ?_)
  obtain ⟨e2, hS, e3⟩ := h2
  refine jq_lstore dL_law_745 (Nat.le_of_ble_eq_true rfl) rfl rfl ?_
  refine jq_aload_n dL_law_747 rfl rfl ?_
  refine xq_vI dL_law_748 kL_68 (c_X6_thrown (by decide)) (by decide) ⟨rfl, rfl⟩ rfl rfl (Nat.le_of_ble_eq_true rfl) ⟨⟨by decide, by decide⟩, hc1, hs1⟩ ?_
  refine jq_iload dL_law_751 rfl ?_
  refine jq_icmp_eq (tgt := 758) dL_law_753 (by decide) (fun _ => ?_) (fun z => absurd e2 z)
  have hj : jq_J l G (mlaw nm) room_1 (lw_E b Ln xs) lw_Y 774 [some (.ref b), some (.ref (ad 0)), some (.ref (ad 21)), some (.ref (ad 39)), some (.int (nI i)), some (.int code), some (.long v2), none] [] 40 ad (xs_mem G ad X2) (cells + 1) (slots + 6) := jq_goto (tgt := 1015) dL_law_774 (by decide) (jq_wk (L' := lw_L ad b i) ⟨rfl, rfl, rfl, rfl, rfl, trivial⟩ (K X2 hS))
  refine jq_iload dL_law_758 rfl ?_
  refine jq_if_ne (tgt := 774) dL_law_760 (by decide) (fun _ => hj) (fun z => ?_)
  have e4 := e3 z
  refine jq_aload_n dL_law_763 rfl rfl ?_
  refine jq_iconst (v := nI 0) dL_law_764 (by decide) ?_
  refine xq_laload (q := 39) dL_law_765 (by decide) rfl (vp_inN (by decide) (by decide)) e4 ?_
  refine jq_lload dL_law_766 rfl ?_
  refine jq_lcmp dL_law_768 ?_
  exact jq_if_eq (tgt := 774) dL_law_769 (by decide) (fun _ => hj) (fun z => absurd (lg_cmp_self _) z)
set_option maxHeartbeats 1000000 in
theorem lw_at_isInside (hl : l.stackTraces = false) (hI : lw_go w h num mk X) (hi : i + 3 ≤ Ln) (hLn : Ln ≤ 1536) (hc1 : cells + 1 ≤ 601024) (hs1 : slots + 6 ≤ 7293034) (K : lw_K l G nm b Ln xs ad i cells slots) : jq_J l G (mlaw nm) room_1 (lw_E b Ln xs) lw_Y 777 (lw_L ad b i) [] 40 ad (xs_mem G ad X) cells slots := by
  obtain ⟨code, Z, hcl, hrf⟩ := lw_isInside (ad := ad) (G := G) hl hI (xs (nI (i + 1)).toNatClampNeg) (xs (nI (i + 2)).toNatClampNeg)
  refine jq_aload_n dL_law_777 rfl rfl ?_
  refine jq_aload_n dL_law_778 rfl rfl ?_
  refine jq_iload dL_law_779 rfl ?_
  refine jq_iconst (v := nI 1) dL_law_781 (by decide) ?_
  refine jq_iaddN dL_law_782 ?_
  refine lw_sload dL_law_783 (vp_inN (show i + 1 < Ln by omega) (by omega)) ?_
  refine jq_aload_n dL_law_784 rfl rfl ?_
  refine jq_iload dL_law_785 rfl ?_
  refine jq_iconst (v := nI 2) dL_law_787 (by decide) ?_
  refine jq_iaddN dL_law_788 ?_
  refine lw_sload dL_law_789 (vp_inN (show i + 2 < Ln by omega) (by omega)) ?_
  refine jq_aload_n dL_law_790 rfl rfl ?_
  refine lw_call (na := 4) dL_law_791 gL_143 ⟨by decide, by decide, by decide +kernel⟩ hcl rfl rfl (Nat.le_of_ble_eq_true rfl) hc1 hs1 (fun X1 hZ => ?_)
  refine jq_istore dL_law_794 (Nat.le_of_ble_eq_true rfl) rfl rfl ?_
  refine jq_aload_n dL_law_796 rfl rfl ?_
  refine jq_aload_n dL_law_797 rfl rfl ?_
  refine jq_iload dL_law_798 rfl ?_
  refine jq_iconst (v := nI 1) dL_law_800 (by decide) ?_
  refine jq_iaddN dL_law_801 ?_
  refine lw_sload dL_law_802 (vp_inN (show i + 1 < Ln by omega) (by omega)) ?_
  refine jq_aload_n dL_law_803 rfl rfl ?_
  refine jq_iload dL_law_804 rfl ?_
  refine jq_iconst (v := nI 2) dL_law_806 (by decide) ?_
  refine jq_iaddN dL_law_807 ?_
  refine lw_sload dL_law_808 (vp_inN (show i + 2 < Ln by omega) (by omega)) ?_
  refine xq_rI dL_law_809 kL_145 (hrf X1 hZ) (by decide) ⟨rfl, rfl⟩ rfl rfl (Nat.le_of_ble_eq_true rfl) ⟨⟨by decide, by decide⟩, hc1, hs1⟩ (fun v2 X2 h2 => ?_)
  obtain ⟨e2, hS, e3⟩ := h2
  refine jq_istore dL_law_812 (Nat.le_of_ble_eq_true rfl) rfl rfl ?_
  refine jq_aload_n dL_law_814 rfl rfl ?_
  refine xq_vI dL_law_815 kL_68 (c_X6_thrown (by decide)) (by decide) ⟨rfl, rfl⟩ rfl rfl (Nat.le_of_ble_eq_true rfl) ⟨⟨by decide, by decide⟩, hc1, hs1⟩ ?_
  refine jq_iload dL_law_818 rfl ?_
  refine jq_icmp_eq (tgt := 825) dL_law_820 (by decide) (fun _ => ?_) (fun z => absurd e2 z)
  have hj : jq_J l G (mlaw nm) room_1 (lw_E b Ln xs) lw_Y 849 [some (.ref b), some (.ref (ad 0)), some (.ref (ad 21)), some (.ref (ad 39)), some (.int (nI i)), some (.int code), some (.int v2), none] [] 40 ad (xs_mem G ad X2) (cells + 1) (slots + 6) := jq_goto (tgt := 1015) dL_law_849 (by decide) (jq_wk (L' := lw_L ad b i) ⟨rfl, rfl, rfl, rfl, rfl, trivial⟩ (K X2 hS))
  refine jq_iload dL_law_825 rfl ?_
  refine jq_if_ne (tgt := 849) dL_law_827 (by decide) (fun _ => hj) (fun z => ?_)
  have e4 := e3 z
  refine jq_aload_n dL_law_830 rfl rfl ?_
  refine jq_iconst (v := nI 0) dL_law_831 (by decide) ?_
  refine xq_laload (q := 39) dL_law_832 (by decide) rfl (vp_inN (by decide) (by decide)) e4 ?_
  refine jq_iload dL_law_833 rfl ?_
  refine jq_if_eq (tgt := 842) dL_law_835 (by decide) (fun z2 => ?_) (fun z2 => ?_)
  · rw [show lw_f v2 = 0 from if_pos z2]
    refine jq_lconst (v := 0) dL_law_842 (by decide) ?_
    refine jq_lcmp dL_law_843 ?_
    exact jq_if_eq (tgt := 849) dL_law_844 (by decide) (fun _ => hj) (fun z => absurd (lg_cmp_self _) z)
  · rw [show lw_f v2 = 1 from if_neg z2]
    refine jq_lconst (v := 1) dL_law_838 (by decide) ?_
    refine jq_goto (tgt := 843) dL_law_839 (by decide) ?_
    refine jq_lcmp dL_law_843 ?_
    exact jq_if_eq (tgt := 849) dL_law_844 (by decide) (fun _ => hj) (fun z => absurd (lg_cmp_self _) z)
set_option maxHeartbeats 1000000 in
theorem lw_at_proved (hl : l.stackTraces = false) (hI : lw_go w h num mk X) (hi : i + 3 ≤ Ln) (hLn : Ln ≤ 1536) (hc1 : cells + 1 ≤ 601024) (hs1 : slots + 6 ≤ 7293034) (K : lw_K l G nm b Ln xs ad i cells slots) : jq_J l G (mlaw nm) room_1 (lw_E b Ln xs) lw_Y 852 (lw_L ad b i) [] 40 ad (xs_mem G ad X) cells slots := by
  obtain ⟨code, Z, hcl, hrf⟩ := lw_proved (ad := ad) (G := G) hl hI (xs (nI (i + 1)).toNatClampNeg)
  refine jq_aload_n dL_law_852 rfl rfl ?_
  refine jq_aload_n dL_law_853 rfl rfl ?_
  refine jq_iload dL_law_854 rfl ?_
  refine jq_iconst (v := nI 1) dL_law_856 (by decide) ?_
  refine jq_iaddN dL_law_857 ?_
  refine lw_sload dL_law_858 (vp_inN (show i + 1 < Ln by omega) (by omega)) ?_
  refine jq_aload_n dL_law_859 rfl rfl ?_
  refine lw_call (na := 3) dL_law_860 gL_146 ⟨by decide, by decide, by decide +kernel⟩ hcl rfl rfl (Nat.le_of_ble_eq_true rfl) hc1 hs1 (fun X1 hZ => ?_)
  refine jq_istore dL_law_863 (Nat.le_of_ble_eq_true rfl) rfl rfl ?_
  refine jq_aload_n dL_law_865 rfl rfl ?_
  refine jq_aload_n dL_law_866 rfl rfl ?_
  refine jq_iload dL_law_867 rfl ?_
  refine jq_iconst (v := nI 1) dL_law_869 (by decide) ?_
  refine jq_iaddN dL_law_870 ?_
  refine lw_sload dL_law_871 (vp_inN (show i + 1 < Ln by omega) (by omega)) ?_
  refine xq_rI dL_law_872 kL_148 (hrf X1 hZ) (by decide) ⟨rfl, rfl⟩ rfl rfl (Nat.le_of_ble_eq_true rfl) ⟨⟨by decide, by decide⟩, hc1, hs1⟩ (fun v2 X2 h2 => ?_)
  obtain ⟨e2, hS, e3⟩ := h2
  refine jq_istore dL_law_875 (Nat.le_of_ble_eq_true rfl) rfl rfl ?_
  refine jq_aload_n dL_law_877 rfl rfl ?_
  refine xq_vI dL_law_878 kL_68 (c_X6_thrown (by decide)) (by decide) ⟨rfl, rfl⟩ rfl rfl (Nat.le_of_ble_eq_true rfl) ⟨⟨by decide, by decide⟩, hc1, hs1⟩ ?_
  refine jq_iload dL_law_881 rfl ?_
  refine jq_icmp_eq (tgt := 888) dL_law_883 (by decide) (fun _ => ?_) (fun z => absurd e2 z)
  have hj : jq_J l G (mlaw nm) room_1 (lw_E b Ln xs) lw_Y 905 [some (.ref b), some (.ref (ad 0)), some (.ref (ad 21)), some (.ref (ad 39)), some (.int (nI i)), some (.int code), some (.int v2), none] [] 40 ad (xs_mem G ad X2) (cells + 1) (slots + 6) := jq_goto (tgt := 1015) dL_law_905 (by decide) (jq_wk (L' := lw_L ad b i) ⟨rfl, rfl, rfl, rfl, rfl, trivial⟩ (K X2 hS))
  refine jq_iload dL_law_888 rfl ?_
  refine jq_if_ne (tgt := 905) dL_law_890 (by decide) (fun _ => hj) (fun z => ?_)
  have e4 := e3 z
  refine jq_aload_n dL_law_893 rfl rfl ?_
  refine jq_iconst (v := nI 0) dL_law_894 (by decide) ?_
  refine xq_laload (q := 39) dL_law_895 (by decide) rfl (vp_inN (by decide) (by decide)) e4 ?_
  refine jq_iload dL_law_896 rfl ?_
  refine jq_i2l dL_law_898 rfl ?_
  refine jq_lcmp dL_law_899 ?_
  exact jq_if_eq (tgt := 905) dL_law_900 (by decide) (fun _ => hj) (fun z => absurd (lg_cmp_self _) z)
set_option maxHeartbeats 1000000 in
theorem lw_at_beyondRules (hl : l.stackTraces = false) (hI : lw_go w h num mk X) (hc1 : cells + 1 ≤ 601024) (hs1 : slots + 6 ≤ 7293034) (K : lw_K l G nm b Ln xs ad i cells slots) : jq_J l G (mlaw nm) room_1 (lw_E b Ln xs) lw_Y 908 (lw_L ad b i) [] 40 ad (xs_mem G ad X) cells slots := by
  obtain ⟨code, Z, hcl, hrf⟩ := lw_beyondRules (ad := ad) (G := G) hl hI
  refine jq_aload_n dL_law_908 rfl rfl ?_
  refine jq_aload_n dL_law_909 rfl rfl ?_
  refine lw_call (na := 2) dL_law_910 gL_149 ⟨by decide, by decide, by decide +kernel⟩ hcl rfl rfl (Nat.le_of_ble_eq_true rfl) hc1 hs1 (fun X1 hZ => ?_)
  refine jq_istore dL_law_913 (Nat.le_of_ble_eq_true rfl) rfl rfl ?_
  refine jq_aload_n dL_law_915 rfl rfl ?_
  refine xq_rI dL_law_916 kL_152 (hrf X1 hZ) (by decide) ⟨rfl, rfl⟩ rfl rfl (Nat.le_of_ble_eq_true rfl) ⟨⟨by decide, by decide⟩, hc1, hs1⟩ (fun v2 X2 h2 => ?_)
  obtain ⟨e2, hS, e3⟩ := h2
  refine jq_istore dL_law_919 (Nat.le_of_ble_eq_true rfl) rfl rfl ?_
  refine jq_aload_n dL_law_921 rfl rfl ?_
  refine xq_vI dL_law_922 kL_68 (c_X6_thrown (by decide)) (by decide) ⟨rfl, rfl⟩ rfl rfl (Nat.le_of_ble_eq_true rfl) ⟨⟨by decide, by decide⟩, hc1, hs1⟩ ?_
  refine jq_iload dL_law_925 rfl ?_
  refine jq_icmp_eq (tgt := 932) dL_law_927 (by decide) (fun _ => ?_) (fun z => absurd e2 z)
  have hj : jq_J l G (mlaw nm) room_1 (lw_E b Ln xs) lw_Y 949 [some (.ref b), some (.ref (ad 0)), some (.ref (ad 21)), some (.ref (ad 39)), some (.int (nI i)), some (.int code), some (.int v2), none] [] 40 ad (xs_mem G ad X2) (cells + 1) (slots + 6) := jq_goto (tgt := 1015) dL_law_949 (by decide) (jq_wk (L' := lw_L ad b i) ⟨rfl, rfl, rfl, rfl, rfl, trivial⟩ (K X2 hS))
  refine jq_iload dL_law_932 rfl ?_
  refine jq_if_ne (tgt := 949) dL_law_934 (by decide) (fun _ => hj) (fun z => ?_)
  have e4 := e3 z
  refine jq_aload_n dL_law_937 rfl rfl ?_
  refine jq_iconst (v := nI 0) dL_law_938 (by decide) ?_
  refine xq_laload (q := 39) dL_law_939 (by decide) rfl (vp_inN (by decide) (by decide)) e4 ?_
  refine jq_iload dL_law_940 rfl ?_
  refine jq_i2l dL_law_942 rfl ?_
  refine jq_lcmp dL_law_943 ?_
  exact jq_if_eq (tgt := 949) dL_law_944 (by decide) (fun _ => hj) (fun z => absurd (lg_cmp_self _) z)
set_option maxHeartbeats 1000000 in
theorem lw_at_isNeeded (hl : l.stackTraces = false) (hI : lw_go w h num mk X) (hi : i + 3 ≤ Ln) (hLn : Ln ≤ 1536) (hc1 : cells + 1 ≤ 601024) (hs1 : slots + 6 ≤ 7293034) (K : lw_K l G nm b Ln xs ad i cells slots) : jq_J l G (mlaw nm) room_1 (lw_E b Ln xs) lw_Y 952 (lw_L ad b i) [] 40 ad (xs_mem G ad X) cells slots := by
  obtain ⟨code, Z, hcl, hrf⟩ := lw_isNeeded (ad := ad) (G := G) hl hI (xs (nI (i + 1)).toNatClampNeg)
  refine jq_aload_n dL_law_952 rfl rfl ?_
  refine jq_aload_n dL_law_953 rfl rfl ?_
  refine jq_iload dL_law_954 rfl ?_
  refine jq_iconst (v := nI 1) dL_law_956 (by decide) ?_
  refine jq_iaddN dL_law_957 ?_
  refine lw_sload dL_law_958 (vp_inN (show i + 1 < Ln by omega) (by omega)) ?_
  refine jq_aload_n dL_law_959 rfl rfl ?_
  refine lw_call (na := 3) dL_law_960 gL_153 ⟨by decide, by decide, by decide +kernel⟩ hcl rfl rfl (Nat.le_of_ble_eq_true rfl) hc1 hs1 (fun X1 hZ => ?_)
  refine jq_istore dL_law_963 (Nat.le_of_ble_eq_true rfl) rfl rfl ?_
  refine jq_aload_n dL_law_965 rfl rfl ?_
  refine jq_aload_n dL_law_966 rfl rfl ?_
  refine jq_iload dL_law_967 rfl ?_
  refine jq_iconst (v := nI 1) dL_law_969 (by decide) ?_
  refine jq_iaddN dL_law_970 ?_
  refine lw_sload dL_law_971 (vp_inN (show i + 1 < Ln by omega) (by omega)) ?_
  refine xq_rI dL_law_972 kL_155 (hrf X1 hZ) (by decide) ⟨rfl, rfl⟩ rfl rfl (Nat.le_of_ble_eq_true rfl) ⟨⟨by decide, by decide⟩, hc1, hs1⟩ (fun v2 X2 h2 => ?_)
  obtain ⟨e2, hS, e3⟩ := h2
  refine jq_istore dL_law_975 (Nat.le_of_ble_eq_true rfl) rfl rfl ?_
  refine jq_aload_n dL_law_977 rfl rfl ?_
  refine xq_vI dL_law_978 kL_68 (c_X6_thrown (by decide)) (by decide) ⟨rfl, rfl⟩ rfl rfl (Nat.le_of_ble_eq_true rfl) ⟨⟨by decide, by decide⟩, hc1, hs1⟩ ?_
  refine jq_iload dL_law_981 rfl ?_
  refine jq_icmp_eq (tgt := 988) dL_law_983 (by decide) (fun _ => ?_) (fun z => absurd e2 z)
  have hj : jq_J l G (mlaw nm) room_1 (lw_E b Ln xs) lw_Y 1012 [some (.ref b), some (.ref (ad 0)), some (.ref (ad 21)), some (.ref (ad 39)), some (.int (nI i)), some (.int code), some (.int v2), none] [] 40 ad (xs_mem G ad X2) (cells + 1) (slots + 6) := jq_goto (tgt := 1015) dL_law_1012 (by decide) (jq_wk (L' := lw_L ad b i) ⟨rfl, rfl, rfl, rfl, rfl, trivial⟩ (K X2 hS))
  refine jq_iload dL_law_988 rfl ?_
  refine jq_if_ne (tgt := 1012) dL_law_990 (by decide) (fun _ => hj) (fun z => ?_)
  have e4 := e3 z
  refine jq_aload_n dL_law_993 rfl rfl ?_
  refine jq_iconst (v := nI 0) dL_law_994 (by decide) ?_
  refine xq_laload (q := 39) dL_law_995 (by decide) rfl (vp_inN (by decide) (by decide)) e4 ?_
  refine jq_iload dL_law_996 rfl ?_
  refine jq_if_eq (tgt := 1005) dL_law_998 (by decide) (fun z2 => ?_) (fun z2 => ?_)
  · rw [show lw_f v2 = 0 from if_pos z2]
    refine jq_lconst (v := 0) dL_law_1005 (by decide) ?_
    refine jq_lcmp dL_law_1006 ?_
    exact jq_if_eq (tgt := 1012) dL_law_1007 (by decide) (fun _ => hj) (fun z => absurd (lg_cmp_self _) z)
  · rw [show lw_f v2 = 1 from if_neg z2]
    refine jq_lconst (v := 1) dL_law_1001 (by decide) ?_
    refine jq_goto (tgt := 1006) dL_law_1002 (by decide) ?_
    refine jq_lcmp dL_law_1006 ?_
    exact jq_if_eq (tgt := 1012) dL_law_1007 (by decide) (fun _ => hj) (fun z => absurd (lg_cmp_self _) z)
theorem lw_gt {Ln i : Nat} (hL : Ln ≤ 1536) (hi : i ≤ 2000) : (nI Ln - nI 3 < nI i) ↔ Ln < i + 3 := by
  rcases Nat.lt_or_ge Ln 3 with z | z
  · refine ⟨fun _ => by omega, fun _ => ?_⟩
    have h0 : (0 : Int32) ≤ nI i := nI_pos' (by omega)
    rcases (show Ln = 0 ∨ Ln = 1 ∨ Ln = 2 by omega) with rfl | rfl | rfl
    · exact Int32.lt_of_lt_of_le (show nI 0 - nI 3 < 0 by decide) h0
    · exact Int32.lt_of_lt_of_le (show nI 1 - nI 3 < 0 by decide) h0
    · exact Int32.lt_of_lt_of_le (show nI 2 - nI 3 < 0 by decide) h0
  · rw [pk_sub z]
    constructor
    · intro q
      rcases Nat.lt_or_ge Ln (i + 3) with y | y
      · exact y
      · have h1 : nI i ≤ nI (Ln - 3) := nI_le (by omega) (by omega)
        exact absurd (Int32.lt_of_lt_of_le q h1) (Int32.lt_irrefl)
    · intro q
      exact nI_lt (by omega) (by omega)
set_option maxHeartbeats 1000000 in
theorem lw_pass (hl : l.stackTraces = false) (hS : lw_st X) (hi : i + 3 ≤ Ln) (hLn : Ln ≤ 1536) (hc1 : cells + 1 ≤ 601024) (hs1 : slots + 6 ≤ 7293034) (K : lw_K l G nm b Ln xs ad i cells slots) : jq_J l G (mlaw nm) room_1 (lw_E b Ln xs) lw_Y 32 (lw_L ad b i) [] 40 ad (xs_mem G ad X) cells slots := by
  obtain ⟨w, h, num, mk, hI⟩ := hS
  refine jq_aload_n dL_law_32 rfl rfl ?_
  refine jq_iload dL_law_33 rfl ?_
  refine lw_sload dL_law_35 (vp_inN (show i < Ln by omega) (by omega)) ?_
  refine jq_bipush (v := 31) dL_law_36 (by decide) ?_
  refine jq_iand dL_law_38 ?_
  generalize xs (nI i).toNatClampNeg &&& 31 = op
  have hop : op.toInt = 0 ∨ op.toInt = 1 ∨ op.toInt = 2 ∨ op.toInt = 3 ∨ op.toInt = 4 ∨ op.toInt = 5 ∨ op.toInt = 6 ∨ op.toInt = 7 ∨ op.toInt = 8 ∨ op.toInt = 9 ∨ op.toInt = 10 ∨ op.toInt = 11 ∨ op.toInt = 12 ∨ op.toInt = 13 ∨ op.toInt = 14 ∨ op.toInt = 15 ∨ op.toInt = 16 ∨ op.toInt = 17 ∨ op.toInt = 18 ∨ op.toInt = 19 ∨ op.toInt = 20 ∨ op.toInt = 21 ∨ op.toInt = 22 ∨ op.toInt = 23 ∨ (op.toInt < 0 ∨ 23 < op.toInt) := by omega
  rcases hop with q | q | q | q | q | q | q | q | q | q | q | q | q | q | q | q | q | q | q | q | q | q | q | q | q
  · refine jq_tableIn (tgt := 148) dL_law_39 (by omega) (by omega) (by rw [q]; rfl) (by decide) ?_
    exact lw_at_lay hl hI hi hLn hc1 hs1 K
  · refine jq_tableIn (tgt := 196) dL_law_39 (by omega) (by omega) (by rw [q]; rfl) (by decide) ?_
    exact lw_at_cells hl hI hc1 hs1 K
  · refine jq_tableIn (tgt := 209) dL_law_39 (by omega) (by omega) (by rw [q]; rfl) (by decide) ?_
    exact lw_at_edges hl hI hc1 hs1 K
  · refine jq_tableIn (tgt := 222) dL_law_39 (by omega) (by omega) (by rw [q]; rfl) (by decide) ?_
    exact lw_at_number hl hI hi hLn hc1 hs1 K
  · refine jq_tableIn (tgt := 290) dL_law_39 (by omega) (by omega) (by rw [q]; rfl) (by decide) ?_
    exact lw_at_mark hl hI hi hLn hc1 hs1 K
  · refine jq_tableIn (tgt := 358) dL_law_39 (by omega) (by omega) (by rw [q]; rfl) (by decide) ?_
    exact lw_at_wipe hl hI hc1 hs1 K
  · refine jq_tableIn (tgt := 369) dL_law_39 (by omega) (by omega) (by rw [q]; rfl) (by decide) ?_
    exact lw_at_markAll hl hI hc1 hs1 K
  · refine jq_tableIn (tgt := 382) dL_law_39 (by omega) (by omega) (by rw [q]; rfl) (by decide) ?_
    exact lw_at_edgeOf hl hI hi hLn hc1 hs1 K
  · refine jq_tableIn (tgt := 450) dL_law_39 (by omega) (by omega) (by rw [q]; rfl) (by decide) ?_
    exact lw_at_lines hl hI hc1 hs1 K
  · refine jq_tableIn (tgt := 463) dL_law_39 (by omega) (by omega) (by rw [q]; rfl) (by decide) ?_
    exact lw_at_ways hl hI hc1 hs1 K
  · refine jq_tableIn (tgt := 476) dL_law_39 (by omega) (by omega) (by rw [q]; rfl) (by decide) ?_
    exact lw_at_broken hl hI hc1 hs1 K
  · refine jq_tableIn (tgt := 489) dL_law_39 (by omega) (by omega) (by rw [q]; rfl) (by decide) ?_
    exact lw_at_isAnswer hl hI hc1 hs1 K
  · refine jq_tableIn (tgt := 502) dL_law_39 (by omega) (by omega) (by rw [q]; rfl) (by decide) ?_
    exact lw_at_follows hl hI hi hLn hc1 hs1 K
  · refine jq_tableIn (tgt := 558) dL_law_39 (by omega) (by omega) (by rw [q]; rfl) (by decide) ?_
    exact lw_at_roundOf hl hI hi hLn hc1 hs1 K
  · refine jq_tableIn (tgt := 614) dL_law_39 (by omega) (by omega) (by rw [q]; rfl) (by decide) ?_
    exact lw_at_ruleOf hl hI hi hLn hc1 hs1 K
  · refine jq_tableIn (tgt := 670) dL_law_39 (by omega) (by omega) (by rw [q]; rfl) (by decide) ?_
    exact lw_at_rounds hl hI hc1 hs1 K
  · refine jq_tableIn (tgt := 683) dL_law_39 (by omega) (by omega) (by rw [q]; rfl) (by decide) ?_
    exact lw_at_end hl hI hc1 hs1 K
  · refine jq_tableIn (tgt := 696) dL_law_39 (by omega) (by omega) (by rw [q]; rfl) (by decide) ?_
    exact lw_at_hint hl hI hc1 hs1 K
  · refine jq_tableIn (tgt := 709) dL_law_39 (by omega) (by omega) (by rw [q]; rfl) (by decide) ?_
    exact lw_at_answers hl hI hc1 hs1 K
  · refine jq_tableIn (tgt := 722) dL_law_39 (by omega) (by omega) (by rw [q]; rfl) (by decide) ?_
    exact lw_at_answer hl hI hi hLn hc1 hs1 K
  · refine jq_tableIn (tgt := 777) dL_law_39 (by omega) (by omega) (by rw [q]; rfl) (by decide) ?_
    exact lw_at_isInside hl hI hi hLn hc1 hs1 K
  · refine jq_tableIn (tgt := 852) dL_law_39 (by omega) (by omega) (by rw [q]; rfl) (by decide) ?_
    exact lw_at_proved hl hI hi hLn hc1 hs1 K
  · refine jq_tableIn (tgt := 908) dL_law_39 (by omega) (by omega) (by rw [q]; rfl) (by decide) ?_
    exact lw_at_beyondRules hl hI hc1 hs1 K
  · refine jq_tableIn (tgt := 952) dL_law_39 (by omega) (by omega) (by rw [q]; rfl) (by decide) ?_
    exact lw_at_isNeeded hl hI hi hLn hc1 hs1 K
  · exact jq_tableOut (tgt := 1015) dL_law_39 q (by decide) (lw_up (Nat.le_add_right _ 1) (Nat.le_add_right _ 6) (K X ⟨w, h, num, mk, hI⟩))
theorem lw_loop (hl : l.stackTraces = false) (hLn : Ln ≤ 1536) : ∀ (m i : Nat) (X : xs_T) (cells slots : Nat), Ln ≤ i + 3 * m → i ≤ 1539 → lw_st X → cells + m ≤ 601024 → slots + 6 * m ≤ 7293034 → jq_J l G (mlaw nm) room_1 (lw_E b Ln xs) lw_Y 23 (lw_L ad b i) [] 40 ad (xs_mem G ad X) cells slots := by
  intro m
  induction m with
  | zero =>
    intro i X cells slots h1 h2 hS h3 h4
    refine jq_iload dL_law_23 rfl ?_
    refine jq_aload_n dL_law_25 rfl rfl ?_
    refine lw_slen dL_law_26 ?_
    refine jq_iconst (v := nI 3) dL_law_27 (by decide) ?_
    refine jq_isub dL_law_28 ?_
    refine jq_icmp_gt (tgt := 1021) dL_law_29 (by decide) (fun _ => ?_) (fun z => absurd ((lw_gt hLn (by omega)).mpr (by omega)) z)
    refine jq_iconst (v := 1) dL_law_1021 (by decide) ?_
    exact lw_fin (by omega) (by omega) dL_law_1022
  | succ m ih =>
    intro i X cells slots h1 h2 hS h3 h4
    refine jq_iload dL_law_23 rfl ?_
    refine jq_aload_n dL_law_25 rfl rfl ?_
    refine lw_slen dL_law_26 ?_
    refine jq_iconst (v := nI 3) dL_law_27 (by decide) ?_
    refine jq_isub dL_law_28 ?_
    refine jq_icmp_gt (tgt := 1021) dL_law_29 (by decide) (fun _ => ?_) (fun z => ?_)
    · refine jq_iconst (v := 1) dL_law_1021 (by decide) ?_
      exact lw_fin (by omega) (by omega) dL_law_1022
    · have hi : i + 3 ≤ Ln := Nat.not_lt.mp (fun y => z ((lw_gt hLn (by omega)).mpr y))
      refine lw_pass hl hS hi hLn (by omega) (by omega) (fun X2 hS2 => ?_)
      refine jq_iincN (z := 3) dL_law_1015 (Nat.le_of_ble_eq_true rfl) rfl rfl rfl ?_
      refine jq_goto (tgt := 23) dL_law_1018 (by decide) ?_
      exact ih (i + 3) X2 (cells + 1) (slots + 6) (by omega) (by omega) hS2 (by omega) (by omega)
end LW2
