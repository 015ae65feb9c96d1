/-! sets of cells: what the law calls an area, and which of them have one loop around them -/
def lr_m2 (w h e : Nat) : Nat := 2 ^ tb_are w h e ||| 2 ^ tb_bes w h e
def lr_ain (w h S : Nat) : Nat → Nat → Nat
  | 0, I => I
  | e + 1, I => if S &&& lr_m2 w h e = lr_m2 w h e ∧ lr_ain w h S e I &&& lr_m2 w h e ≠ 0 then lr_ain w h S e I ||| lr_m2 w h e else lr_ain w h S e I
def lr_aou (w h S : Nat) : Nat → Nat → Nat
  | 0, I => I
  | e + 1, I => if S &&& lr_m2 w h e = 0 ∧ lr_aou w h S e I &&& lr_m2 w h e ≠ 0 then lr_aou w h S e I ||| lr_m2 w h e else lr_aou w h S e I
def lr_iin (w h S : Nat) : Nat → Nat → Nat
  | 0, I => I
  | m + 1, I => lr_ain w h S (tb_ne w h) (lr_iin w h S m I)
def lr_iou (w h S : Nat) : Nat → Nat → Nat
  | 0, I => I
  | m + 1, I => lr_aou w h S (tb_ne w h) (lr_iou w h S m I)
def lr_lb (S : Nat) : Nat := S &&& (4294967296 - S)
def lr_pin (w S r c : Nat) : Bool := (S / 2 ^ ((r - 1) * w + c - 1) &&& 3) + (S / 2 ^ (r * w + c - 1) &&& 3) == 3 && ((S / 2 ^ ((r - 1) * w + c - 1) &&& 3) == 1 || (S / 2 ^ ((r - 1) * w + c - 1) &&& 3) == 2)
def lr_pinR (w S r : Nat) : Bool := (List.range w).all (fun c => c == 0 || !lr_pin w S r c)
def lr_ar (w h S : Nat) : Bool := (lr_iin w h S 10 (lr_lb S) == S && (lr_iin w h S 10 (lr_lb S) ||| lr_iou w h S 10 (2 ^ tb_nc w h)) == 2 * 2 ^ tb_nc w h - 1) && (List.range h).all (fun r => r == 0 || lr_pinR w S r)
def lr_sS (S : Nat) : Nat → Nat := fun e => if S.testBit e = true then 1 else 2
def lr_ck1 (w h C : Nat) : Bool := C == 0 || lr_ar w h C == lr_lp w h (lr_sS (dv_bd w h C))
set_option maxRecDepth 100000 in
theorem lr_ar_11 : (List.range 2).all (fun i => lr_ck1 1 1 i) = true := by decide +kernel
set_option maxRecDepth 100000 in
theorem lr_ar_12 : (List.range 4).all (fun i => lr_ck1 1 2 i) = true := by decide +kernel
set_option maxRecDepth 100000 in
theorem lr_ar_13 : (List.range 8).all (fun i => lr_ck1 1 3 i) = true := by decide +kernel
set_option maxRecDepth 100000 in
theorem lr_ar_21 : (List.range 4).all (fun i => lr_ck1 2 1 i) = true := by decide +kernel
set_option maxRecDepth 100000 in
theorem lr_ar_22 : (List.range 16).all (fun i => lr_ck1 2 2 i) = true := by decide +kernel
set_option maxRecDepth 100000 in
theorem lr_ar_23 : (List.range 64).all (fun i => lr_ck1 2 3 i) = true := by decide +kernel
set_option maxRecDepth 100000 in
theorem lr_ar_31 : (List.range 8).all (fun i => lr_ck1 3 1 i) = true := by decide +kernel
set_option maxRecDepth 100000 in
theorem lr_ar_32 : (List.range 64).all (fun i => lr_ck1 3 2 i) = true := by decide +kernel
