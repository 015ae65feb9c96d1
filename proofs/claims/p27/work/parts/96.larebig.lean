/-! the three by three board, sixty-four sets at a time -/
set_option maxRecDepth 100000 in
theorem lr_ar_33_0 : (List.range 64).all (fun i => lr_ck1 3 3 (0 + i)) = true := by decide +kernel
set_option maxRecDepth 100000 in
theorem lr_ar_33_1 : (List.range 64).all (fun i => lr_ck1 3 3 (64 + i)) = true := by decide +kernel
set_option maxRecDepth 100000 in
theorem lr_ar_33_2 : (List.range 64).all (fun i => lr_ck1 3 3 (128 + i)) = true := by decide +kernel
set_option maxRecDepth 100000 in
theorem lr_ar_33_3 : (List.range 64).all (fun i => lr_ck1 3 3 (192 + i)) = true := by decide +kernel
set_option maxRecDepth 100000 in
theorem lr_ar_33_4 : (List.range 64).all (fun i => lr_ck1 3 3 (256 + i)) = true := by decide +kernel
set_option maxRecDepth 100000 in
theorem lr_ar_33_5 : (List.range 64).all (fun i => lr_ck1 3 3 (320 + i)) = true := by decide +kernel
set_option maxRecDepth 100000 in
theorem lr_ar_33_6 : (List.range 64).all (fun i => lr_ck1 3 3 (384 + i)) = true := by decide +kernel
set_option maxRecDepth 100000 in
theorem lr_ar_33_7 : (List.range 64).all (fun i => lr_ck1 3 3 (448 + i)) = true := by decide +kernel
