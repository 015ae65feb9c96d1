/-! the reference's answers -/
theorem rf_afr2 {w h : Nat} {num : Nat → Int32} {mk : Nat → Nat} {X Y : xs_T} (hA : rf_A w h num mk X) (hf : xs_fr rf_SF rf_FF X Y) : rf_A w h num mk Y := rf_afr hA hf
