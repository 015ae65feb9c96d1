/-! the reference's findLoops -/
theorem dv_neg2 {S : Nat} (hS : S < 2 ^ 63) : lN S &&& -lN S = lN (dv_low S) := by
  by_cases q : S = 0
  · subst q; exact dv_neg0
  · exact dv_neg hS q
