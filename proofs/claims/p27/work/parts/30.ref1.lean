/-! the reference's small methods -/
