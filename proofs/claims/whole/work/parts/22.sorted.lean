/-- the two standard forms are one -/
theorem pc_io_sf (B s : Nat → Int32) : ∀ v, v < 6 → pc_io B s v = pc_sf B s v := by
  sorry
