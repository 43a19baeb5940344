theorem mnaRow : MnaRow := by
  sorry
