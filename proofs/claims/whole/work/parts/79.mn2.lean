theorem mn2 : Mn2 := by
  sorry
