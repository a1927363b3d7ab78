/-! The two tables (for now). -/
theorem shTab : ShTab := by sorry
theorem mnTab : MnTab := by sorry
