/-! The reference: judging. -/
section Mod7
variable {σ : St}
theorem RowW.drp {R : RowD} (h : RowW R) {u : Int} (hu : 0 ≤ u ∧ u < R.2.1) : RowW (drpR R u) := by
  obtain ⟨a, b, c⟩ := h
  refine ⟨by show 0 ≤ R.2.1 - 1; omega, by show R.2.1 - 1 ≤ 200; omega, fun x x0 x1 => ?_⟩
  have q := c x x0 x1
  show -1 ≤ (if u < R.2.2.1 x then R.2.2.1 x - 1 else R.2.2.1 x) ∧ (if u < R.2.2.1 x then R.2.2.1 x - 1 else R.2.2.1 x) ≤ R.2.1 - 1 ∧ -1 ≤ (if u < R.2.2.2 x then R.2.2.2 x - 1 else R.2.2.2 x) ∧ (if u < R.2.2.2 x then R.2.2.2 x - 1 else R.2.2.2 x) ≤ R.2.1 - 1
  split <;> split <;> omega
end Mod7
