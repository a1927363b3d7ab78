/-! The numbers of lists, and the line to which they are written. -/
section Numb
variable {σ : St} {k : Nat} {R : RowD}
/-- levels and restarts of ends are as they may be -/
def EndW (R : RowD) : Prop := ∀ i, 0 ≤ i → i ≤ R.2.1 → R.1 0 i = 47 → 0 ≤ R.1 8 i ∧ R.1 8 i ≤ 2 ∧ 0 ≤ R.1 9 i ∧ R.1 9 i ≤ 99 ∧ -1 ≤ R.1 7 i ∧ R.1 7 i ≤ 2
end Numb
section Line
variable {σ : St} {k : Nat} {R : RowD}
end Line
