/-! Both at the start. -/
section Start
theorem UnI_0 : UnI 0 1 D0.2.1 R0 0 := ⟨Or.inl ⟨rfl, Or.inl rfl⟩, Or.inl rfl, Or.inl rfl, Or.inl rfl, fun h => absurd rfl h, fun _ => by decide⟩
theorem PpI_0 : PpI 0 1 D0 := by
  refine ⟨⟨⟨by decide, by decide, rfl, rfl⟩, ⟨by decide, by decide, fun b _ _ => by show -1 ≤ (-1 : Int) ∧ (-1 : Int) ≤ 0 ∧ -1 ≤ (-1 : Int) ∧ (-1 : Int) ≤ 0; decide⟩, rfl, fun i i0 i1 => ?_, fun i j i0 i1 j0 j1 _ _ => ?_, by decide⟩, ⟨by decide, fun c c0 c1 => ?_⟩, fun c _ _ => by show (0 : Int) ≤ 0 ∧ (0 : Int) ≤ 9999; decide, fun _ _ _ => rfl⟩
  · have e : i = 0 := Int.le_antisymm i1 i0
    rw [e]; exact UnI_0
  · have h1 : i ≤ 0 := i1
    have h2 : j ≤ 0 := j1
    omega
  · have h1 : c < 0 := c1
    omega
end Start
