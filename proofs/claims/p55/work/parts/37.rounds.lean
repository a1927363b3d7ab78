/-! Rounds of working out, update, merge. -/
section Rounds
variable {σ : St}
theorem anyF_iff {p : Int → Bool} : ∀ (n : Nat) (i : Int), anyF p n i = true ↔ ∃ j, i ≤ j ∧ j < i + n ∧ p j = true := by
  intro n
  induction n with
  | zero => intro i; exact ⟨fun h => absurd h (by rw [anyF]; decide), fun ⟨j, a, b, _⟩ => by omega⟩
  | succ n ih =>
    intro i
    rw [anyF, Bool.or_eq_true, ih]
    refine ⟨fun h => ?_, fun ⟨j, a, b, c⟩ => ?_⟩
    · rcases h with h | ⟨j, a, b, c⟩
      · exact ⟨i, Int.le_refl _, by omega, h⟩
      · exact ⟨j, by omega, by omega, c⟩
    · by_cases e : j = i
      · exact Or.inl (e ▸ c)
      · exact Or.inr ⟨j, by omega, by omega, c⟩
theorem RepR.eqs {σ' : St} {k : Nat} {R : RowD} (h : RepR σ k R) (hF : ∀ a, 4 + 10 * k ≤ a → a ≤ 7 + 10 * k → ∀ j, σ'.1 a j = σ.1 a j) : RepR σ' k R := by
  obtain ⟨a, b, c, d⟩ := h
  refine ⟨by rw [hF _ (by omega) (by omega)]; exact a, fun w i q1 q2 q3 q4 => ?_, fun x y z => ?_, d⟩
  · unfold fA; rw [hF _ (by omega) (by omega)]; exact b w i q1 q2 q3 q4
  · rw [hF _ (by omega) (by omega), hF _ (by omega) (by omega)]; exact c x y z
theorem RepL.eqs {σ' : St} {k : Nat} {L : LogD} (h : RepL σ k L) (hF : ∀ a, 8 + 10 * k ≤ a → a ≤ 11 + 10 * k → ∀ j, σ'.1 a j = σ.1 a j) : RepL σ' k L := by
  obtain ⟨a, b, ⟨c1, c2, c3, c4⟩, d⟩ := h
  refine ⟨by rw [hF _ (by omega) (by omega)]; exact a, fun x y z => ?_, ⟨?_, ?_, fun j q => ?_, fun j q => ?_⟩, d⟩
  · rw [hF _ (by omega) (by omega), hF _ (by omega) (by omega), hF _ (by omega) (by omega)]; exact b x y z
  · rw [hF _ (by omega) (by omega)]; exact c1
  · rw [hF _ (by omega) (by omega)]; exact c2
  · rw [hF _ (by omega) (by omega)]; exact c3 j q
  · rw [hF _ (by omega) (by omega)]; exact c4 j q
theorem RepP.eqs {σ' : St} {k : Nat} {D : PapD} (h : RepP σ k D) (hF : ∀ a, 4 + 10 * k ≤ a → a ≤ 12 + 10 * k → ∀ j, σ'.1 a j = σ.1 a j) : RepP σ' k D :=
  ⟨h.1.eqs (fun a x y => hF a x (by omega)), h.2.1.eqs (fun a x y => hF a (by omega) (by omega)), fun c x y => by rw [hF _ (by omega) (by omega)]; exact h.2.2 c x y⟩
/-- results set, and little else -/
def FrX (σ σ' : St) (k : Nat) : Prop := σ'.2 = σ.2 ∧ ∀ x j : Nat, ¬ (x = 12 + 10 * k ∨ x = 90 ∨ (99 ≤ x ∧ x ≤ 108) ∨ (x = 98 ∧ 11 ≤ j ∧ j ≤ 15)) → σ'.1 x j = σ.1 x j
def FrW (σ σ' : St) (k : Nat) : Prop := σ'.2 = σ.2 ∧ ∀ x j : Nat, ¬ (x = 12 + 10 * k ∨ x = 90 ∨ (99 ≤ x ∧ x ≤ 107) ∨ (x = 98 ∧ 11 ≤ j ∧ j ≤ 15)) → σ'.1 x j = σ.1 x j
theorem FrX.refl {k : Nat} : FrX σ σ k := ⟨rfl, fun _ _ _ => rfl⟩
theorem FrX.trans {σ' σ'' : St} {k : Nat} (h : FrX σ σ' k) (h' : FrX σ' σ'' k) : FrX σ σ'' k := ⟨h'.1.trans h.1, fun x j q => (h'.2 x j q).trans (h.2 x j q)⟩
theorem FrW.refl {k : Nat} : FrW σ σ k := ⟨rfl, fun _ _ _ => rfl⟩
theorem FrW.trans {σ' σ'' : St} {k : Nat} (h : FrW σ σ' k) (h' : FrW σ' σ'' k) : FrW σ σ'' k := ⟨h'.1.trans h.1, fun x j q => (h'.2 x j q).trans (h.2 x j q)⟩
theorem LayR.eqs {σ' : St} {R : RowD} {Q KV : Int → Int} {w h : Int} (hl : LayR σ R Q KV w h) (hF : ∀ a j : Nat, 98 ≤ a → a ≤ 107 → σ'.1 a j = σ.1 a j) : LayR σ' R Q KV w h := by
  obtain ⟨y1, y2, y3, y4, y5, ⟨y6, y7, y8, y9⟩, y10⟩ := hl
  refine ⟨fun u a b c => ?_, fun q a b => ?_, fun q s a b c d => ?_, fun q a b => ?_, fun q t a b c d => ?_, ⟨?_, ?_, ?_, ?_⟩, ?_⟩
  · rw [hF _ _ (by omega) (by omega), hF _ _ (by omega) (by omega)]; exact y1 u a b c
  · rw [hF _ _ (by omega) (by omega)]; exact y2 q a b
  · rw [hF _ _ (by omega) (by omega)]; exact y3 q s a b c d
  · rw [hF _ _ (by omega) (by omega)]; exact y4 q a b
  · rw [hF _ _ (by omega) (by omega), hF _ _ (by omega) (by omega)]; exact y5 q t a b c d
  · rw [hF _ _ (by omega) (by omega)]; exact y6
  · rw [hF _ _ (by omega) (by omega)]; exact y7
  · rw [hF _ _ (by omega) (by omega)]; exact y8
  · rw [hF _ _ (by omega) (by omega), hF _ _ (by omega) (by omega)]; exact y9
  · rw [hF _ _ (by omega) (by omega)]; exact y10
end Rounds
