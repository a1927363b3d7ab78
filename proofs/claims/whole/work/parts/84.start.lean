/-! Both at the start. -/
section Start
theorem UnI_0 : UnI 0 1 D0.2.1 R0 0 := ⟨Or.inl ⟨rfl, Or.inl rfl⟩, Or.inl rfl, Or.inl rfl, Or.inl rfl, fun h => absurd rfl h, fun _ => by decide⟩
theorem PpI_0 : PpI 0 1 D0 := by
  refine ⟨⟨⟨by decide, by decide, rfl, rfl⟩, ⟨by decide, by decide, fun b _ _ => by show -1 ≤ (-1 : Int) ∧ (-1 : Int) ≤ 0 ∧ -1 ≤ (-1 : Int) ∧ (-1 : Int) ≤ 0; decide⟩, rfl, fun i i0 i1 => ?_, fun i j i0 i1 j0 j1 _ _ => ?_, by decide⟩, ⟨by decide, fun c c0 c1 => ?_⟩, fun c _ _ => by show (0 : Int) ≤ 0 ∧ (0 : Int) ≤ 9999; decide, fun _ _ _ => rfl⟩
  · have e : i = 0 := Int.le_antisymm i1 i0
    rw [e]; exact UnI_0
  · have h1 : i ≤ 0 := i1
    have h2 : j ≤ 0 := j1
    omega
  · have h1 : c < 0 := c1
    omega
theorem sim_init {F1 F2 : St} (o1 : F1.2.2 = 109) (o3 : ∀ j, j < 7 → F1.2.1 2 j = some (3 + 10 * j)) (o4 : RepP F1 0 D0 ∧ F1.1 1 1 = 0 ∧ F1.1 1 2 = 0 ∧ F1.1 0 0 = 1) (o5 : ∀ x j, 83 ≤ x → x < 108 → F1.1 x j = iv x j)
    (m1 : Nw 109 133 (nxt F1) F2) (m2 : Str F2.2.1) (m3 : ∀ x j, 109 ≤ x → x < 133 → F2.1 x j = im x j) : Sim (nxt (nxt F2)) := by
  obtain ⟨a1, a2, a3⟩ := m1
  obtain ⟨b1, b2, b3, b4⟩ := o4
  have hx : ∀ x j, x < 109 → F2.1 x j = F1.1 x j := fun x j h => (a2 x j h).1
  have hi : ∀ x j, 83 ≤ x → x < 108 → (nxt (nxt F2)).1 x j = iv x j := fun x j h1 h2 => (hx x j (by omega)).trans (o5 x j h1 h2)
  have hm : ∀ x j, 109 ≤ x → x < 133 → (nxt (nxt F2)).1 x j = im x j := m3
  have iv0 : ∀ x j, ¬ (x = 83 ∧ j = 3) → ¬ (x = 84 ∧ j = 0) → ¬ (x = 88 ∧ j < 9) → ¬ (x = 98 ∧ (j = 0 ∨ j = 1)) → iv x j = 0 := fun x j c1 c2 c3 c4 => by
    unfold iv
    rw [if_neg (by omega), if_neg (by omega), if_neg (by omega), if_neg (by omega), if_neg (by omega)]
  have im0 : ∀ x j, ¬ (x = 109 ∧ (j = 6 ∨ j = 7 ∨ j = 19 ∨ j = 20)) → ¬ (x = 110 ∧ (j = 0 ∨ j = 1 ∨ j = 2 ∨ j = 4 ∨ j = 9 ∨ (3193 ≤ j ∧ j < 3205))) → ¬ (x = 113 ∧ j = 0) → ¬ (x = 116 ∧ j < 9) → im x j = 0 := fun x j a b c d => by
    unfold im
    rw [if_neg (by omega), if_neg (by omega), if_neg (by omega), if_neg (by omega), if_neg (by omega), if_neg (by omega), if_neg (by omega)]
  have z9 : ∀ x j, 109 ≤ x → x < 133 → ¬ (x = 109 ∧ (j = 6 ∨ j = 7 ∨ j = 19 ∨ j = 20)) → ¬ (x = 110 ∧ (j = 0 ∨ j = 1 ∨ j = 2 ∨ j = 4 ∨ j = 9 ∨ (3193 ≤ j ∧ j < 3205))) → ¬ (x = 113 ∧ j = 0) → ¬ (x = 116 ∧ j < 9) → (nxt (nxt F2)).1 x j = 0 := fun x j h1 h2 a b c d => (hm x j h1 h2).trans (im0 x j a b c d)
  have z8 : ∀ x j, 83 ≤ x → x < 108 → ¬ (x = 83 ∧ j = 3) → ¬ (x = 84 ∧ j = 0) → ¬ (x = 88 ∧ j < 9) → ¬ (x = 98 ∧ (j = 0 ∨ j = 1)) → (nxt (nxt F2)).1 x j = 0 := fun x j h1 h2 a b c d => (hi x j h1 h2).trans (iv0 x j a b c d)
  refine ⟨fun j => j, (fun _ => D0, 0, 0), 1, 0, m2, by show F2.2.2 + 1 + 1 = 135; omega, ⟨⟨fun j hj => ⟨?_, hj⟩, fun i j _ _ h => h⟩, ?_, ?_, by decide, fun j hj => ?_⟩, ⟨?_, ?_, by decide, ⟨⟨?_, fun i i0 i1 => ?_, fun i i0 i1 _ => ?_, fun b b0 b1 => ?_⟩, ⟨?_, fun j j0 j1 => ?_⟩, fun f f0 f1 => ?_, (show (0 : Int) ≤ 0 ∧ (0 : Int) ≤ 200 ∧ (0 : Int) ≤ 0 ∧ (0 : Int) ≤ 60 by decide)⟩, fun j hj => absurd hj (Nat.not_lt_zero j), fun j hj => absurd hj (Nat.not_lt_zero j)⟩, ⟨by decide, fun j _ => PpI_0⟩, ?_⟩
  · exact ((a2 2 j (by decide)).2).trans (o3 j hj)
  · exact (hx 1 1 (by decide)).trans b2
  · exact (hx 1 2 (by decide)).trans b3
  · have e : j = 0 := Nat.le_zero.mp hj
    subst e
    exact b1.eqs (fun a h1 h2 j => hx a j (by omega))
  · exact z9 109 4 (by decide) (by decide) (by decide) (by decide) (by decide) (by decide)
  · exact z9 109 5 (by decide) (by decide) (by decide) (by decide) (by decide) (by decide)
  · exact z9 110 3010 (by decide) (by decide) (by decide) (by decide) (by decide) (by decide)
  · have e : i = 0 := Int.le_antisymm i1 i0
    subst e
    exact ⟨hm 110 0 (by decide) (by decide), hm 110 1 (by decide) (by decide), hm 110 2 (by decide) (by decide), hm 110 9 (by decide) (by decide)⟩
  · have e : i = 0 := Int.le_antisymm i1 i0
    subst e
    exact ⟨hm 110 3 (by decide) (by decide), hm 110 4 (by decide) (by decide), hm 110 5 (by decide) (by decide), hm 110 6 (by decide) (by decide), hm 110 7 (by decide) (by decide), hm 110 8 (by decide) (by decide)⟩
  · have im1 : ∀ j : Nat, 3193 ≤ j → j < 3205 → im 110 j = -1 := fun j h1 h2 => by
      unfold im
      rw [if_neg (by omega), if_neg (by omega), if_neg (by omega), if_neg (by omega), if_pos (by omega)]
    exact ⟨(hm 110 _ (by decide) (by decide)).trans (im1 _ (by omega) (by omega)), (hm 110 _ (by decide) (by decide)).trans (im1 _ (by omega) (by omega))⟩
  · exact z9 110 3011 (by decide) (by decide) (by decide) (by decide) (by decide) (by decide)
  · have h1 : j < 0 := j1
    omega
  · exact z9 110 _ (by decide) (by decide) (by omega) (by omega) (by omega) (by omega)
  · have e00 : (nxt (nxt F2)).1 0 0 = 1 := (hx 0 0 (by decide)).trans b4
    refine ⟨⟨?_, Or.inr e00⟩, ⟨⟨?_, ?_, by decide, by decide⟩, fun j => ⟨?_, ?_, ?_⟩, fun s s0 s1 => ?_⟩, ⟨fun j => ?_, fun j hj => ?_, fun j => ⟨?_, ?_⟩⟩, ⟨⟨?_, ?_, ?_⟩, fun j => ⟨?_, ?_, ?_⟩⟩, ⟨⟨?_, ?_, by decide, by decide⟩, fun j => ⟨?_, ?_, ?_, ?_⟩, fun f f0 f1 => by omega, fun j hj => ?_⟩, ⟨⟨?_, ?_, ?_⟩, fun j => ?_, fun j hj => ?_⟩, ⟨?_, ?_⟩, ⟨?_, ?_⟩, ?_, ?_⟩
    · rw [e00]; exact (hm 109 6 (by decide) (by decide)).symm
    · exact hi 83 3 (by decide) (by decide)
    · exact hm 109 7 (by decide) (by decide)
    · by_cases q : j = 0
      · subst q; exact (hi 84 0 (by decide) (by decide)).trans (hm 113 0 (by decide) (by decide)).symm
      · rw [z8 84 j (by decide) (by decide) (by omega) (by omega) (by omega) (by omega), z9 113 j (by decide) (by decide) (by omega) (by omega) (by omega) (by omega)]
    · rw [z8 85 j (by decide) (by decide) (by omega) (by omega) (by omega) (by omega), z9 114 j (by decide) (by decide) (by omega) (by omega) (by omega) (by omega)]
    · rw [z8 86 j (by decide) (by decide) (by omega) (by omega) (by omega) (by omega), z9 115 j (by decide) (by decide) (by omega) (by omega) (by omega) (by omega)]
    · have e : s = 0 := by omega
      subst e
      rw [show (nxt (nxt F2)).1 113 (0 : Int).toNat = -1 from hm 113 0 (by decide) (by decide), show (nxt (nxt F2)).1 114 (0 : Int).toNat = 0 from hm 114 0 (by decide) (by decide)]
      decide
    · by_cases q : j < 9
      · have i8 : iv 88 j = 100 := by unfold iv; rw [if_neg (by omega), if_neg (by omega), if_pos ⟨rfl, q⟩]
        have m8 : im 116 j = 100 := by unfold im; rw [if_neg (by omega), if_neg (by omega), if_neg (by omega), if_neg (by omega), if_neg (by omega), if_neg (by omega), if_pos ⟨rfl, q⟩]
        rw [hi 88 j (by decide) (by decide), hm 116 j (by decide) (by decide), i8, m8]
      · rw [z8 88 j (by decide) (by decide) (by omega) (by omega) (by omega) (by omega), z9 116 j (by decide) (by decide) (by omega) (by omega) (by omega) (by omega)]
    · have m8 : im 116 j = 100 := by unfold im; rw [if_neg (by omega), if_neg (by omega), if_neg (by omega), if_neg (by omega), if_neg (by omega), if_neg (by omega), if_pos ⟨rfl, hj⟩]
      exact Or.inl ((hm 116 j (by decide) (by decide)).trans m8)
    · rw [z8 89 j (by decide) (by decide) (by omega) (by omega) (by omega) (by omega), z9 117 j (by decide) (by decide) (by omega) (by omega) (by omega) (by omega)]
    · exact Or.inl (z9 117 j (by decide) (by decide) (by omega) (by omega) (by omega) (by omega))
    · rw [z8 87 4 (by decide) (by decide) (by omega) (by omega) (by omega) (by omega), z9 109 21 (by decide) (by decide) (by omega) (by omega) (by omega) (by omega)]
    · rw [z8 87 4 (by decide) (by decide) (by omega) (by omega) (by omega) (by omega)]; decide
    · rw [z8 87 4 (by decide) (by decide) (by omega) (by omega) (by omega) (by omega)]; decide
    · rw [z8 91 j (by decide) (by decide) (by omega) (by omega) (by omega) (by omega), z9 122 j (by decide) (by decide) (by omega) (by omega) (by omega) (by omega)]
    · rw [z9 122 j (by decide) (by decide) (by omega) (by omega) (by omega) (by omega)]; decide
    · rw [z9 122 j (by decide) (by decide) (by omega) (by omega) (by omega) (by omega)]; decide
    · exact z8 92 3 (by decide) (by decide) (by omega) (by omega) (by omega) (by omega)
    · exact z9 109 13 (by decide) (by decide) (by omega) (by omega) (by omega) (by omega)
    · rw [z8 93 j (by decide) (by decide) (by omega) (by omega) (by omega) (by omega), z9 118 j (by decide) (by decide) (by omega) (by omega) (by omega) (by omega)]
    · rw [z8 94 j (by decide) (by decide) (by omega) (by omega) (by omega) (by omega), z9 119 j (by decide) (by decide) (by omega) (by omega) (by omega) (by omega)]
    · rw [z8 95 j (by decide) (by decide) (by omega) (by omega) (by omega) (by omega), z9 120 j (by decide) (by decide) (by omega) (by omega) (by omega) (by omega)]
    · exact Or.inl (z9 120 j (by decide) (by decide) (by omega) (by omega) (by omega) (by omega))
    · exact z9 120 j (by decide) (by decide) (by omega) (by omega) (by omega) (by omega)
    · rw [z8 96 1 (by decide) (by decide) (by omega) (by omega) (by omega) (by omega), z9 109 18 (by decide) (by decide) (by omega) (by omega) (by omega) (by omega)]
    · rw [z8 96 1 (by decide) (by decide) (by omega) (by omega) (by omega) (by omega)]; decide
    · rw [z8 96 1 (by decide) (by decide) (by omega) (by omega) (by omega) (by omega)]; decide
    · rw [z8 97 j (by decide) (by decide) (by omega) (by omega) (by omega) (by omega), z9 121 j (by decide) (by decide) (by omega) (by omega) (by omega) (by omega)]
    · rw [z9 121 j (by decide) (by decide) (by omega) (by omega) (by omega) (by omega)]; decide
    · exact (hi 98 0 (by decide) (by decide)).trans (hm 109 19 (by decide) (by decide)).symm
    · exact (hi 98 1 (by decide) (by decide)).trans (hm 109 20 (by decide) (by decide)).symm
    · rw [hi 98 0 (by decide) (by decide)]; decide
    · rw [hi 98 0 (by decide) (by decide)]; decide
    · rw [hi 98 1 (by decide) (by decide)]; decide
    · rw [hi 98 1 (by decide) (by decide)]; decide
end Start
