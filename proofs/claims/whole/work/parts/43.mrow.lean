/-! The reference: numbers set; rows opened and closed. -/
section Mod4
variable {σ : St}
def FrN (σ σ' : St) : Prop := σ'.2 = σ.2 ∧ ∀ a j : Nat, a ≠ 110 → σ'.1 a j = σ.1 a j
theorem FrN.refl : FrN σ σ := ⟨rfl, fun _ _ _ => rfl⟩
theorem FrN.trans {σ' σ'' : St} (h : FrN σ σ') (h' : FrN σ' σ'') : FrN σ σ'' := ⟨h'.1.trans h.1, fun x j q => (h'.2 x j q).trans (h.2 x j q)⟩
theorem FrN.m1 {j z : Int} : FrN σ (M1 σ 110 j z) := ⟨rfl, fun a _ q => M1_ne q⟩
theorem FrN.str {σ' : St} (h : FrN σ σ') (hS : Str σ.2.1) : Str σ'.2.1 := by rw [h.1]; exact hS
theorem FrN.past {σ' : St} {A : PastD} {D : PapD} (h : FrN σ σ') (hM : PastM σ A) (hD : RepN (cN σ') D) : PastM σ' (edA A D) := hM.now (fun a j q _ _ => h.2 a j q) hD
theorem FrN.e {σ' : St} (h : FrN σ σ') : FrE σ σ' := ⟨h.1, fun a j q => h.2 a j (by omega)⟩
theorem cN_M1 {j z x : Int} (hj : 0 ≤ j) (hx : 0 ≤ x) : cN (M1 σ 110 j z) x = if x = j then z else cN σ x := by
  unfold cN
  by_cases h : x = j
  · rw [if_pos h, h, M1_eq rfl]
  · rw [if_neg h, M1_nj (by omega)]
theorem RepNr.congr2 {c c' : Int → Int} {R : RowD} (h : RepNr c R) (hb : R.2.1 ≤ 200) (hc : ∀ x, (0 ≤ x ∧ x ≤ 3010) ∨ (3193 ≤ x ∧ x < 3205) → c' x = c x) : RepNr c' R := by
  obtain ⟨a, b, d, e⟩ := h
  refine ⟨by rw [hc _ (by omega)]; exact a, fun i q0 q1 => ?_, fun i q0 q1 q2 => ?_, fun x q0 q1 => ?_⟩
  · rw [hc _ (by omega), hc _ (by omega), hc _ (by omega), hc _ (by omega)]; exact b i q0 q1
  · rw [hc _ (by omega), hc _ (by omega), hc _ (by omega), hc _ (by omega), hc _ (by omega), hc _ (by omega)]; exact d i q0 q1 q2
  · rw [hc _ (by omega), hc _ (by omega)]; exact e x q0 q1
theorem rN_set1 {R : RowD} {u z : Int} (h : RepNr (cN σ) R) (hu : 0 ≤ u ∧ u ≤ R.2.1) (hn : R.2.1 ≤ 200) : RepNr (cN (M1 σ 110 (10 * u + 1) z)) (setR R 2 u z) := by
  obtain ⟨a, b, d, e⟩ := h
  have cm : ∀ x, 0 ≤ x → cN (M1 σ 110 (10 * u + 1) z) x = if x = 10 * u + 1 then z else cN σ x := fun x hx => cN_M1 (by omega) hx
  refine ⟨?_, fun i i0 i1 => ?_, fun i i0 i1 i2 => ?_, fun x x0 x1 => ?_⟩
  · rw [cm _ (by omega), if_neg (by omega)]; exact a
  · have i1 : i ≤ R.2.1 := i1
    obtain ⟨H0, H1, H2, H9⟩ := b i i0 i1
    rw [cm _ (by omega), cm _ (by omega), cm _ (by omega), cm _ (by omega)]
    refine ⟨?_, ?_, ?_, ?_⟩
    · have e0 : mk0 (setR R 2 u z) i = mk0 R i := by unfold mk0; rw [setR_ne (by omega), setR_ne (by omega)]
      rw [e0, if_neg (by omega)]; exact H0
    · show _ = if (2 : Int) = 2 ∧ i = u then z else R.1 2 i
      by_cases hi : i = u
      · rw [if_pos (by omega), if_pos ⟨rfl, hi⟩]
      · rw [if_neg (by omega), if_neg (fun q => hi q.2)]; exact H1
    · show _ = if (3 : Int) = 2 ∧ i = u then z else R.1 3 i
      rw [if_neg (by omega), if_neg (by omega)]; exact H2
    · show _ = if (4 : Int) = 2 ∧ i = u then z else R.1 4 i
      rw [if_neg (by omega), if_neg (by omega)]; exact H9
  · have i1 : i ≤ R.2.1 := i1
    have i2 : R.1 0 i = 47 := by rw [setR_ne (by omega)] at i2; exact i2
    obtain ⟨H3, H4, H5, H6, H7, H8⟩ := d i i0 i1 i2
    rw [cm _ (by omega), cm _ (by omega), cm _ (by omega), cm _ (by omega), cm _ (by omega), cm _ (by omega)]
    refine ⟨?_, ?_, ?_, ?_, ?_, ?_⟩
    · show _ = if (5 : Int) = 2 ∧ i = u then z else R.1 5 i
      rw [if_neg (by omega), if_neg (by omega)]; exact H3
    · show _ = if (7 : Int) = 2 ∧ i = u then z else R.1 7 i
      rw [if_neg (by omega), if_neg (by omega)]; exact H4
    · show _ = if (8 : Int) = 2 ∧ i = u then z else R.1 8 i
      rw [if_neg (by omega), if_neg (by omega)]; exact H5
    · show _ = if (9 : Int) = 2 ∧ i = u then z else R.1 9 i
      rw [if_neg (by omega), if_neg (by omega)]; exact H6
    · show _ = if (10 : Int) = 2 ∧ i = u then z else R.1 10 i
      rw [if_neg (by omega), if_neg (by omega)]; exact H7
    · show _ = if (6 : Int) = 2 ∧ i = u then z else R.1 6 i
      rw [if_neg (by omega), if_neg (by omega)]; exact H8
  · rw [cm _ (by omega), cm _ (by omega), if_neg (by omega), if_neg (by omega)]; exact e x x0 x1
theorem rN_set2 {R : RowD} {u z : Int} (h : RepNr (cN σ) R) (hu : 0 ≤ u ∧ u ≤ R.2.1) (hn : R.2.1 ≤ 200) : RepNr (cN (M1 σ 110 (10 * u + 2) z)) (setR R 3 u z) := by
  obtain ⟨a, b, d, e⟩ := h
  have cm : ∀ x, 0 ≤ x → cN (M1 σ 110 (10 * u + 2) z) x = if x = 10 * u + 2 then z else cN σ x := fun x hx => cN_M1 (by omega) hx
  refine ⟨?_, fun i i0 i1 => ?_, fun i i0 i1 i2 => ?_, fun x x0 x1 => ?_⟩
  · rw [cm _ (by omega), if_neg (by omega)]; exact a
  · have i1 : i ≤ R.2.1 := i1
    obtain ⟨H0, H1, H2, H9⟩ := b i i0 i1
    rw [cm _ (by omega), cm _ (by omega), cm _ (by omega), cm _ (by omega)]
    refine ⟨?_, ?_, ?_, ?_⟩
    · have e0 : mk0 (setR R 3 u z) i = mk0 R i := by unfold mk0; rw [setR_ne (by omega), setR_ne (by omega)]
      rw [e0, if_neg (by omega)]; exact H0
    · show _ = if (2 : Int) = 3 ∧ i = u then z else R.1 2 i
      rw [if_neg (by omega), if_neg (by omega)]; exact H1
    · show _ = if (3 : Int) = 3 ∧ i = u then z else R.1 3 i
      by_cases hi : i = u
      · rw [if_pos (by omega), if_pos ⟨rfl, hi⟩]
      · rw [if_neg (by omega), if_neg (fun q => hi q.2)]; exact H2
    · show _ = if (4 : Int) = 3 ∧ i = u then z else R.1 4 i
      rw [if_neg (by omega), if_neg (by omega)]; exact H9
  · have i1 : i ≤ R.2.1 := i1
    have i2 : R.1 0 i = 47 := by rw [setR_ne (by omega)] at i2; exact i2
    obtain ⟨H3, H4, H5, H6, H7, H8⟩ := d i i0 i1 i2
    rw [cm _ (by omega), cm _ (by omega), cm _ (by omega), cm _ (by omega), cm _ (by omega), cm _ (by omega)]
    refine ⟨?_, ?_, ?_, ?_, ?_, ?_⟩
    · show _ = if (5 : Int) = 3 ∧ i = u then z else R.1 5 i
      rw [if_neg (by omega), if_neg (by omega)]; exact H3
    · show _ = if (7 : Int) = 3 ∧ i = u then z else R.1 7 i
      rw [if_neg (by omega), if_neg (by omega)]; exact H4
    · show _ = if (8 : Int) = 3 ∧ i = u then z else R.1 8 i
      rw [if_neg (by omega), if_neg (by omega)]; exact H5
    · show _ = if (9 : Int) = 3 ∧ i = u then z else R.1 9 i
      rw [if_neg (by omega), if_neg (by omega)]; exact H6
    · show _ = if (10 : Int) = 3 ∧ i = u then z else R.1 10 i
      rw [if_neg (by omega), if_neg (by omega)]; exact H7
    · show _ = if (6 : Int) = 3 ∧ i = u then z else R.1 6 i
      rw [if_neg (by omega), if_neg (by omega)]; exact H8
  · rw [cm _ (by omega), cm _ (by omega), if_neg (by omega), if_neg (by omega)]; exact e x x0 x1
theorem rN_set9 {R : RowD} {u z : Int} (h : RepNr (cN σ) R) (hu : 0 ≤ u ∧ u ≤ R.2.1) (hn : R.2.1 ≤ 200) : RepNr (cN (M1 σ 110 (10 * u + 9) z)) (setR R 4 u z) := by
  obtain ⟨a, b, d, e⟩ := h
  have cm : ∀ x, 0 ≤ x → cN (M1 σ 110 (10 * u + 9) z) x = if x = 10 * u + 9 then z else cN σ x := fun x hx => cN_M1 (by omega) hx
  refine ⟨?_, fun i i0 i1 => ?_, fun i i0 i1 i2 => ?_, fun x x0 x1 => ?_⟩
  · rw [cm _ (by omega), if_neg (by omega)]; exact a
  · have i1 : i ≤ R.2.1 := i1
    obtain ⟨H0, H1, H2, H9⟩ := b i i0 i1
    rw [cm _ (by omega), cm _ (by omega), cm _ (by omega), cm _ (by omega)]
    refine ⟨?_, ?_, ?_, ?_⟩
    · have e0 : mk0 (setR R 4 u z) i = mk0 R i := by unfold mk0; rw [setR_ne (by omega), setR_ne (by omega)]
      rw [e0, if_neg (by omega)]; exact H0
    · show _ = if (2 : Int) = 4 ∧ i = u then z else R.1 2 i
      rw [if_neg (by omega), if_neg (by omega)]; exact H1
    · show _ = if (3 : Int) = 4 ∧ i = u then z else R.1 3 i
      rw [if_neg (by omega), if_neg (by omega)]; exact H2
    · show _ = if (4 : Int) = 4 ∧ i = u then z else R.1 4 i
      by_cases hi : i = u
      · rw [if_pos (by omega), if_pos ⟨rfl, hi⟩]
      · rw [if_neg (by omega), if_neg (fun q => hi q.2)]; exact H9
  · have i1 : i ≤ R.2.1 := i1
    have i2 : R.1 0 i = 47 := by rw [setR_ne (by omega)] at i2; exact i2
    obtain ⟨H3, H4, H5, H6, H7, H8⟩ := d i i0 i1 i2
    rw [cm _ (by omega), cm _ (by omega), cm _ (by omega), cm _ (by omega), cm _ (by omega), cm _ (by omega)]
    refine ⟨?_, ?_, ?_, ?_, ?_, ?_⟩
    · show _ = if (5 : Int) = 4 ∧ i = u then z else R.1 5 i
      rw [if_neg (by omega), if_neg (by omega)]; exact H3
    · show _ = if (7 : Int) = 4 ∧ i = u then z else R.1 7 i
      rw [if_neg (by omega), if_neg (by omega)]; exact H4
    · show _ = if (8 : Int) = 4 ∧ i = u then z else R.1 8 i
      rw [if_neg (by omega), if_neg (by omega)]; exact H5
    · show _ = if (9 : Int) = 4 ∧ i = u then z else R.1 9 i
      rw [if_neg (by omega), if_neg (by omega)]; exact H6
    · show _ = if (10 : Int) = 4 ∧ i = u then z else R.1 10 i
      rw [if_neg (by omega), if_neg (by omega)]; exact H7
    · show _ = if (6 : Int) = 4 ∧ i = u then z else R.1 6 i
      rw [if_neg (by omega), if_neg (by omega)]; exact H8
  · rw [cm _ (by omega), cm _ (by omega), if_neg (by omega), if_neg (by omega)]; exact e x x0 x1
theorem rN_set3 {R : RowD} {u z : Int} (h : RepNr (cN σ) R) (hu : 0 ≤ u ∧ u ≤ R.2.1) (hn : R.2.1 ≤ 200) : RepNr (cN (M1 σ 110 (10 * u + 3) z)) (setR R 5 u z) := by
  obtain ⟨a, b, d, e⟩ := h
  have cm : ∀ x, 0 ≤ x → cN (M1 σ 110 (10 * u + 3) z) x = if x = 10 * u + 3 then z else cN σ x := fun x hx => cN_M1 (by omega) hx
  refine ⟨?_, fun i i0 i1 => ?_, fun i i0 i1 i2 => ?_, fun x x0 x1 => ?_⟩
  · rw [cm _ (by omega), if_neg (by omega)]; exact a
  · have i1 : i ≤ R.2.1 := i1
    obtain ⟨H0, H1, H2, H9⟩ := b i i0 i1
    rw [cm _ (by omega), cm _ (by omega), cm _ (by omega), cm _ (by omega)]
    refine ⟨?_, ?_, ?_, ?_⟩
    · have e0 : mk0 (setR R 5 u z) i = mk0 R i := by unfold mk0; rw [setR_ne (by omega), setR_ne (by omega)]
      rw [e0, if_neg (by omega)]; exact H0
    · show _ = if (2 : Int) = 5 ∧ i = u then z else R.1 2 i
      rw [if_neg (by omega), if_neg (by omega)]; exact H1
    · show _ = if (3 : Int) = 5 ∧ i = u then z else R.1 3 i
      rw [if_neg (by omega), if_neg (by omega)]; exact H2
    · show _ = if (4 : Int) = 5 ∧ i = u then z else R.1 4 i
      rw [if_neg (by omega), if_neg (by omega)]; exact H9
  · have i1 : i ≤ R.2.1 := i1
    have i2 : R.1 0 i = 47 := by rw [setR_ne (by omega)] at i2; exact i2
    obtain ⟨H3, H4, H5, H6, H7, H8⟩ := d i i0 i1 i2
    rw [cm _ (by omega), cm _ (by omega), cm _ (by omega), cm _ (by omega), cm _ (by omega), cm _ (by omega)]
    refine ⟨?_, ?_, ?_, ?_, ?_, ?_⟩
    · show _ = if (5 : Int) = 5 ∧ i = u then z else R.1 5 i
      by_cases hi : i = u
      · rw [if_pos (by omega), if_pos ⟨rfl, hi⟩]
      · rw [if_neg (by omega), if_neg (fun q => hi q.2)]; exact H3
    · show _ = if (7 : Int) = 5 ∧ i = u then z else R.1 7 i
      rw [if_neg (by omega), if_neg (by omega)]; exact H4
    · show _ = if (8 : Int) = 5 ∧ i = u then z else R.1 8 i
      rw [if_neg (by omega), if_neg (by omega)]; exact H5
    · show _ = if (9 : Int) = 5 ∧ i = u then z else R.1 9 i
      rw [if_neg (by omega), if_neg (by omega)]; exact H6
    · show _ = if (10 : Int) = 5 ∧ i = u then z else R.1 10 i
      rw [if_neg (by omega), if_neg (by omega)]; exact H7
    · show _ = if (6 : Int) = 5 ∧ i = u then z else R.1 6 i
      rw [if_neg (by omega), if_neg (by omega)]; exact H8
  · rw [cm _ (by omega), cm _ (by omega), if_neg (by omega), if_neg (by omega)]; exact e x x0 x1
theorem rN_set4 {R : RowD} {u z : Int} (h : RepNr (cN σ) R) (hu : 0 ≤ u ∧ u ≤ R.2.1) (hn : R.2.1 ≤ 200) : RepNr (cN (M1 σ 110 (10 * u + 4) z)) (setR R 7 u z) := by
  obtain ⟨a, b, d, e⟩ := h
  have cm : ∀ x, 0 ≤ x → cN (M1 σ 110 (10 * u + 4) z) x = if x = 10 * u + 4 then z else cN σ x := fun x hx => cN_M1 (by omega) hx
  refine ⟨?_, fun i i0 i1 => ?_, fun i i0 i1 i2 => ?_, fun x x0 x1 => ?_⟩
  · rw [cm _ (by omega), if_neg (by omega)]; exact a
  · have i1 : i ≤ R.2.1 := i1
    obtain ⟨H0, H1, H2, H9⟩ := b i i0 i1
    rw [cm _ (by omega), cm _ (by omega), cm _ (by omega), cm _ (by omega)]
    refine ⟨?_, ?_, ?_, ?_⟩
    · have e0 : mk0 (setR R 7 u z) i = mk0 R i := by unfold mk0; rw [setR_ne (by omega), setR_ne (by omega)]
      rw [e0, if_neg (by omega)]; exact H0
    · show _ = if (2 : Int) = 7 ∧ i = u then z else R.1 2 i
      rw [if_neg (by omega), if_neg (by omega)]; exact H1
    · show _ = if (3 : Int) = 7 ∧ i = u then z else R.1 3 i
      rw [if_neg (by omega), if_neg (by omega)]; exact H2
    · show _ = if (4 : Int) = 7 ∧ i = u then z else R.1 4 i
      rw [if_neg (by omega), if_neg (by omega)]; exact H9
  · have i1 : i ≤ R.2.1 := i1
    have i2 : R.1 0 i = 47 := by rw [setR_ne (by omega)] at i2; exact i2
    obtain ⟨H3, H4, H5, H6, H7, H8⟩ := d i i0 i1 i2
    rw [cm _ (by omega), cm _ (by omega), cm _ (by omega), cm _ (by omega), cm _ (by omega), cm _ (by omega)]
    refine ⟨?_, ?_, ?_, ?_, ?_, ?_⟩
    · show _ = if (5 : Int) = 7 ∧ i = u then z else R.1 5 i
      rw [if_neg (by omega), if_neg (by omega)]; exact H3
    · show _ = if (7 : Int) = 7 ∧ i = u then z else R.1 7 i
      by_cases hi : i = u
      · rw [if_pos (by omega), if_pos ⟨rfl, hi⟩]
      · rw [if_neg (by omega), if_neg (fun q => hi q.2)]; exact H4
    · show _ = if (8 : Int) = 7 ∧ i = u then z else R.1 8 i
      rw [if_neg (by omega), if_neg (by omega)]; exact H5
    · show _ = if (9 : Int) = 7 ∧ i = u then z else R.1 9 i
      rw [if_neg (by omega), if_neg (by omega)]; exact H6
    · show _ = if (10 : Int) = 7 ∧ i = u then z else R.1 10 i
      rw [if_neg (by omega), if_neg (by omega)]; exact H7
    · show _ = if (6 : Int) = 7 ∧ i = u then z else R.1 6 i
      rw [if_neg (by omega), if_neg (by omega)]; exact H8
  · rw [cm _ (by omega), cm _ (by omega), if_neg (by omega), if_neg (by omega)]; exact e x x0 x1
theorem rN_set5 {R : RowD} {u z : Int} (h : RepNr (cN σ) R) (hu : 0 ≤ u ∧ u ≤ R.2.1) (hn : R.2.1 ≤ 200) : RepNr (cN (M1 σ 110 (10 * u + 5) z)) (setR R 8 u z) := by
  obtain ⟨a, b, d, e⟩ := h
  have cm : ∀ x, 0 ≤ x → cN (M1 σ 110 (10 * u + 5) z) x = if x = 10 * u + 5 then z else cN σ x := fun x hx => cN_M1 (by omega) hx
  refine ⟨?_, fun i i0 i1 => ?_, fun i i0 i1 i2 => ?_, fun x x0 x1 => ?_⟩
  · rw [cm _ (by omega), if_neg (by omega)]; exact a
  · have i1 : i ≤ R.2.1 := i1
    obtain ⟨H0, H1, H2, H9⟩ := b i i0 i1
    rw [cm _ (by omega), cm _ (by omega), cm _ (by omega), cm _ (by omega)]
    refine ⟨?_, ?_, ?_, ?_⟩
    · have e0 : mk0 (setR R 8 u z) i = mk0 R i := by unfold mk0; rw [setR_ne (by omega), setR_ne (by omega)]
      rw [e0, if_neg (by omega)]; exact H0
    · show _ = if (2 : Int) = 8 ∧ i = u then z else R.1 2 i
      rw [if_neg (by omega), if_neg (by omega)]; exact H1
    · show _ = if (3 : Int) = 8 ∧ i = u then z else R.1 3 i
      rw [if_neg (by omega), if_neg (by omega)]; exact H2
    · show _ = if (4 : Int) = 8 ∧ i = u then z else R.1 4 i
      rw [if_neg (by omega), if_neg (by omega)]; exact H9
  · have i1 : i ≤ R.2.1 := i1
    have i2 : R.1 0 i = 47 := by rw [setR_ne (by omega)] at i2; exact i2
    obtain ⟨H3, H4, H5, H6, H7, H8⟩ := d i i0 i1 i2
    rw [cm _ (by omega), cm _ (by omega), cm _ (by omega), cm _ (by omega), cm _ (by omega), cm _ (by omega)]
    refine ⟨?_, ?_, ?_, ?_, ?_, ?_⟩
    · show _ = if (5 : Int) = 8 ∧ i = u then z else R.1 5 i
      rw [if_neg (by omega), if_neg (by omega)]; exact H3
    · show _ = if (7 : Int) = 8 ∧ i = u then z else R.1 7 i
      rw [if_neg (by omega), if_neg (by omega)]; exact H4
    · show _ = if (8 : Int) = 8 ∧ i = u then z else R.1 8 i
      by_cases hi : i = u
      · rw [if_pos (by omega), if_pos ⟨rfl, hi⟩]
      · rw [if_neg (by omega), if_neg (fun q => hi q.2)]; exact H5
    · show _ = if (9 : Int) = 8 ∧ i = u then z else R.1 9 i
      rw [if_neg (by omega), if_neg (by omega)]; exact H6
    · show _ = if (10 : Int) = 8 ∧ i = u then z else R.1 10 i
      rw [if_neg (by omega), if_neg (by omega)]; exact H7
    · show _ = if (6 : Int) = 8 ∧ i = u then z else R.1 6 i
      rw [if_neg (by omega), if_neg (by omega)]; exact H8
  · rw [cm _ (by omega), cm _ (by omega), if_neg (by omega), if_neg (by omega)]; exact e x x0 x1
theorem rN_set6 {R : RowD} {u z : Int} (h : RepNr (cN σ) R) (hu : 0 ≤ u ∧ u ≤ R.2.1) (hn : R.2.1 ≤ 200) : RepNr (cN (M1 σ 110 (10 * u + 6) z)) (setR R 9 u z) := by
  obtain ⟨a, b, d, e⟩ := h
  have cm : ∀ x, 0 ≤ x → cN (M1 σ 110 (10 * u + 6) z) x = if x = 10 * u + 6 then z else cN σ x := fun x hx => cN_M1 (by omega) hx
  refine ⟨?_, fun i i0 i1 => ?_, fun i i0 i1 i2 => ?_, fun x x0 x1 => ?_⟩
  · rw [cm _ (by omega), if_neg (by omega)]; exact a
  · have i1 : i ≤ R.2.1 := i1
    obtain ⟨H0, H1, H2, H9⟩ := b i i0 i1
    rw [cm _ (by omega), cm _ (by omega), cm _ (by omega), cm _ (by omega)]
    refine ⟨?_, ?_, ?_, ?_⟩
    · have e0 : mk0 (setR R 9 u z) i = mk0 R i := by unfold mk0; rw [setR_ne (by omega), setR_ne (by omega)]
      rw [e0, if_neg (by omega)]; exact H0
    · show _ = if (2 : Int) = 9 ∧ i = u then z else R.1 2 i
      rw [if_neg (by omega), if_neg (by omega)]; exact H1
    · show _ = if (3 : Int) = 9 ∧ i = u then z else R.1 3 i
      rw [if_neg (by omega), if_neg (by omega)]; exact H2
    · show _ = if (4 : Int) = 9 ∧ i = u then z else R.1 4 i
      rw [if_neg (by omega), if_neg (by omega)]; exact H9
  · have i1 : i ≤ R.2.1 := i1
    have i2 : R.1 0 i = 47 := by rw [setR_ne (by omega)] at i2; exact i2
    obtain ⟨H3, H4, H5, H6, H7, H8⟩ := d i i0 i1 i2
    rw [cm _ (by omega), cm _ (by omega), cm _ (by omega), cm _ (by omega), cm _ (by omega), cm _ (by omega)]
    refine ⟨?_, ?_, ?_, ?_, ?_, ?_⟩
    · show _ = if (5 : Int) = 9 ∧ i = u then z else R.1 5 i
      rw [if_neg (by omega), if_neg (by omega)]; exact H3
    · show _ = if (7 : Int) = 9 ∧ i = u then z else R.1 7 i
      rw [if_neg (by omega), if_neg (by omega)]; exact H4
    · show _ = if (8 : Int) = 9 ∧ i = u then z else R.1 8 i
      rw [if_neg (by omega), if_neg (by omega)]; exact H5
    · show _ = if (9 : Int) = 9 ∧ i = u then z else R.1 9 i
      by_cases hi : i = u
      · rw [if_pos (by omega), if_pos ⟨rfl, hi⟩]
      · rw [if_neg (by omega), if_neg (fun q => hi q.2)]; exact H6
    · show _ = if (10 : Int) = 9 ∧ i = u then z else R.1 10 i
      rw [if_neg (by omega), if_neg (by omega)]; exact H7
    · show _ = if (6 : Int) = 9 ∧ i = u then z else R.1 6 i
      rw [if_neg (by omega), if_neg (by omega)]; exact H8
  · rw [cm _ (by omega), cm _ (by omega), if_neg (by omega), if_neg (by omega)]; exact e x x0 x1
theorem rN_set7 {R : RowD} {u z : Int} (h : RepNr (cN σ) R) (hu : 0 ≤ u ∧ u ≤ R.2.1) (hn : R.2.1 ≤ 200) : RepNr (cN (M1 σ 110 (10 * u + 7) z)) (setR R 10 u z) := by
  obtain ⟨a, b, d, e⟩ := h
  have cm : ∀ x, 0 ≤ x → cN (M1 σ 110 (10 * u + 7) z) x = if x = 10 * u + 7 then z else cN σ x := fun x hx => cN_M1 (by omega) hx
  refine ⟨?_, fun i i0 i1 => ?_, fun i i0 i1 i2 => ?_, fun x x0 x1 => ?_⟩
  · rw [cm _ (by omega), if_neg (by omega)]; exact a
  · have i1 : i ≤ R.2.1 := i1
    obtain ⟨H0, H1, H2, H9⟩ := b i i0 i1
    rw [cm _ (by omega), cm _ (by omega), cm _ (by omega), cm _ (by omega)]
    refine ⟨?_, ?_, ?_, ?_⟩
    · have e0 : mk0 (setR R 10 u z) i = mk0 R i := by unfold mk0; rw [setR_ne (by omega), setR_ne (by omega)]
      rw [e0, if_neg (by omega)]; exact H0
    · show _ = if (2 : Int) = 10 ∧ i = u then z else R.1 2 i
      rw [if_neg (by omega), if_neg (by omega)]; exact H1
    · show _ = if (3 : Int) = 10 ∧ i = u then z else R.1 3 i
      rw [if_neg (by omega), if_neg (by omega)]; exact H2
    · show _ = if (4 : Int) = 10 ∧ i = u then z else R.1 4 i
      rw [if_neg (by omega), if_neg (by omega)]; exact H9
  · have i1 : i ≤ R.2.1 := i1
    have i2 : R.1 0 i = 47 := by rw [setR_ne (by omega)] at i2; exact i2
    obtain ⟨H3, H4, H5, H6, H7, H8⟩ := d i i0 i1 i2
    rw [cm _ (by omega), cm _ (by omega), cm _ (by omega), cm _ (by omega), cm _ (by omega), cm _ (by omega)]
    refine ⟨?_, ?_, ?_, ?_, ?_, ?_⟩
    · show _ = if (5 : Int) = 10 ∧ i = u then z else R.1 5 i
      rw [if_neg (by omega), if_neg (by omega)]; exact H3
    · show _ = if (7 : Int) = 10 ∧ i = u then z else R.1 7 i
      rw [if_neg (by omega), if_neg (by omega)]; exact H4
    · show _ = if (8 : Int) = 10 ∧ i = u then z else R.1 8 i
      rw [if_neg (by omega), if_neg (by omega)]; exact H5
    · show _ = if (9 : Int) = 10 ∧ i = u then z else R.1 9 i
      rw [if_neg (by omega), if_neg (by omega)]; exact H6
    · show _ = if (10 : Int) = 10 ∧ i = u then z else R.1 10 i
      by_cases hi : i = u
      · rw [if_pos (by omega), if_pos ⟨rfl, hi⟩]
      · rw [if_neg (by omega), if_neg (fun q => hi q.2)]; exact H7
    · show _ = if (6 : Int) = 10 ∧ i = u then z else R.1 6 i
      rw [if_neg (by omega), if_neg (by omega)]; exact H8
  · rw [cm _ (by omega), cm _ (by omega), if_neg (by omega), if_neg (by omega)]; exact e x x0 x1
theorem rN_set8 {R : RowD} {u z : Int} (h : RepNr (cN σ) R) (hu : 0 ≤ u ∧ u ≤ R.2.1) (hn : R.2.1 ≤ 200) : RepNr (cN (M1 σ 110 (10 * u + 8) z)) (setR R 6 u z) := by
  obtain ⟨a, b, d, e⟩ := h
  have cm : ∀ x, 0 ≤ x → cN (M1 σ 110 (10 * u + 8) z) x = if x = 10 * u + 8 then z else cN σ x := fun x hx => cN_M1 (by omega) hx
  refine ⟨?_, fun i i0 i1 => ?_, fun i i0 i1 i2 => ?_, fun x x0 x1 => ?_⟩
  · rw [cm _ (by omega), if_neg (by omega)]; exact a
  · have i1 : i ≤ R.2.1 := i1
    obtain ⟨H0, H1, H2, H9⟩ := b i i0 i1
    rw [cm _ (by omega), cm _ (by omega), cm _ (by omega), cm _ (by omega)]
    refine ⟨?_, ?_, ?_, ?_⟩
    · have e0 : mk0 (setR R 6 u z) i = mk0 R i := by unfold mk0; rw [setR_ne (by omega), setR_ne (by omega)]
      rw [e0, if_neg (by omega)]; exact H0
    · show _ = if (2 : Int) = 6 ∧ i = u then z else R.1 2 i
      rw [if_neg (by omega), if_neg (by omega)]; exact H1
    · show _ = if (3 : Int) = 6 ∧ i = u then z else R.1 3 i
      rw [if_neg (by omega), if_neg (by omega)]; exact H2
    · show _ = if (4 : Int) = 6 ∧ i = u then z else R.1 4 i
      rw [if_neg (by omega), if_neg (by omega)]; exact H9
  · have i1 : i ≤ R.2.1 := i1
    have i2 : R.1 0 i = 47 := by rw [setR_ne (by omega)] at i2; exact i2
    obtain ⟨H3, H4, H5, H6, H7, H8⟩ := d i i0 i1 i2
    rw [cm _ (by omega), cm _ (by omega), cm _ (by omega), cm _ (by omega), cm _ (by omega), cm _ (by omega)]
    refine ⟨?_, ?_, ?_, ?_, ?_, ?_⟩
    · show _ = if (5 : Int) = 6 ∧ i = u then z else R.1 5 i
      rw [if_neg (by omega), if_neg (by omega)]; exact H3
    · show _ = if (7 : Int) = 6 ∧ i = u then z else R.1 7 i
      rw [if_neg (by omega), if_neg (by omega)]; exact H4
    · show _ = if (8 : Int) = 6 ∧ i = u then z else R.1 8 i
      rw [if_neg (by omega), if_neg (by omega)]; exact H5
    · show _ = if (9 : Int) = 6 ∧ i = u then z else R.1 9 i
      rw [if_neg (by omega), if_neg (by omega)]; exact H6
    · show _ = if (10 : Int) = 6 ∧ i = u then z else R.1 10 i
      rw [if_neg (by omega), if_neg (by omega)]; exact H7
    · show _ = if (6 : Int) = 6 ∧ i = u then z else R.1 6 i
      by_cases hi : i = u
      · rw [if_pos (by omega), if_pos ⟨rfl, hi⟩]
      · rw [if_neg (by omega), if_neg (fun q => hi q.2)]; exact H8
  · rw [cm _ (by omega), cm _ (by omega), if_neg (by omega), if_neg (by omega)]; exact e x x0 x1
theorem RepN.row {σ' : St} {D : PapD} {R : RowD} (h : RepN (cN σ) D) (hR : RepNr (cN σ') R) (hn : 0 ≤ R.2.1 ∧ R.2.1 ≤ 200) (hc : ∀ x, (3011 ≤ x ∧ x < 3193) ∨ (3205 ≤ x ∧ x < 3225) → cN σ' x = cN σ x) : RepN (cN σ') (R, D.2) :=
  ⟨hR, h.2.1.congr h.2.2.2.2.2.2 (fun x a b => hc x (by omega)), h.2.2.1.congr (fun x a b => hc x (by omega)), hn.1, hn.2, h.2.2.2.2.2⟩
theorem m_many0 (hS : Str σ.2.1) : Con 0 mX10_many 0 0 [vA 109] σ (vI (σ.1 110 (3010 : Int).toNat), σ) := by
  refine con_of_go mfX10_many.1 trivial (Nat.le_of_ble_eq_true rfl) rfl (by decide) ?_
  show Go _ _ _ _ 0 [vA _] [] _ _
  refine go_aload_n (at_of tX10_many 0 0 rfl) rfl ?_
  refine go_getr (q := 110) fl_X10_7 rfl G_109 (by first | exact (hS _ _ rfl).trans rfl | exact (hS1 _ _ rfl).trans rfl | exact (hS2 _ _ rfl).trans rfl | exact (hS3 _ _ rfl).trans rfl | exact (hS4 _ _ rfl).trans rfl) (at_of tX10_many 0 1 rfl) ?_
  refine go_sipush (at_of tX10_many 0 2 rfl) (by decide) ?_
  refine go_iald G_110 (by omega) (by omega) (at_of tX10_many 0 3 rfl) ?_
  exact go_reti (at_of tX10_many 0 4 rfl) rfl
theorem m_newChange (hS : Str σ.2.1) {D : PapD} (hN : RepN (cN σ) D) {a w : Int} (hl : D.2.1.1 < 60) : Con 0 mX10_newChange 0 0 [vA 109, vI a, vI w] σ (vI D.2.1.1, (M1 (M1 (M1 (M1 σ 110 (3013 + D.2.1.1) a) 110 (3073 + D.2.1.1) 119) 110 (3133 + D.2.1.1) w) 110 3011 (D.2.1.1 + 1))) ∧ RepN (cN (M1 (M1 (M1 (M1 σ 110 (3013 + D.2.1.1) a) 110 (3073 + D.2.1.1) 119) 110 (3133 + D.2.1.1) w) 110 3011 (D.2.1.1 + 1))) (D.1, enrL D.2.1 w a, D.2.2) ∧ FrN σ (M1 (M1 (M1 (M1 σ 110 (3013 + D.2.1.1) a) 110 (3073 + D.2.1.1) 119) 110 (3133 + D.2.1.1) w) 110 3011 (D.2.1.1 + 1)) := by
  obtain ⟨b1, b2, b3, b4⟩ := id hN.2.2.2
  have hcc : σ.1 110 (3011 : Int).toNat = D.2.1.1 := hN.2.1.1
  have hc3 : (M1 (M1 (M1 σ 110 (3013 + D.2.1.1) a) 110 (3073 + D.2.1.1) 119) 110 (3133 + D.2.1.1) w).1 110 (3011 : Int).toNat = D.2.1.1 := by
    rw [M1_nj (by omega), M1_nj (by omega), M1_nj (by omega)]; exact hcc
  have cm : ∀ x, 0 ≤ x → cN (M1 (M1 (M1 (M1 σ 110 (3013 + D.2.1.1) a) 110 (3073 + D.2.1.1) 119) 110 (3133 + D.2.1.1) w) 110 3011 (D.2.1.1 + 1)) x = if x = 3011 then D.2.1.1 + 1 else if x = 3133 + D.2.1.1 then w else if x = 3073 + D.2.1.1 then 119 else if x = 3013 + D.2.1.1 then a else cN σ x := fun x hx => by
    rw [cN_M1 (by omega) hx, cN_M1 (by omega) hx, cN_M1 (by omega) hx, cN_M1 (by omega) hx]
  refine ⟨?_, ⟨hN.1.congr2 b2 (fun x hx => ?_), ⟨?_, fun j j0 j1 => ?_⟩, hN.2.2.1.congr (fun x x0 x1 => ?_), b1, b2, by show 0 ≤ D.2.1.1 + 1; omega, by show D.2.1.1 + 1 ≤ 60; omega⟩, ((FrN.m1.trans FrN.m1).trans FrN.m1).trans FrN.m1⟩
  · skip
    refine con_of_go mfX10_newChange.1 trivial (Nat.le_of_ble_eq_true rfl) rfl (by decide) ?_
    show Go _ _ _ _ 0 [vA _, vI _, vI _, vT 9 0] [] _ _
    refine go_aload_n (at_of tX10_newChange 0 0 rfl) rfl ?_
    refine go_getr (q := 110) fl_X10_7 rfl G_109 (by first | exact (hS _ _ rfl).trans rfl | exact (hS1 _ _ rfl).trans rfl | exact (hS2 _ _ rfl).trans rfl | exact (hS3 _ _ rfl).trans rfl | exact (hS4 _ _ rfl).trans rfl) (at_of tX10_newChange 0 1 rfl) ?_
    refine go_sipush (at_of tX10_newChange 0 2 rfl) (by decide) ?_
    refine go_iald G_110 (by omega) (by omega) (at_of tX10_newChange 0 3 rfl) ?_
    rw [hcc]
    refine go_istore_n (at_of tX10_newChange 0 4 rfl) rfl rfl ?_
    refine go_aload_n (at_of tX10_newChange 0 5 rfl) rfl ?_
    refine go_getr (q := 110) fl_X10_7 rfl G_109 (by first | exact (hS _ _ rfl).trans rfl | exact (hS1 _ _ rfl).trans rfl | exact (hS2 _ _ rfl).trans rfl | exact (hS3 _ _ rfl).trans rfl | exact (hS4 _ _ rfl).trans rfl) (at_of tX10_newChange 0 6 rfl) ?_
    refine go_sipush (at_of tX10_newChange 0 7 rfl) (by decide) ?_
    refine go_iload_n (at_of tX10_newChange 0 8 rfl) rfl ?_
    refine go_iadd (at_of tX10_newChange 0 9 rfl) (by unfold in32; omega) ?_
    refine go_iload_n (at_of tX10_newChange 0 10 rfl) rfl ?_
    refine go_iast1 G_110 (by omega) (by omega) (at_of tX10_newChange 0 11 rfl) ?_
    refine go_aload_n (at_of tX10_newChange 0 12 rfl) rfl ?_
    refine go_getr (q := 110) fl_X10_7 rfl G_109 (by first | exact (hS _ _ rfl).trans rfl | exact (hS1 _ _ rfl).trans rfl | exact (hS2 _ _ rfl).trans rfl | exact (hS3 _ _ rfl).trans rfl | exact (hS4 _ _ rfl).trans rfl) (at_of tX10_newChange 0 13 rfl) ?_
    refine go_sipush (at_of tX10_newChange 0 14 rfl) (by decide) ?_
    refine go_iload_n (at_of tX10_newChange 0 15 rfl) rfl ?_
    refine go_iadd (at_of tX10_newChange 1 0 rfl) (by unfold in32; omega) ?_
    refine go_bipush (at_of tX10_newChange 1 1 rfl) (by decide) ?_
    refine go_iast1 G_110 (by omega) (by omega) (at_of tX10_newChange 1 2 rfl) ?_
    refine go_aload_n (at_of tX10_newChange 1 3 rfl) rfl ?_
    refine go_getr (q := 110) fl_X10_7 rfl G_109 (by first | exact (hS _ _ rfl).trans rfl | exact (hS1 _ _ rfl).trans rfl | exact (hS2 _ _ rfl).trans rfl | exact (hS3 _ _ rfl).trans rfl | exact (hS4 _ _ rfl).trans rfl) (at_of tX10_newChange 1 4 rfl) ?_
    refine go_sipush (at_of tX10_newChange 1 5 rfl) (by decide) ?_
    refine go_iload_n (at_of tX10_newChange 1 6 rfl) rfl ?_
    refine go_iadd (at_of tX10_newChange 1 7 rfl) (by unfold in32; omega) ?_
    refine go_iload_n (at_of tX10_newChange 1 8 rfl) rfl ?_
    refine go_iast1 G_110 (by omega) (by omega) (at_of tX10_newChange 1 9 rfl) ?_
    refine go_aload_n (at_of tX10_newChange 1 10 rfl) rfl ?_
    refine go_getr (q := 110) fl_X10_7 rfl G_109 (by first | exact (hS _ _ rfl).trans rfl | exact (hS1 _ _ rfl).trans rfl | exact (hS2 _ _ rfl).trans rfl | exact (hS3 _ _ rfl).trans rfl | exact (hS4 _ _ rfl).trans rfl) (at_of tX10_newChange 1 11 rfl) ?_
    refine go_sipush (at_of tX10_newChange 1 12 rfl) (by decide) ?_
    refine go_dup2 (at_of tX10_newChange 1 13 rfl) rfl rfl ?_
    refine go_iald G_110 (by omega) (by omega) (at_of tX10_newChange 1 14 rfl) ?_
    rw [hc3]
    refine go_iconst (at_of tX10_newChange 1 15 rfl) (by unfold in32; omega) ?_
    refine go_iadd (at_of tX10_newChange 2 0 rfl) (by unfold in32; omega) ?_
    refine go_iast1 G_110 (by omega) (by omega) (at_of tX10_newChange 2 1 rfl) ?_
    refine go_iload_n (at_of tX10_newChange 2 2 rfl) rfl ?_
    first | exact go_reti (at_of tX10_newChange 2 3 rfl) rfl | exact go_reti (at_of tX10_newChange 2 3 rfl) (le_i (by omega)) | exact go_reti (at_of tX10_newChange 2 3 rfl) (le_i (by first | exact bI_t (by omega) | exact bI_f (by omega)))
  · rw [cm _ (by omega), if_neg (by omega), if_neg (by omega), if_neg (by omega), if_neg (by omega)]
  · rw [cm _ (by omega), if_pos rfl]; rfl
  · have j1 : j < D.2.1.1 + 1 := j1
    rw [cm _ (by omega), cm _ (by omega), cm _ (by omega)]
    show _ = (if j = D.2.1.1 then a else D.2.1.2.2.1 j) ∧ _ = (if j = D.2.1.1 then 119 else D.2.1.2.2.2 j) ∧ _ = (if j = D.2.1.1 then w else D.2.1.2.1 j)
    by_cases hj : j = D.2.1.1
    · rw [if_pos hj, if_pos hj, if_pos hj, if_neg (by omega), if_neg (by omega), if_neg (by omega), if_pos (by omega), if_neg (by omega), if_neg (by omega), if_pos (by omega), if_neg (by omega), if_pos (by omega)]
      exact ⟨rfl, rfl, rfl⟩
    · rw [if_neg hj, if_neg hj, if_neg hj, if_neg (by omega), if_neg (by omega), if_neg (by omega), if_neg (by omega), if_neg (by omega), if_neg (by omega), if_neg (by omega), if_neg (by omega), if_neg (by omega), if_neg (by omega), if_neg (by omega), if_neg (by omega)]
      exact hN.2.1.2 j j0 (by omega)
  · rw [cm _ (by omega), if_neg (by omega), if_neg (by omega), if_neg (by omega), if_neg (by omega)]
def bv (t : Int) : Int := if t = 3 ∨ t = 5 ∨ t = 6 ∨ t = 7 ∨ t = 8 then 0 else -1
def baS (σ : St) (u t : Int) : St := (fun a j => if a = 110 ∧ 10 * u ≤ (j : Int) ∧ (j : Int) < 10 * u + t then bv ((j : Int) - 10 * u) else σ.1 a j, σ.2.1, σ.2.2)
theorem baS_0 {u : Int} : baS σ u 0 = σ := by
  unfold baS
  refine Prod.ext (funext fun a => funext fun i => ?_) rfl
  dsimp only
  rw [if_neg (by omega)]
theorem baS_s {u t v : Int} (hu : 0 ≤ u) (ht : 0 ≤ t) (hv : v = bv t) : M1 (baS σ u t) 110 (10 * u + t) v = baS σ u (t + 1) := by
  unfold M1 baS upd2
  refine Prod.ext (funext fun a => funext fun i => ?_) rfl
  dsimp only
  by_cases ha : a = 110
  · by_cases hi : i = (10 * u + t).toNat
    · rw [if_pos ⟨ha, hi⟩, if_pos ⟨ha, by omega, by omega⟩, hv, show (i : Int) - 10 * u = t by omega]
    · rw [if_neg (fun q => hi q.2)]
      by_cases hr : 10 * u ≤ (i : Int) ∧ (i : Int) < 10 * u + t
      · rw [if_pos ⟨ha, hr⟩, if_pos ⟨ha, by omega, by omega⟩]
      · rw [if_neg (fun q => hr q.2), if_neg (by omega)]
  · rw [if_neg (fun q => ha q.1), if_neg (fun q => ha q.1), if_neg (fun q => ha q.1)]
theorem baS_at {u x : Int} (hu : 0 ≤ u) (hx : 0 ≤ x) : cN (baS σ u 10) x = if 10 * u ≤ x ∧ x < 10 * u + 10 then bv (x - 10 * u) else cN σ x := by
  unfold cN baS
  dsimp only
  by_cases h : 10 * u ≤ x ∧ x < 10 * u + 10
  · rw [if_pos ⟨rfl, by omega, by omega⟩, if_pos h, show ((x.toNat : Nat) : Int) = x by omega]
  · rw [if_neg (by omega), if_neg h]
theorem baS_frn {u t : Int} : FrN σ (baS σ u t) := ⟨rfl, fun a j q => if_neg (fun z => q z.1)⟩
theorem m_bares (hS : Str σ.2.1) {u : Int} (hu : 0 ≤ u ∧ u ≤ 300) : Con 1 mX10_bares 0 0 [vA 109, vI u] σ (vT 8 0, baS σ u 10) := by
  have key : ∀ (m : Nat) (b : Nat × Nat) (t : Int), 0 ≤ t → t + m = 10 → Go (fun _ => 0) 1 mX10_bares b 2 [vA 109, vI u, vI t] [] (baS σ u t) (vT 8 0, baS σ u 10) := by
    intro m
    induction m with
    | zero =>
      intro b t h0 h1
      obtain rfl : t = 10 := by omega
      refine go_iload_n (at_of tX10_bares 0 2 rfl) rfl ?_
      refine go_bipush (at_of tX10_bares 0 3 rfl) (by decide) ?_
      refine go_icmp_ge (tgt := 53) (at_of tX10_bares 0 4 rfl) (by decide) (fun h5 => ?_) (fun h5 => ?_)
      rotate_left
      · exfalso; omega
      exact go_retv (at_of tX10_bares 1 13 rfl) rfl
    | succ m ih =>
      intro b t h0 h1
      refine go_iload_n (at_of tX10_bares 0 2 rfl) rfl ?_
      refine go_bipush (at_of tX10_bares 0 3 rfl) (by decide) ?_
      refine go_icmp_ge (tgt := 53) (at_of tX10_bares 0 4 rfl) (by decide) (fun h5 => ?_) (fun h5 => ?_)
      · exfalso; omega
      refine go_aload_n (at_of tX10_bares 0 5 rfl) rfl ?_
      refine go_iload_n (at_of tX10_bares 0 6 rfl) rfl ?_
      refine go_iload_n (at_of tX10_bares 0 7 rfl) rfl ?_
      refine go_iload_n (at_of tX10_bares 0 8 rfl) rfl ?_
      refine go_iconst (at_of tX10_bares 0 9 rfl) (by unfold in32; omega) ?_
      refine go_icmp_eq (tgt := 39) (at_of tX10_bares 0 10 rfl) (by decide) (fun h13 => ?_) (fun h13 => ?_)
      · first
        | exfalso; omega
        | refine go_iconst (at_of tX10_bares 1 7 rfl) (by unfold in32; omega) ?_
          refine go_goto (tgt := 44) (at_of tX10_bares 1 8 rfl) (by decide) ?_
          refine go_cV (m_setAt (by exact hS) (by omega)) lk_X10_99 rfl G_109 (at_of tX10_bares 1 10 rfl) rfl (by decide) rfl (Nat.le_of_ble_eq_true rfl) rfl (by first | decide | exact ⟨Nat.zero_le _, Nat.zero_le _⟩) ?_
          refine go_iinc (at_of tX10_bares 1 11 rfl) rfl (by unfold in32; omega) rfl rfl ?_
          refine go_goto (tgt := 2) (at_of tX10_bares 1 12 rfl) (by decide) ?_
          rw [baS_s (by omega) h0 (by unfold bv; first | (rw [if_pos (by omega)]) | (rw [if_neg (by omega)]))]
          exact ih _ _ (by omega) (by omega)
      · first
        | exfalso; omega
        | refine go_iload_n (at_of tX10_bares 0 11 rfl) rfl ?_
          refine go_iconst (at_of tX10_bares 0 12 rfl) (by unfold in32; omega) ?_
          refine go_icmp_eq (tgt := 39) (at_of tX10_bares 0 13 rfl) (by decide) (fun h18 => ?_) (fun h18 => ?_)
          · first
            | exfalso; omega
            | refine go_iconst (at_of tX10_bares 1 7 rfl) (by unfold in32; omega) ?_
              refine go_goto (tgt := 44) (at_of tX10_bares 1 8 rfl) (by decide) ?_
              refine go_cV (m_setAt (by exact hS) (by omega)) lk_X10_99 rfl G_109 (at_of tX10_bares 1 10 rfl) rfl (by decide) rfl (Nat.le_of_ble_eq_true rfl) rfl (by first | decide | exact ⟨Nat.zero_le _, Nat.zero_le _⟩) ?_
              refine go_iinc (at_of tX10_bares 1 11 rfl) rfl (by unfold in32; omega) rfl rfl ?_
              refine go_goto (tgt := 2) (at_of tX10_bares 1 12 rfl) (by decide) ?_
              rw [baS_s (by omega) h0 (by unfold bv; first | (rw [if_pos (by omega)]) | (rw [if_neg (by omega)]))]
              exact ih _ _ (by omega) (by omega)
          · first
            | exfalso; omega
            | refine go_iload_n (at_of tX10_bares 0 14 rfl) rfl ?_
              refine go_bipush (at_of tX10_bares 0 15 rfl) (by decide) ?_
              refine go_icmp_eq (tgt := 39) (at_of tX10_bares 1 0 rfl) (by decide) (fun h24 => ?_) (fun h24 => ?_)
              · first
                | exfalso; omega
                | refine go_iconst (at_of tX10_bares 1 7 rfl) (by unfold in32; omega) ?_
                  refine go_goto (tgt := 44) (at_of tX10_bares 1 8 rfl) (by decide) ?_
                  refine go_cV (m_setAt (by exact hS) (by omega)) lk_X10_99 rfl G_109 (at_of tX10_bares 1 10 rfl) rfl (by decide) rfl (Nat.le_of_ble_eq_true rfl) rfl (by first | decide | exact ⟨Nat.zero_le _, Nat.zero_le _⟩) ?_
                  refine go_iinc (at_of tX10_bares 1 11 rfl) rfl (by unfold in32; omega) rfl rfl ?_
                  refine go_goto (tgt := 2) (at_of tX10_bares 1 12 rfl) (by decide) ?_
                  rw [baS_s (by omega) h0 (by unfold bv; first | (rw [if_pos (by omega)]) | (rw [if_neg (by omega)]))]
                  exact ih _ _ (by omega) (by omega)
              · first
                | exfalso; omega
                | refine go_iload_n (at_of tX10_bares 1 1 rfl) rfl ?_
                  refine go_bipush (at_of tX10_bares 1 2 rfl) (by decide) ?_
                  refine go_icmp_eq (tgt := 39) (at_of tX10_bares 1 3 rfl) (by decide) (fun h30 => ?_) (fun h30 => ?_)
                  · first
                    | exfalso; omega
                    | refine go_iconst (at_of tX10_bares 1 7 rfl) (by unfold in32; omega) ?_
                      refine go_goto (tgt := 44) (at_of tX10_bares 1 8 rfl) (by decide) ?_
                      refine go_cV (m_setAt (by exact hS) (by omega)) lk_X10_99 rfl G_109 (at_of tX10_bares 1 10 rfl) rfl (by decide) rfl (Nat.le_of_ble_eq_true rfl) rfl (by first | decide | exact ⟨Nat.zero_le _, Nat.zero_le _⟩) ?_
                      refine go_iinc (at_of tX10_bares 1 11 rfl) rfl (by unfold in32; omega) rfl rfl ?_
                      refine go_goto (tgt := 2) (at_of tX10_bares 1 12 rfl) (by decide) ?_
                      rw [baS_s (by omega) h0 (by unfold bv; first | (rw [if_pos (by omega)]) | (rw [if_neg (by omega)]))]
                      exact ih _ _ (by omega) (by omega)
                  · first
                    | exfalso; omega
                    | refine go_iload_n (at_of tX10_bares 1 4 rfl) rfl ?_
                      refine go_bipush (at_of tX10_bares 1 5 rfl) (by decide) ?_
                      refine go_icmp_ne (tgt := 43) (at_of tX10_bares 1 6 rfl) (by decide) (fun h36 => ?_) (fun h36 => ?_)
                      · first
                        | exfalso; omega
                        | refine go_iconst (at_of tX10_bares 1 9 rfl) (by unfold in32; omega) ?_
                          refine go_cV (m_setAt (by exact hS) (by omega)) lk_X10_99 rfl G_109 (at_of tX10_bares 1 10 rfl) rfl (by decide) rfl (Nat.le_of_ble_eq_true rfl) rfl (by first | decide | exact ⟨Nat.zero_le _, Nat.zero_le _⟩) ?_
                          refine go_iinc (at_of tX10_bares 1 11 rfl) rfl (by unfold in32; omega) rfl rfl ?_
                          refine go_goto (tgt := 2) (at_of tX10_bares 1 12 rfl) (by decide) ?_
                          rw [baS_s (by omega) h0 (by unfold bv; first | (rw [if_pos (by omega)]) | (rw [if_neg (by omega)]))]
                          exact ih _ _ (by omega) (by omega)
                      · first
                        | exfalso; omega
                        | refine go_iconst (at_of tX10_bares 1 7 rfl) (by unfold in32; omega) ?_
                          refine go_goto (tgt := 44) (at_of tX10_bares 1 8 rfl) (by decide) ?_
                          refine go_cV (m_setAt (by exact hS) (by omega)) lk_X10_99 rfl G_109 (at_of tX10_bares 1 10 rfl) rfl (by decide) rfl (Nat.le_of_ble_eq_true rfl) rfl (by first | decide | exact ⟨Nat.zero_le _, Nat.zero_le _⟩) ?_
                          refine go_iinc (at_of tX10_bares 1 11 rfl) rfl (by unfold in32; omega) rfl rfl ?_
                          refine go_goto (tgt := 2) (at_of tX10_bares 1 12 rfl) (by decide) ?_
                          rw [baS_s (by omega) h0 (by unfold bv; first | (rw [if_pos (by omega)]) | (rw [if_neg (by omega)]))]
                          exact ih _ _ (by omega) (by omega)
  refine con_of_go mfX10_bares.1 trivial (Nat.le_of_ble_eq_true rfl) rfl (by decide) ?_
  show Go _ _ _ _ 0 [vA _, vI _, vT 9 0] [] _ _
  refine go_iconst (at_of tX10_bares 0 0 rfl) (by unfold in32; omega) ?_
  refine go_istore_n (at_of tX10_bares 0 1 rfl) rfl rfl ?_
  have q := key 10 (0, 0) 0 (by omega) (by omega)
  rw [baS_0] at q
  exact q
def bnU (σ : St) (u t : Int) : St := (fun a j => if a = 110 ∧ 3193 ≤ (j : Int) ∧ (j : Int) < t ∧ u ≤ σ.1 110 j then σ.1 110 j + 1 else σ.1 a j, σ.2.1, σ.2.2)
def bnD (σ : St) (u t : Int) : St := (fun a j => if a = 110 ∧ 3193 ≤ (j : Int) ∧ (j : Int) < t ∧ u < σ.1 110 j then σ.1 110 j - 1 else σ.1 a j, σ.2.1, σ.2.2)
theorem bnU_0 {u : Int} : bnU σ u 3193 = σ := by
  unfold bnU
  refine Prod.ext (funext fun a => funext fun i => ?_) rfl
  dsimp only
  rw [if_neg (by omega)]
theorem bnU_at {u t x : Int} (hx : 0 ≤ x) : cN (bnU σ u t) x = if 3193 ≤ x ∧ x < t ∧ u ≤ cN σ x then cN σ x + 1 else cN σ x := by
  unfold cN bnU
  dsimp only
  by_cases h : 3193 ≤ x ∧ x < t ∧ u ≤ σ.1 110 x.toNat
  · rw [if_pos ⟨rfl, by omega, by omega, h.2.2⟩, if_pos h]
  · rw [if_neg (fun q => h ⟨by omega, by omega, q.2.2.2⟩), if_neg h]
theorem bnU_s {u t v : Int} (ht : 3193 ≤ t) (hv : v = if u ≤ σ.1 110 t.toNat then σ.1 110 t.toNat + 1 else σ.1 110 t.toNat) : M1 (bnU σ u t) 110 t v = bnU σ u (t + 1) := by
  unfold M1 bnU upd2
  refine Prod.ext (funext fun a => funext fun i => ?_) rfl
  dsimp only
  by_cases ha : a = 110
  · by_cases hi : i = t.toNat
    · subst hi
      rw [if_pos ⟨ha, rfl⟩, hv, ha]
      by_cases hr : u ≤ σ.1 110 t.toNat
      · rw [if_pos hr, if_pos ⟨rfl, by omega, by omega, hr⟩]
      · rw [if_neg hr, if_neg (fun q => hr q.2.2.2)]
    · rw [if_neg (fun q => hi q.2)]
      by_cases hr : 3193 ≤ (i : Int) ∧ (i : Int) < t ∧ u ≤ σ.1 110 i
      · rw [if_pos ⟨ha, hr⟩, if_pos ⟨ha, hr.1, by omega, hr.2.2⟩]
      · rw [if_neg (fun q => hr q.2), if_neg (fun q => hr ⟨q.2.1, by omega, q.2.2.2⟩)]
  · rw [if_neg (fun q => ha q.1), if_neg (fun q => ha q.1), if_neg (fun q => ha q.1)]
theorem bnU_frn {u t : Int} : FrN σ (bnU σ u t) := ⟨rfl, fun a j q => if_neg (fun z => q z.1)⟩
theorem bnD_0 {u : Int} : bnD σ u 3193 = σ := by
  unfold bnD
  refine Prod.ext (funext fun a => funext fun i => ?_) rfl
  dsimp only
  rw [if_neg (by omega)]
theorem bnD_at {u t x : Int} (hx : 0 ≤ x) : cN (bnD σ u t) x = if 3193 ≤ x ∧ x < t ∧ u < cN σ x then cN σ x - 1 else cN σ x := by
  unfold cN bnD
  dsimp only
  by_cases h : 3193 ≤ x ∧ x < t ∧ u < σ.1 110 x.toNat
  · rw [if_pos ⟨rfl, by omega, by omega, h.2.2⟩, if_pos h]
  · rw [if_neg (fun q => h ⟨by omega, by omega, q.2.2.2⟩), if_neg h]
theorem bnD_s {u t v : Int} (ht : 3193 ≤ t) (hv : v = if u < σ.1 110 t.toNat then σ.1 110 t.toNat - 1 else σ.1 110 t.toNat) : M1 (bnD σ u t) 110 t v = bnD σ u (t + 1) := by
  unfold M1 bnD upd2
  refine Prod.ext (funext fun a => funext fun i => ?_) rfl
  dsimp only
  by_cases ha : a = 110
  · by_cases hi : i = t.toNat
    · subst hi
      rw [if_pos ⟨ha, rfl⟩, hv, ha]
      by_cases hr : u < σ.1 110 t.toNat
      · rw [if_pos hr, if_pos ⟨rfl, by omega, by omega, hr⟩]
      · rw [if_neg hr, if_neg (fun q => hr q.2.2.2)]
    · rw [if_neg (fun q => hi q.2)]
      by_cases hr : 3193 ≤ (i : Int) ∧ (i : Int) < t ∧ u < σ.1 110 i
      · rw [if_pos ⟨ha, hr⟩, if_pos ⟨ha, hr.1, by omega, hr.2.2⟩]
      · rw [if_neg (fun q => hr q.2), if_neg (fun q => hr ⟨q.2.1, by omega, q.2.2.2⟩)]
  · rw [if_neg (fun q => ha q.1), if_neg (fun q => ha q.1), if_neg (fun q => ha q.1)]
theorem bnD_frn {u t : Int} : FrN σ (bnD σ u t) := ⟨rfl, fun a j q => if_neg (fun z => q z.1)⟩
def opS (σ : St) (lo hi : Int) : St := (fun a j => if a = 110 ∧ lo + 10 ≤ (j : Int) ∧ (j : Int) < hi + 10 then σ.1 110 (j - 10) else σ.1 a j, σ.2.1, σ.2.2)
theorem opS_0 {hi : Int} : opS σ hi hi = σ := by
  unfold opS
  refine Prod.ext (funext fun a => funext fun i => ?_) rfl
  dsimp only
  rw [if_neg (by omega)]
theorem opS_at {lo hi x : Int} (hx : 0 ≤ x) : cN (opS σ lo hi) x = if lo + 10 ≤ x ∧ x < hi + 10 then σ.1 110 (x.toNat - 10) else cN σ x := by
  unfold cN opS
  dsimp only
  by_cases h : lo + 10 ≤ x ∧ x < hi + 10
  · rw [if_pos ⟨rfl, by omega, by omega⟩, if_pos h]
  · rw [if_neg (by omega), if_neg h]
theorem opS_s {lo hi : Int} (h0 : 0 ≤ lo) (h : lo < hi) : M1 (opS σ (lo + 1) hi) 110 (lo + 10) (σ.1 110 lo.toNat) = opS σ lo hi := by
  unfold M1 opS upd2
  refine Prod.ext (funext fun a => funext fun i => ?_) rfl
  dsimp only
  by_cases ha : a = 110
  · by_cases hi' : i = (lo + 10).toNat
    · rw [if_pos ⟨ha, hi'⟩, if_pos ⟨ha, by omega, by omega⟩, show i - 10 = lo.toNat by omega]
    · rw [if_neg (fun q => hi' q.2)]
      by_cases hr : lo + 1 + 10 ≤ (i : Int) ∧ (i : Int) < hi + 10
      · rw [if_pos ⟨ha, hr⟩, if_pos ⟨ha, by omega, by omega⟩]
      · rw [if_neg (fun q => hr q.2), if_neg (by omega)]
  · rw [if_neg (fun q => ha q.1), if_neg (fun q => ha q.1), if_neg (fun q => ha q.1)]
theorem opS_frn {lo hi : Int} : FrN σ (opS σ lo hi) := ⟨rfl, fun a j q => if_neg (fun z => q z.1)⟩
def clS (σ : St) (lo hi : Int) : St := (fun a j => if a = 110 ∧ lo ≤ (j : Int) ∧ (j : Int) < hi then σ.1 110 (j + 10) else σ.1 a j, σ.2.1, σ.2.2)
theorem clS_0 {lo : Int} : clS σ lo lo = σ := by
  unfold clS
  refine Prod.ext (funext fun a => funext fun i => ?_) rfl
  dsimp only
  rw [if_neg (by omega)]
theorem clS_at {lo hi x : Int} (hx : 0 ≤ x) : cN (clS σ lo hi) x = if lo ≤ x ∧ x < hi then σ.1 110 (x.toNat + 10) else cN σ x := by
  unfold cN clS
  dsimp only
  by_cases h : lo ≤ x ∧ x < hi
  · rw [if_pos ⟨rfl, by omega, by omega⟩, if_pos h]
  · rw [if_neg (by omega), if_neg h]
theorem clS_s {lo hi : Int} (h0 : 0 ≤ lo) (h : lo ≤ hi) : M1 (clS σ lo hi) 110 hi (σ.1 110 (hi.toNat + 10)) = clS σ lo (hi + 1) := by
  unfold M1 clS upd2
  refine Prod.ext (funext fun a => funext fun i => ?_) rfl
  dsimp only
  by_cases ha : a = 110
  · by_cases hi' : i = hi.toNat
    · rw [if_pos ⟨ha, hi'⟩, if_pos ⟨ha, by omega, by omega⟩, hi']
    · rw [if_neg (fun q => hi' q.2)]
      by_cases hr : lo ≤ (i : Int) ∧ (i : Int) < hi
      · rw [if_pos ⟨ha, hr⟩, if_pos ⟨ha, by omega, by omega⟩]
      · rw [if_neg (fun q => hr q.2), if_neg (by omega)]
  · rw [if_neg (fun q => ha q.1), if_neg (fun q => ha q.1), if_neg (fun q => ha q.1)]
theorem clS_frn {lo hi : Int} : FrN σ (clS σ lo hi) := ⟨rfl, fun a j q => if_neg (fun z => q z.1)⟩
theorem m_opens (hS : Str σ.2.1) {R : RowD} (hN : RepNr (cN σ) R) (hbm : ∀ b, 0 ≤ b → b < 12 → -1 ≤ cN σ (3193 + b) ∧ cN σ (3193 + b) ≤ 200) {u : Int} (hu : 0 ≤ u ∧ u ≤ R.2.1 ∧ R.2.1 < 200) : ∃ σ', Con 2 mX10_opens 0 0 [vA 109, vI u] σ (vT 8 0, σ') ∧ FrN σ σ' ∧ (∀ x, (3011 ≤ x ∧ x < 3193) ∨ (3205 ≤ x ∧ x < 3225) → cN σ' x = cN σ x) ∧ cN σ' 3010 = R.2.1 + 1 ∧
    (∀ i p, 0 ≤ i → i < u → 0 ≤ p → p ≤ 9 → cN σ' (10 * i + p) = cN σ (10 * i + p)) ∧ (∀ p, 0 ≤ p → p ≤ 9 → cN σ' (10 * u + p) = bv p) ∧ (∀ i p, u < i → i ≤ R.2.1 + 1 → 0 ≤ p → p ≤ 9 → cN σ' (10 * i + p) = cN σ (10 * (i - 1) + p)) ∧
    ∀ b, 0 ≤ b → b < 12 → cN σ' (3193 + b) = if u ≤ cN σ (3193 + b) then cN σ (3193 + b) + 1 else cN σ (3193 + b) := by
  have n1 : σ.1 110 (3010 : Int).toNat = R.2.1 := hN.1
  obtain ⟨σ1, hσ1⟩ : ∃ σ1, σ1 = opS σ (u * 10) ((R.2.1 + 1) * 10) := ⟨_, rfl⟩
  have c1 : ∀ x, 0 ≤ x → cN σ1 x = if u * 10 + 10 ≤ x ∧ x < (R.2.1 + 1) * 10 + 10 then σ.1 110 (x.toNat - 10) else cN σ x := fun x hx => by rw [hσ1]; exact opS_at hx
  obtain ⟨σ2, hσ2⟩ : ∃ σ2, σ2 = M1 σ1 110 3010 (R.2.1 + 1) := ⟨_, rfl⟩
  have c2 : ∀ x, 0 ≤ x → cN σ2 x = if x = 3010 then R.2.1 + 1 else cN σ1 x := fun x hx => by rw [hσ2]; exact cN_M1 (by omega) hx
  obtain ⟨σ3, hσ3⟩ : ∃ σ3, σ3 = bnU σ2 u 3205 := ⟨_, rfl⟩
  have c3 : ∀ x, 0 ≤ x → cN σ3 x = if 3193 ≤ x ∧ x < 3205 ∧ u ≤ cN σ2 x then cN σ2 x + 1 else cN σ2 x := fun x hx => by rw [hσ3]; exact bnU_at hx
  have c4 : ∀ x, 0 ≤ x → cN (baS σ3 u 10) x = if 10 * u ≤ x ∧ x < 10 * u + 10 then bv (x - 10 * u) else cN σ3 x := fun x hx => baS_at (by omega) hx
  have F1 : FrN σ σ1 := by rw [hσ1]; exact opS_frn
  have F2 : FrN σ σ2 := by rw [hσ2]; exact F1.trans FrN.m1
  have F3 : FrN σ σ3 := by rw [hσ3]; exact F2.trans bnU_frn
  have hS1 := F1.str hS
  have hS2 := F2.str hS
  have hS3 := F3.str hS
  have m1 : σ1.1 110 (3010 : Int).toNat = R.2.1 := by
    have := c1 3010 (by omega)
    rw [if_neg (by omega)] at this
    exact this.trans n1
  have hb2 : ∀ t : Int, 3193 ≤ t → t < 3205 → -1 ≤ σ2.1 110 t.toNat ∧ σ2.1 110 t.toNat ≤ 200 := fun t t0 t1 => by
    have z := c2 t (by omega)
    rw [if_neg (by omega), c1 _ (by omega), if_neg (by omega)] at z
    have y := hbm (t - 3193) (by omega) (by omega)
    rw [show 3193 + (t - 3193) = t by omega, ← z] at y
    exact y
  have loop1 : ∀ (out : MV × St), (∀ b v2, Go (fun _ => 0) 2 mX10_opens b 41 [vA 109, vI u, v2] [] σ1 out) → ∀ (m : Nat) (b : Nat × Nat) (k : Int) (σx : St), σx = opS σ (k + 1) ((R.2.1 + 1) * 10) → k + 1 = u * 10 + m → k < (R.2.1 + 1) * 10 → Go (fun _ => 0) 2 mX10_opens b 12 [vA 109, vI u, vI k] [] σx out := by
    intro out K m
    induction m with
    | zero =>
      intro b k σx hx h0 h1
      subst hx
      rw [show k + 1 = u * 10 by omega, ← hσ1]
      refine go_iload_n (at_of tX10_opens 0 9 rfl) rfl ?_
      refine go_iload_n (at_of tX10_opens 0 10 rfl) rfl ?_
      refine go_bipush (at_of tX10_opens 0 11 rfl) (by decide) ?_
      refine go_imul (at_of tX10_opens 0 12 rfl) (by unfold in32; omega) ?_
      refine go_icmp_lt (tgt := 41) (at_of tX10_opens 0 13 rfl) (by decide) (fun h17 => ?_) (fun h17 => ?_)
      rotate_left
      · exfalso; omega
      exact K _ _
    | succ m ih =>
      intro b k σx hx h0 h1
      subst hx
      have ev : (opS σ (k + 1) ((R.2.1 + 1) * 10)).1 110 k.toNat = σ.1 110 k.toNat := by
        have := opS_at (σ := σ) (lo := k + 1) (hi := (R.2.1 + 1) * 10) (x := k) (by omega)
        rw [if_neg (by omega)] at this
        exact this
      refine go_iload_n (at_of tX10_opens 0 9 rfl) rfl ?_
      refine go_iload_n (at_of tX10_opens 0 10 rfl) rfl ?_
      refine go_bipush (at_of tX10_opens 0 11 rfl) (by decide) ?_
      refine go_imul (at_of tX10_opens 0 12 rfl) (by unfold in32; omega) ?_
      refine go_icmp_lt (tgt := 41) (at_of tX10_opens 0 13 rfl) (by decide) (fun h17 => ?_) (fun h17 => ?_)
      · exfalso; omega
      refine go_aload_n (at_of tX10_opens 0 14 rfl) rfl ?_
      refine go_getr (q := 110) fl_X10_7 rfl G_109 (by first | exact (hS _ _ rfl).trans rfl | exact (hS1 _ _ rfl).trans rfl | exact (hS2 _ _ rfl).trans rfl | exact (hS3 _ _ rfl).trans rfl | exact (hS4 _ _ rfl).trans rfl) (at_of tX10_opens 0 15 rfl) ?_
      refine go_iload_n (at_of tX10_opens 1 0 rfl) rfl ?_
      refine go_bipush (at_of tX10_opens 1 1 rfl) (by decide) ?_
      refine go_iadd (at_of tX10_opens 1 2 rfl) (by unfold in32; omega) ?_
      refine go_aload_n (at_of tX10_opens 1 3 rfl) rfl ?_
      refine go_getr (q := 110) fl_X10_7 rfl G_109 (by first | exact (hS _ _ rfl).trans rfl | exact (hS1 _ _ rfl).trans rfl | exact (hS2 _ _ rfl).trans rfl | exact (hS3 _ _ rfl).trans rfl | exact (hS4 _ _ rfl).trans rfl) (at_of tX10_opens 1 4 rfl) ?_
      refine go_iload_n (at_of tX10_opens 1 5 rfl) rfl ?_
      refine go_iald G_110 (by omega) (by omega) (at_of tX10_opens 1 6 rfl) ?_
      rw [ev]
      refine go_iast1 G_110 (by omega) (by omega) (at_of tX10_opens 1 7 rfl) ?_
      rw [opS_s (by omega) (by omega)]
      refine go_iinc (at_of tX10_opens 1 8 rfl) rfl (by unfold in32; omega) rfl rfl ?_
      refine go_goto (tgt := 12) (at_of tX10_opens 1 9 rfl) (by decide) ?_
      exact ih _ _ _ (by rw [show k + -1 + 1 = k by omega]) (by omega) (by omega)
  have loop2 : ∀ (out : MV × St), (∀ b, Go (fun _ => 0) 2 mX10_opens b 94 [vA 109, vI u, vI 3205] [] σ3 out) → ∀ (m : Nat) (b : Nat × Nat) (t : Int), 3193 ≤ t → t + m = 3205 → Go (fun _ => 0) 2 mX10_opens b 57 [vA 109, vI u, vI t] [] (bnU σ2 u t) out := by
    intro out K m
    induction m with
    | zero =>
      intro b t h0 h1
      obtain rfl : t = 3205 := by omega
      rw [← hσ3]
      refine go_iload_n (at_of tX10_opens 2 4 rfl) rfl ?_
      refine go_sipush (at_of tX10_opens 2 5 rfl) (by decide) ?_
      refine go_icmp_ge (tgt := 94) (at_of tX10_opens 2 6 rfl) (by decide) (fun h61 => ?_) (fun h61 => ?_)
      rotate_left
      · exfalso; omega
      exact K _
    | succ m ih =>
      intro b t h0 h1
      have ev : (bnU σ2 u t).1 110 t.toNat = σ2.1 110 t.toNat := by
        have := bnU_at (σ := σ2) (u := u) (t := t) (x := t) (by omega)
        rw [if_neg (by omega)] at this
        exact this
      have bo := hb2 t h0 (by omega)
      refine go_iload_n (at_of tX10_opens 2 4 rfl) rfl ?_
      refine go_sipush (at_of tX10_opens 2 5 rfl) (by decide) ?_
      refine go_icmp_ge (tgt := 94) (at_of tX10_opens 2 6 rfl) (by decide) (fun h61 => ?_) (fun h61 => ?_)
      · exfalso; omega
      refine go_aload_n (at_of tX10_opens 2 7 rfl) rfl ?_
      refine go_getr (q := 110) fl_X10_7 rfl G_109 (by first | exact (hS _ _ rfl).trans rfl | exact (hS1 _ _ rfl).trans rfl | exact (hS2 _ _ rfl).trans rfl | exact (hS3 _ _ rfl).trans rfl | exact (hS4 _ _ rfl).trans rfl) (at_of tX10_opens 2 8 rfl) ?_
      refine go_iload_n (at_of tX10_opens 2 9 rfl) rfl ?_
      refine go_dup2 (at_of tX10_opens 2 10 rfl) rfl rfl ?_
      refine go_iald G_110 (by omega) (by omega) (at_of tX10_opens 2 11 rfl) ?_
      rw [ev]
      refine go_aload_n (at_of tX10_opens 2 12 rfl) rfl ?_
      refine go_getr (q := 110) fl_X10_7 rfl G_109 (by first | exact (hS _ _ rfl).trans rfl | exact (hS1 _ _ rfl).trans rfl | exact (hS2 _ _ rfl).trans rfl | exact (hS3 _ _ rfl).trans rfl | exact (hS4 _ _ rfl).trans rfl) (at_of tX10_opens 2 13 rfl) ?_
      refine go_iload_n (at_of tX10_opens 2 14 rfl) rfl ?_
      refine go_iald G_110 (by omega) (by omega) (at_of tX10_opens 2 15 rfl) ?_
      rw [ev]
      refine go_iload_n (at_of tX10_opens 3 0 rfl) rfl ?_
      refine go_icmp_lt (tgt := 85) (at_of tX10_opens 3 1 rfl) (by decide) (fun h78 => ?_) (fun h78 => ?_)
      · first
        | exfalso; omega
        | refine go_iconst (at_of tX10_opens 3 4 rfl) (by unfold in32; omega) ?_
          refine go_iadd (at_of tX10_opens 3 5 rfl) (by unfold in32; omega) ?_
          refine go_iast1 G_110 (by omega) (by omega) (at_of tX10_opens 3 6 rfl) ?_
          rw [bnU_s h0 (by first | (rw [if_pos (by omega)]) | (rw [if_neg (by omega)]; omega))]
          refine go_iinc (at_of tX10_opens 3 7 rfl) rfl (by unfold in32; omega) rfl rfl ?_
          refine go_goto (tgt := 57) (at_of tX10_opens 3 8 rfl) (by decide) ?_
          exact ih _ _ (by omega) (by omega)
      · first
        | exfalso; omega
        | refine go_iconst (at_of tX10_opens 3 2 rfl) (by unfold in32; omega) ?_
          refine go_goto (tgt := 86) (at_of tX10_opens 3 3 rfl) (by decide) ?_
          refine go_iadd (at_of tX10_opens 3 5 rfl) (by unfold in32; omega) ?_
          refine go_iast1 G_110 (by omega) (by omega) (at_of tX10_opens 3 6 rfl) ?_
          rw [bnU_s h0 (by first | (rw [if_pos (by omega)]) | (rw [if_neg (by omega)]; omega))]
          refine go_iinc (at_of tX10_opens 3 7 rfl) rfl (by unfold in32; omega) rfl rfl ?_
          refine go_goto (tgt := 57) (at_of tX10_opens 3 8 rfl) (by decide) ?_
          exact ih _ _ (by omega) (by omega)
  refine ⟨baS σ3 u 10, ?_, F3.trans baS_frn, fun x hx => ?_, ?_, fun i p i0 i1 p0 p1 => ?_, fun p p0 p1 => ?_, fun i p i0 i1 p0 p1 => ?_, fun b b0 b1 => ?_⟩
  · skip
    refine con_of_go mfX10_opens.1 trivial (Nat.le_of_ble_eq_true rfl) rfl (by decide) ?_
    show Go _ _ _ _ 0 [vA _, vI _, vT 9 0] [] _ _
    refine go_aload_n (at_of tX10_opens 0 0 rfl) rfl ?_
    refine go_cV (m_many hS hN) lk_X10_110 rfl G_109 (at_of tX10_opens 0 1 rfl) rfl (by decide) rfl (Nat.le_of_ble_eq_true rfl) rfl (by first | decide | exact ⟨Nat.zero_le _, Nat.zero_le _⟩) ?_
    refine go_iconst (at_of tX10_opens 0 2 rfl) (by unfold in32; omega) ?_
    refine go_iadd (at_of tX10_opens 0 3 rfl) (by unfold in32; omega) ?_
    refine go_bipush (at_of tX10_opens 0 4 rfl) (by decide) ?_
    refine go_imul (at_of tX10_opens 0 5 rfl) (by unfold in32; omega) ?_
    refine go_iconst (at_of tX10_opens 0 6 rfl) (by unfold in32; omega) ?_
    refine go_isub (at_of tX10_opens 0 7 rfl) (by unfold in32; omega) ?_
    refine go_istore_n (at_of tX10_opens 0 8 rfl) rfl rfl ?_
    refine loop1 _ (fun b v2 => ?_) ((R.2.1 + 1) * 10 - u * 10).toNat _ _ _ (by rw [show (R.2.1 + 1) * 10 - 1 + 1 = (R.2.1 + 1) * 10 by omega, opS_0]) (by omega) (by omega)
    refine go_aload_n (at_of tX10_opens 1 10 rfl) rfl ?_
    refine go_getr (q := 110) fl_X10_7 rfl G_109 ((hS1 _ _ rfl).trans rfl) (at_of tX10_opens 1 11 rfl) ?_
    refine go_sipush (at_of tX10_opens 1 12 rfl) (by decide) ?_
    refine go_dup2 (at_of tX10_opens 1 13 rfl) rfl rfl ?_
    refine go_iald G_110 (by omega) (by omega) (at_of tX10_opens 1 14 rfl) ?_
    rw [m1]
    refine go_iconst (at_of tX10_opens 1 15 rfl) (by unfold in32; omega) ?_
    refine go_iadd (at_of tX10_opens 2 0 rfl) (by unfold in32; omega) ?_
    refine go_iast1 G_110 (by omega) (by omega) (at_of tX10_opens 2 1 rfl) ?_
    rw [← hσ2]
    refine go_sipush (at_of tX10_opens 2 2 rfl) (by decide) ?_
    refine go_istore_n (at_of tX10_opens 2 3 rfl) rfl rfl ?_
    rw [show σ2 = bnU σ2 u 3193 from bnU_0.symm]
    refine loop2 _ (fun b => ?_) 12 _ 3193 (by omega) (by omega)
    refine go_aload_n (at_of tX10_opens 3 9 rfl) rfl ?_
    refine go_iload_n (at_of tX10_opens 3 10 rfl) rfl ?_
    refine go_cV (m_bares hS3 (by omega)) lk_X10_95 rfl G_109 (at_of tX10_opens 3 11 rfl) rfl (by decide) rfl (Nat.le_of_ble_eq_true rfl) rfl (by first | decide | exact ⟨Nat.zero_le _, Nat.zero_le _⟩) ?_
    exact go_retv (at_of tX10_opens 3 12 rfl) rfl
  · rw [c4 _ (by omega), if_neg (by omega), c3 _ (by omega), if_neg (by omega), c2 _ (by omega), if_neg (by omega), c1 _ (by omega), if_neg (by omega)]
  · rw [c4 _ (by omega), if_neg (by omega), c3 _ (by omega), if_neg (by omega), c2 _ (by omega), if_pos rfl]
  · rw [c4 _ (by omega), if_neg (by omega), c3 _ (by omega), if_neg (by omega), c2 _ (by omega), if_neg (by omega), c1 _ (by omega), if_neg (by omega)]
  · rw [c4 _ (by omega), if_pos (by omega), show 10 * u + p - 10 * u = p by omega]
  · rw [c4 _ (by omega), if_neg (by omega), c3 _ (by omega), if_neg (by omega), c2 _ (by omega), if_neg (by omega), c1 _ (by omega), if_pos (by omega)]
    unfold cN
    rw [show (10 * i + p).toNat - 10 = (10 * (i - 1) + p).toNat by omega]
  · have e : cN σ2 (3193 + b) = cN σ (3193 + b) := by rw [c2 _ (by omega), if_neg (by omega), c1 _ (by omega), if_neg (by omega)]
    rw [c4 _ (by omega), if_neg (by omega), c3 _ (by omega), e]
    by_cases hb : u ≤ cN σ (3193 + b)
    · rw [if_pos ⟨by omega, by omega, hb⟩, if_pos hb]
    · rw [if_neg (fun q => hb q.2.2), if_neg hb]
end Mod4
