/-! What is left when all is judged. -/
section Left
variable {σ σ' τ : St} {A : PastD} {D : PapD} {R : RowD} {F : Int → Int → Int} {p : Int → Bool} {f : Int → Int}
theorem txt_len : ∀ (m : Nat) (i : Int), ((txt p f m i).length : Int) = cntF p m i
  | 0, _ => rfl
  | m + 1, i => by
    have ih := txt_len m (i + 1)
    rw [txt, cntF]
    by_cases h : p i = true
    · rw [if_pos h, if_pos h, List.length_cons]; omega
    · rw [if_neg h, if_neg h]; omega
theorem txt_get : ∀ (m : Nat) (i k : Int), 0 ≤ k → k < cntF p m i → (txt p f m i)[k.toNat]? = some (f (scan p m i k))
  | 0, i, k, h0, h1 => by rw [cntF] at h1; omega
  | m + 1, i, k, h0, h1 => by
    rw [cntF] at h1
    rw [txt, scan]
    by_cases h : p i = true
    · rw [if_pos h] at h1
      rw [if_pos h, if_pos h]
      by_cases hk : k = 0
      · rw [if_pos hk, hk]; rfl
      · rw [if_neg hk, show k.toNat = (k - 1).toNat + 1 by omega, List.getElem?_cons_succ]
        exact txt_get m (i + 1) (k - 1) (by omega) (by omega)
    · rw [if_neg h] at h1
      rw [if_neg h, if_neg h]
      exact txt_get m (i + 1) k h0 (by omega)
theorem scan_more : ∀ (m : Nat) (i k : Int), 0 ≤ k → k < cntF p m i → scan p (m + 1) i k = scan p m i k
  | 0, i, k, h0, h1 => by rw [cntF] at h1; omega
  | m + 1, i, k, h0, h1 => by
    rw [cntF] at h1
    show (if p i = true then (if k = 0 then i else scan p (m + 1) (i + 1) (k - 1)) else scan p (m + 1) (i + 1) k) = (if p i = true then (if k = 0 then i else scan p m (i + 1) (k - 1)) else scan p m (i + 1) k)
    by_cases h : p i = true
    · rw [if_pos h] at h1
      rw [if_pos h, if_pos h]
      by_cases hk : k = 0
      · rw [if_pos hk, if_pos hk]
      · rw [if_neg hk, if_neg hk]
        exact scan_more m (i + 1) (k - 1) (by omega) (by omega)
    · rw [if_neg h] at h1
      rw [if_neg h, if_neg h]
      exact scan_more m (i + 1) k h0 (by omega)
theorem txr_len3 (hn : 0 ≤ R.2.1) : ((TxR 3 R).length : Int) = plOf R.1 R.2.1 R.2.1 := by
  unfold TxR plOf
  rw [txt_len, Int.min_self]
  rfl
theorem txr_len2 (hn : 0 ≤ R.2.1) : ((TxR 2 R).length : Int) = oldN R.1 R.2.1 := by
  unfold TxR oldN
  rw [txt_len]
  refine cntF_congr _ _ (fun j h1 h2 => ?_)
  exact decide_eq_decide.mpr ⟨fun q => ⟨h1, by omega, q⟩, fun q => q.2.2⟩
theorem txr_get3 (hn : 0 ≤ R.2.1) {k : Int} (h0 : 0 ≤ k) (h1 : k < plOf R.1 R.2.1 R.2.1) : (TxR 3 R)[k.toNat]? = some (R.1 0 (ixOf R.1 R.2.1 k)) ∧ 0 ≤ ixOf R.1 R.2.1 k ∧ ixOf R.1 R.2.1 k < R.2.1 := by
  have e : plOf R.1 R.2.1 R.2.1 = cntF (fun i => decide (R.1 3 i = -1)) R.2.1.toNat 0 := by
    unfold plOf
    rw [Int.min_self]
    rfl
  rw [e] at h1
  have e2 : ixOf R.1 R.2.1 k = scan (fun i => decide (R.1 3 i = -1)) R.2.1.toNat 0 k := by
    rw [← scan_more _ _ _ h0 h1]
    unfold ixOf
    rw [show (R.2.1 + 1).toNat = R.2.1.toNat + 1 by omega]
    exact scan_congr _ _ _ (fun j j0 j1 => decide_eq_decide.mpr ⟨fun q => q.2.2, fun q => ⟨j0, by omega, q⟩⟩)
  have e3 := scan_ex (p := fun i => decide (R.1 3 i = -1)) R.2.1.toNat 0 k h0 h1
  rw [e2]
  unfold TxR
  exact ⟨txt_get _ _ _ h0 h1, e3.1, by omega⟩
theorem txr_get2 (hn : 0 ≤ R.2.1) {k : Int} (h0 : 0 ≤ k) (h1 : k < oldN R.1 R.2.1) : (TxR 2 R)[k.toNat]? = some (R.1 0 (ixOld R.1 R.2.1 k)) ∧ 0 ≤ ixOld R.1 R.2.1 k ∧ ixOld R.1 R.2.1 k < R.2.1 := by
  have hc : ∀ j : Int, 0 ≤ j → j < 0 + (R.2.1.toNat : Int) → oldB R.1 R.2.1 j = (fun i => decide (R.1 2 i = -1)) j := fun j j0 j1 => decide_eq_decide.mpr ⟨fun q => q.2.2, fun q => ⟨j0, by omega, q⟩⟩
  have e : oldN R.1 R.2.1 = cntF (fun i => decide (R.1 2 i = -1)) R.2.1.toNat 0 := cntF_congr _ _ hc
  rw [e] at h1
  have e2 : ixOld R.1 R.2.1 k = scan (fun i => decide (R.1 2 i = -1)) R.2.1.toNat 0 k := scan_congr _ _ _ hc
  have e3 := scan_ex (p := fun i => decide (R.1 2 i = -1)) R.2.1.toNat 0 k h0 h1
  rw [e2]
  unfold TxR
  exact ⟨txt_get _ _ _ h0 h1, e3.1, by omega⟩
/-- which text stays -/
def wOf (acc : Bool) : Int := if acc = true then 3 else 2
theorem stl_all {acc : Bool} : ∀ (m : Nat) (D : PapD) (c n : Int), PpL D → 0 ≤ c → c + m ≤ D.2.1.1 → 0 ≤ n → (∀ j, 0 ≤ j → j < c → D.2.1.2.2.2 j ≠ 119) → (PpL (upX (stlF (-1) acc) m c (D, n)).1 ∧ (upX (stlF (-1) acc) m c (D, n)).1.2.1.1 = D.2.1.1 ∧ 0 ≤ (upX (stlF (-1) acc) m c (D, n)).2) ∧ (∀ j, 0 ≤ j → j < c + m → (upX (stlF (-1) acc) m c (D, n)).1.2.1.2.2.2 j ≠ 119) ∧ TxR (wOf acc) (upX (stlF (-1) acc) m c (D, n)).1.1 = TxR (wOf acc) D.1 := by
  intro m
  induction m with
  | zero => intro D c n hP h0 hm hn hj; exact ⟨⟨hP, rfl, hn⟩, fun j j0 j1 => hj j j0 (by omega), rfl⟩
  | succ m ih =>
    intro D c n hP h0 hm hn hj
    by_cases hw : D.2.1.2.2.2 c = 119
    · have e : upX (stlF (-1) acc) (m + 1) c (D, n) = upX (stlF (-1) acc) m (c + 1) (setlD D c acc, n + 1) := by
        show upX (stlF (-1) acc) m (c + 1) (stlF (-1) acc (D, n) c) = _
        rw [show stlF (-1) acc (D, n) c = (setlD D c acc, n + 1) from if_pos ⟨hw, Or.inl rfl⟩]
      rw [e]
      have hc : 0 ≤ c ∧ c < D.2.1.1 := ⟨h0, by omega⟩
      obtain ⟨p1, -⟩ := hP.setl (acc := acc) hc
      obtain ⟨⟨r1, r2, r3⟩, r4, r5⟩ := ih (setlD D c acc) (c + 1) (n + 1) p1 (by omega) (by show c + 1 + (m : Int) ≤ D.2.1.1; omega) (by omega) (fun j j0 j1 => by
        show (if j = c then (if acc = true then (97 : Int) else 114) else D.2.1.2.2.2 j) ≠ 119
        by_cases q : j = c
        · rw [if_pos q]
          split <;> omega
        · rw [if_neg q]
          exact hj j j0 (by omega))
      refine ⟨⟨r1, r2, r3⟩, fun j j0 j1 => r4 j j0 (by omega), r5.trans ?_⟩
      exact TxR_setl hP.1.1 h0 ((hP.2.2 c hc.1 hc.2).imp id Or.inl)
    · have e : upX (stlF (-1) acc) (m + 1) c (D, n) = upX (stlF (-1) acc) m (c + 1) (D, n) := by
        show upX (stlF (-1) acc) m (c + 1) (stlF (-1) acc (D, n) c) = _
        rw [show stlF (-1) acc (D, n) c = (D, n) from if_neg (fun z => hw z.1)]
      rw [e]
      obtain ⟨r1, r4, r5⟩ := ih D (c + 1) n hP (by omega) (by omega) hn (fun j j0 j1 => by
        by_cases q : j = c
        · rw [q]; exact hw
        · exact hj j j0 (by omega))
      exact ⟨r1, fun j j0 j1 => r4 j j0 (by omega), r5⟩
/-- all judged: no mark is left, and the text is what it was -/
theorem PpL.left (h : PpL D) {acc : Bool} : PpL (stlAll D (-1) acc).1 ∧ 0 ≤ (stlAll D (-1) acc).2 ∧ (∀ i, 0 ≤ i → i < (stlAll D (-1) acc).1.1.2.1 → (stlAll D (-1) acc).1.1.1 2 i = -1 ∧ (stlAll D (-1) acc).1.1.1 3 i = -1) ∧ TxR (wOf acc) (stlAll D (-1) acc).1.1 = TxR (wOf acc) D.1 := by
  have h0 := h.1.2.1.1.1
  obtain ⟨⟨r1, r2, r3⟩, r4, r5⟩ := stl_all (acc := acc) D.2.1.1.toNat D 0 0 h (Int.le_refl _) (by omega) (Int.le_refl _) (fun j j0 j1 => by omega)
  refine ⟨r1, r3, fun i i0 i1 => ?_, r5⟩
  obtain ⟨m1, m2, -⟩ := PpL.u (D := (stlAll D (-1) acc).1) r1 i0 (by omega)
  have no : ∀ {kd m : Int}, mkOK (stlAll D (-1) acc).1.2.1 kd m → m = -1 := fun {kd m} hm => by
    rcases hm with hm | ⟨q1, q2, q3, q4⟩
    · exact hm
    · have q2 : m < (upX (stlF (-1) acc) D.2.1.1.toNat 0 (D, 0)).1.2.1.1 := q2
      rw [r2] at q2
      exact absurd q4 (r4 m q1 (by omega))
  exact ⟨no m1, no m2⟩
theorem cnt_all : ∀ (m : Nat) (i : Int), (∀ j, i ≤ j → j < i + m → p j = true) → cntF p m i = m
  | 0, _, _ => rfl
  | m + 1, i, h => by
    rw [cntF, if_pos (h i (Int.le_refl _) (by omega)), cnt_all m (i + 1) (fun j h1 h2 => h j (by omega) (by omega))]
    omega
/-- where no mark is left, all units are seen, and old -/
theorem clean_row (hn : 0 ≤ R.2.1) (h : ∀ i, 0 ≤ i → i < R.2.1 → R.1 2 i = -1 ∧ R.1 3 i = -1) : plOf R.1 R.2.1 R.2.1 = R.2.1 ∧ oldN R.1 R.2.1 = R.2.1 ∧ (∀ i, 0 ≤ i → i < R.2.1 → ixOf R.1 R.2.1 i = i ∧ ixOld R.1 R.2.1 i = i) ∧ ∀ acc : Bool, ((TxR (wOf acc) R).length : Int) = R.2.1 := by
  have c1 : ∀ i, 0 ≤ i → i ≤ R.2.1 → cP R i = i := fun i i0 i1 => by
    unfold cP
    rw [cnt_all (p := seenB R.1 R.2.1) i.toNat 0 (fun j j0 j1 => decide_eq_true ⟨j0, by omega, (h j j0 (by omega)).2⟩)]
    omega
  have c2 : ∀ i, 0 ≤ i → i ≤ R.2.1 → cO R i = i := fun i i0 i1 => by
    unfold cO
    rw [cnt_all (p := oldB R.1 R.2.1) i.toNat 0 (fun j j0 j1 => decide_eq_true ⟨j0, by omega, (h j j0 (by omega)).1⟩)]
    omega
  have e1 : plOf R.1 R.2.1 R.2.1 = R.2.1 := by
    unfold plOf
    rw [Int.min_self, cnt_all (p := leftB R.1) R.2.1.toNat 0 (fun j j0 j1 => decide_eq_true (h j j0 (by omega)).2)]
    omega
  have e2 : oldN R.1 R.2.1 = R.2.1 := c2 _ hn (Int.le_refl _)
  refine ⟨e1, e2, fun i i0 i1 => ⟨?_, ?_⟩, fun acc => ?_⟩
  · have q := ix_at (R := R) i0 (by omega) (h i i0 i1).2
    rw [c1 i i0 (by omega)] at q
    exact q
  · have q := ixOld_at (R := R) i0 i1 (h i i0 i1).1
    rw [c2 i i0 (by omega)] at q
    exact q
  · cases acc
    · exact (txr_len2 hn).trans e2
    · exact (txr_len3 hn).trans e1
end Left
