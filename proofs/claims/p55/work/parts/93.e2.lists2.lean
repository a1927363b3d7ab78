/-! What a row is asked, on the list. -/
section ToM
variable {R : RowD} {D : PapD} {F : Int → Int → Int} {L : LogD} {nf ns a c n : Int}
theorem cntS_t : ∀ (m : Nat) (i : Int), (∀ j, i ≤ j → j < i + m → -1 ≤ F 3 j) → cntS (tLi F m i) = cntF (leftB F) m i
  | 0, _, _ => rfl
  | m + 1, i, hw => by
    have h0 := hw i (Int.le_refl _) (by omega)
    rw [tLi, cntS, cntS_t m (i + 1) (fun j h1 h2 => hw j (by omega) (by omega)), cntF]
    refine congrArg (· + _) ?_
    show (if F 3 i < 0 then (1 : Int) else 0) = if decide (F 3 i = -1) = true then 1 else 0
    by_cases h : F 3 i = -1
    · rw [if_pos (by omega), if_pos (decide_eq_true h)]
    · rw [if_neg (by omega), if_neg (by simpa using h)]
theorem cntC_t (h4 : ∀ j, F 4 j = -1) (hc : 0 ≤ c) (e2 : F 2 n = -1) (e3 : F 3 n = -1) : ∀ (m : Nat) (i : Int), i + m = n → cntF (concB F c) (m + 1) i = cntC c (tLi F m i)
  | 0, i, hi => by
    have : i = n := by omega
    subst this
    show (if decide (F 2 i = c ∨ F 3 i = c ∨ F 4 i = c) = true then (1 : Int) else 0) + 0 = 0
    rw [if_neg (by rw [decide_eq_true_eq, e2, e3, h4]; omega)]
    rfl
  | m + 1, i, hi => by
    rw [cntF, cntC_t h4 hc e2 e3 m (i + 1) (by omega), tLi, cntC]
    refine congrArg (· + _) ?_
    show (if decide (F 2 i = c ∨ F 3 i = c ∨ F 4 i = c) = true then (1 : Int) else 0) = if F 2 i = c ∨ F 3 i = c then 1 else 0
    by_cases h : F 2 i = c ∨ F 3 i = c
    · rw [if_pos h, if_pos (by rw [decide_eq_true_eq]; omega)]
    · rw [if_neg h, if_neg (by rw [decide_eq_true_eq, h4]; omega)]
theorem scan_t (e3 : F 3 n = -1) : ∀ (m : Nat) (i k : Int), 0 ≤ i → i + m = n → (∀ j, i ≤ j → j < n → -1 ≤ F 3 j) → 0 ≤ k → k ≤ cntS (tLi F m i) → scan (seenB F n) (m + 1) i k = i + atL (tLi F m i) k
  | 0, i, k, h0, hi, hw, k0, k1 => by
    have e : i = n := by omega
    subst e
    have ek : k = 0 := by rw [tLi, cntS] at k1; omega
    subst ek
    rw [scan, if_pos (show seenB F i i = true from decide_eq_true ⟨h0, Int.le_refl _, e3⟩), if_pos rfl, tLi, atL]
    omega
  | m + 1, i, k, h0, hi, hw, k0, k1 => by
    have hwi := hw i (Int.le_refl _) (by omega)
    rw [tLi, cntS] at k1
    rw [scan, tLi]
    by_cases h : F 3 i = -1
    · have hv : (uR F i).2.2 < 0 := by show F 3 i < 0; omega
      rw [if_pos hv] at k1
      rw [if_pos (show seenB F n i = true from decide_eq_true ⟨h0, by omega, h⟩)]
      by_cases hk : k = 0
      · rw [if_pos hk, hk, atL_s0 hv]
        omega
      · rw [if_neg hk, atL_s1 hv (by omega), scan_t e3 m (i + 1) (k - 1) (by omega) (by omega) (fun j h1 h2 => hw j (by omega) h2) (by omega) (by omega)]
        omega
    · have hv : ¬ (uR F i).2.2 < 0 := by show ¬ F 3 i < 0; omega
      rw [if_neg hv] at k1
      rw [if_neg (by unfold seenB; rw [decide_eq_true_eq]; omega), atL_u (by omega), scan_t e3 m (i + 1) k (by omega) (by omega) (fun j h1 h2 => hw j (by omega) h2) k0 (by omega)]
      omega
/-- what the law's papers keep: no field, no style, none guarded -/
def PpL (D : PapD) : Prop := PpI 0 1 D ∧ (∀ j, D.1.1 4 j = -1 ∧ D.1.1 10 j = 0) ∧ ∀ c, 0 ≤ c → c < D.2.1.1 → D.2.1.2.1 c = 105 ∨ D.2.1.2.1 c = 101
theorem mkOK.ge {kd m : Int} (h : mkOK L kd m) : -1 ≤ m ∧ (0 ≤ m → m < L.1 ∧ L.2.1 m = kd ∧ L.2.2.2 m = 119) := by
  rcases h with h | ⟨h1, h2, h3, h4⟩
  · exact ⟨by omega, fun z => by omega⟩
  · exact ⟨by omega, fun _ => ⟨h2, h3, h4⟩⟩
theorem PpL.u (h : PpL D) {i : Int} (h0 : 0 ≤ i) (h1 : i ≤ D.1.2.1) : mkOK D.2.1 105 (D.1.1 2 i) ∧ mkOK D.2.1 101 (D.1.1 3 i) ∧ D.1.1 1 i = -1 ∧ (D.1.1 0 i = 47 ∨ D.1.1 0 i = 32 ∨ (97 ≤ D.1.1 0 i ∧ D.1.1 0 i ≤ 122)) := by
  obtain ⟨a, b, c, -⟩ := h.1.1.2.2.2.1 i h0 h1
  rcases a with ⟨a1, a2⟩ | ⟨a1, a2, -⟩
  · exact ⟨b, c, a1, a2⟩
  · omega
theorem PpL.nn (h : PpL D) : 0 ≤ D.1.2.1 ∧ D.1.2.1 ≤ 200 := ⟨h.1.1.2.1.1, h.1.1.2.1.2.1⟩
theorem PpL.e (h : PpL D) : D.1.1 2 D.1.2.1 = -1 ∧ D.1.1 3 D.1.2.1 = -1 ∧ D.1.1 0 D.1.2.1 = 47 := ⟨h.1.1.2.2.1, h.1.1.1.2.2.1, h.1.1.1.2.2.2⟩
theorem PpL.len (h : PpL D) : plOf D.1.1 D.1.2.1 D.1.2.1 = cntS (toL D.1) := by
  have hn := h.nn
  rw [toL_eq, cntS_t _ _ (fun j h1 h2 => (h.u (i := j) (by omega) (by omega)).2.1.ge.1)]
  unfold plOf
  rw [Int.min_self]
theorem PpL.ix (h : PpL D) {p : Int} (h0 : 0 ≤ p) (h1 : p ≤ cntS (toL D.1)) : ixOf D.1.1 D.1.2.1 p = atL (toL D.1) p := by
  have hn := h.nn
  rw [toL_eq] at h1 ⊢
  have := scan_t h.e.2.1 D.1.2.1.toNat 0 p (Int.le_refl _) (by omega) (fun j h1 h2 => (h.u (i := j) h1 (by omega)).2.1.ge.1) h0 h1
  rw [Int.zero_add] at this
  rw [← this]
  unfold ixOf
  exact congrArg (fun m => scan _ m 0 p) (by omega)
theorem PpL.conc (h : PpL D) {c : Int} (hc : 0 ≤ c) : concN D.1.1 D.1.2.1 c = cntC c (toL D.1) := by
  have hn := h.nn
  rw [toL_eq, ← cntC_t (fun j => (h.2.1 j).1) hc h.e.1 h.e.2.1 D.1.2.1.toNat 0 (by omega)]
  unfold concN
  exact congrArg (fun m => cntF _ m 0) (by omega)
theorem PpL.own (h : PpL D) {i : Int} (h0 : 0 ≤ i) (h1 : i ≤ D.1.2.1) : waitsD D.2.1 (D.1.1 2 i) a = ownV D.2.1.2.2.1 a (uR D.1.1 i) := by
  have hu := (h.u h0 h1).1.ge
  unfold waitsD ownV
  refine decide_eq_decide.mpr ?_
  show _ ↔ 0 ≤ D.1.1 2 i ∧ D.2.1.2.2.1 (D.1.1 2 i) = a
  constructor
  · rintro ⟨q1, -, -, q4⟩
    exact ⟨q1, q4⟩
  · rintro ⟨q1, q4⟩
    obtain ⟨q5, -, q6⟩ := hu.2 q1
    exact ⟨q1, q5, q6, q4⟩
/-- the change that the unit ahead is of, where it is this author's -/
theorem PpL.ahead (h : PpL D) {i : Int} (h0 : 0 ≤ i) (h1 : i ≤ D.1.2.1) : (0 ≤ wrA (toL D.1) i ∧ D.2.1.2.2.1 (wrA (toL D.1) i) = a → chAhD D a i = wrA (toL D.1) i) ∧ (¬ (0 ≤ wrA (toL D.1) i ∧ D.2.1.2.2.1 (wrA (toL D.1) i) = a) → chAhD D a i = -1) := by
  have hn := h.nn
  by_cases hi : i = 0
  · have e1 : wrA (toL D.1) i = -1 := if_pos hi
    have e2 : chAhD D a i = -1 := if_neg (by omega)
    rw [e1, e2]
    exact ⟨fun q => absurd q.1 (by decide), fun _ => rfl⟩
  · have e1 : wrA (toL D.1) i = D.1.1 2 (i - 1) := by
      unfold wrA
      rw [if_neg hi, List.getD_eq_getElem?_getD, toL_get (by omega), show (((i - 1).toNat : Nat) : Int) = i - 1 by omega]
      rfl
    have e3 := h.own (a := a) (i := i - 1) (by omega) (by omega)
    rw [e1]
    unfold chAhD
    rw [e3]
    refine ⟨fun q => if_pos ⟨by omega, decide_eq_true q⟩, fun q => if_neg (fun z => q (of_decide_eq_true z.2))⟩
theorem any_t {p : Int → Bool} (hp : ∀ j, 0 ≤ j → j ≤ n → p j = (decide (F 3 j = -1) && !(ownV D.2.1.2.2.1 a (uR F j)))) : ∀ (m : Nat) (i : Int) (s : Nat), 0 ≤ i → i + m = n → (∀ j, i ≤ j → j < n → -1 ≤ F 3 j) → (s : Int) ≤ cntS (tLi F m i) → anyF p (atL (tLi F m i) s).toNat i = ndL D.2.1.2.2.1 a (tLi F m i) s
  | 0, i, s, h0, hi, hw, hs => by
    rw [tLi, atL, ndL]
    rfl
  | m + 1, i, s, h0, hi, hw, hs => by
    have hwi := hw i (Int.le_refl _) (by omega)
    have ht := atL_le (tLi F m (i + 1))
    rw [tLi, cntS] at hs
    rw [tLi]
    by_cases h : F 3 i = -1
    · have hv : (uR F i).2.2 < 0 := by show F 3 i < 0; omega
      rw [if_pos hv] at hs
      by_cases hk : s = 0
      · subst hk
        rw [show ((0 : Nat) : Int) = 0 from rfl, atL_s0 hv, ndL, if_pos rfl]
        rfl
      · have ih := any_t hp m (i + 1) (s - 1) (by omega) (by omega) (fun j h1 h2 => hw j (by omega) h2) (by omega)
        have h2 := (ht ((s : Int) - 1)).1
        rw [show ((s - 1 : Nat) : Int) = (s : Int) - 1 by omega] at ih
        rw [atL_s1 hv (by omega), show (1 + atL (tLi F m (i + 1)) ((s : Int) - 1)).toNat = (atL (tLi F m (i + 1)) ((s : Int) - 1)).toNat + 1 by omega, anyF, ih, ndL, if_neg hk, if_pos hv, hp i h0 (by omega), decide_eq_true h]
        rfl
    · have hv : ¬ (uR F i).2.2 < 0 := by show ¬ F 3 i < 0; omega
      rw [if_neg hv] at hs
      have ih := any_t hp m (i + 1) s (by omega) (by omega) (fun j h1 h2 => hw j (by omega) h2) (by omega)
      have h2 := (ht (s : Int)).1
      rw [atL_u (by omega), show (1 + atL (tLi F m (i + 1)) (s : Int)).toNat = (atL (tLi F m (i + 1)) (s : Int)).toNat + 1 by omega, anyF, ih, ndL, hp i h0 (by omega), decide_eq_false h]
      by_cases hk : s = 0
      · subst hk
        rw [if_pos rfl, ndL_0]
        rfl
      · rw [if_neg hk, if_neg hv]
        rfl
theorem tLi_drop : ∀ (k m : Nat) (i : Int), (tLi F m i).drop k = tLi F (m - k) (i + k)
  | 0, m, i => by rw [List.drop_zero, Nat.sub_zero]; exact congrArg (tLi F m) (by omega)
  | k + 1, 0, i => by rw [tLi, List.drop_nil, Nat.zero_sub, tLi]
  | k + 1, m + 1, i => by
    rw [tLi, List.drop_succ_cons, tLi_drop k m (i + 1), Nat.succ_sub_succ]
    exact congrArg (tLi F (m - k)) (by omega)
theorem PpL.need (h : PpL D) {x : Int} {s : Nat} (h0 : 0 ≤ x) (h1 : x ≤ D.1.2.1) (hs : (s : Int) ≤ cntS ((toL D.1).drop x.toNat)) : needD D a x (x + atL ((toL D.1).drop x.toNat) s) = ndL D.2.1.2.2.1 a ((toL D.1).drop x.toNat) s := by
  have hn := h.nn
  rw [toL_eq, tLi_drop] at hs ⊢
  rw [show (0 : Int) + (x.toNat : Nat) = x by omega] at hs ⊢
  unfold needD
  rw [show x + atL (tLi D.1.1 (D.1.2.1.toNat - x.toNat) x) (s : Int) - x = atL (tLi D.1.1 (D.1.2.1.toNat - x.toNat) x) (s : Int) by omega]
  refine any_t (n := D.1.2.1) (D := D) (fun j j0 j1 => ?_) _ _ _ h0 (by omega) (fun j j0 j1 => (h.u (i := j) (by omega) (by omega)).2.1.ge.1) hs
  unfold othD
  rw [h.own j0 j1]
  refine congrArg (· && _) ?_
  unfold seenB
  exact decide_eq_decide.mpr ⟨fun q => q.2.2, fun q => ⟨j0, j1, q⟩⟩
end ToM
