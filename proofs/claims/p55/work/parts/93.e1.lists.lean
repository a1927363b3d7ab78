/-! A row as the law holds it. -/
section ToL
variable {R : RowD} {D : PapD} {F : Int → Int → Int} {au : Int → Int} {a c n : Int}
def uR (F : Int → Int → Int) (i : Int) : Un := (F 0 i, F 2 i, F 3 i)
/-- units from i on, as the law holds them -/
def tLi (F : Int → Int → Int) : Nat → Int → List Un
  | 0, _ => []
  | m + 1, i => uR F i :: tLi F m (i + 1)
theorem tLi_len : ∀ (m : Nat) (i : Int), (tLi F m i).length = m
  | 0, _ => rfl
  | m + 1, i => by rw [tLi, List.length_cons, tLi_len m]
theorem tLi_get : ∀ (m : Nat) (i : Int) (j : Nat), j < m → (tLi F m i)[j]? = some (uR F (i + j))
  | 0, _, j, h => absurd h (Nat.not_lt_zero _)
  | m + 1, i, 0, h => by rw [tLi, List.getElem?_cons_zero]; exact congrArg (fun z => some (uR F z)) (by omega)
  | m + 1, i, j + 1, h => by
    rw [tLi, List.getElem?_cons_succ, tLi_get m (i + 1) j (by omega)]
    exact congrArg (fun z => some (uR F z)) (by omega)
theorem toL_len : (toL R).length = R.2.1.toNat := by
  unfold toL
  rw [List.length_map, List.length_range]
theorem toL_get {i : Nat} (h : i < R.2.1.toNat) : (toL R)[i]? = some (uR R.1 i) := by
  unfold toL
  rw [List.getElem?_map, List.getElem?_range h]
  rfl
theorem toL_ext {l : List Un} (hl : l.length = R.2.1.toNat) (h : ∀ i : Nat, i < R.2.1.toNat → l[i]? = some (uR R.1 i)) : toL R = l := by
  refine List.ext_getElem? (fun i => ?_)
  by_cases hi : i < R.2.1.toNat
  · rw [toL_get hi, h i hi]
  · rw [List.getElem?_eq_none (by rw [toL_len]; omega), List.getElem?_eq_none (by omega)]
theorem toL_eq : toL R = tLi R.1 R.2.1.toNat 0 := toL_ext (tLi_len _ _) (fun i hi => by rw [tLi_get _ _ _ hi, Int.zero_add])
theorem toL_mem {v : Un} (h : v ∈ toL R) : ∃ i : Int, 0 ≤ i ∧ i < R.2.1 ∧ v = uR R.1 i := by
  obtain ⟨i, hi, e⟩ := List.getElem_of_mem h
  rw [toL_len] at hi
  have h2 := toL_get hi
  have h3 : (toL R)[i]? = some v := by rw [← e]; exact List.getElem?_eq_getElem _
  rw [h3] at h2
  exact ⟨i, by omega, by omega, Option.some.inj h2⟩
theorem toL_drp {i : Int} (h : 0 ≤ i ∧ i < R.2.1) : toL (drpR R i) = (toL R).eraseIdx i.toNat := by
  have en : (drpR R i).2.1 = R.2.1 - 1 := rfl
  refine toL_ext (by rw [List.length_eraseIdx, toL_len, if_pos (by omega), en]; omega) (fun j hj => ?_)
  rw [en] at hj
  rw [List.getElem?_eraseIdx]
  by_cases hji : j < i.toNat
  · rw [if_pos hji, toL_get (by omega)]
    unfold uR
    rw [drp_at, drp_at, drp_at, if_pos (by omega), if_pos (by omega), if_pos (by omega)]
  · rw [if_neg hji, toL_get (by omega)]
    unfold uR
    rw [drp_at, drp_at, drp_at, if_neg (by omega), if_neg (by omega), if_neg (by omega)]
    rfl
theorem putU_at {i l fd z w j : Int} (hw : w = 0 ∨ w = 2 ∨ w = 3) : (putR R i l fd z).1 w j = if j < i then R.1 w j else if j = i then (if w = 0 then l else if w = 2 then z else -1) else R.1 w (j - 1) := by
  show (if j < i then R.1 w j else if j = i then _ else R.1 w (j - 1)) = _
  by_cases h1 : j < i
  · rw [if_pos h1, if_pos h1]
  · rw [if_neg h1, if_neg h1]
    by_cases h2 : j = i
    · rw [if_pos h2, if_pos h2]
      rcases hw with e | e | e <;> subst e <;> rfl
    · rw [if_neg h2, if_neg h2]
theorem toL_put {i l fd z : Int} (h : 0 ≤ i ∧ i ≤ R.2.1) : toL (putR R i l fd z) = (toL R).take i.toNat ++ (l, z, -1) :: (toL R).drop i.toNat := by
  have en : (putR R i l fd z).2.1 = R.2.1 + 1 := rfl
  have hl := toL_len (R := R)
  refine toL_ext (by rw [List.length_append, List.length_cons, List.length_take, List.length_drop, hl, en]; omega) (fun j hj => ?_)
  rw [en] at hj
  have ht : ((toL R).take i.toNat).length = i.toNat := by rw [List.length_take, hl]; omega
  have eu : uR (putR R i l fd z).1 j = if (j : Int) < i then uR R.1 j else if (j : Int) = i then (l, z, -1) else uR R.1 ((j : Int) - 1) := by
    unfold uR
    rw [putU_at (Or.inl rfl), putU_at (Or.inr (Or.inl rfl)), putU_at (Or.inr (Or.inr rfl))]
    by_cases h1 : (j : Int) < i
    · rw [if_pos h1, if_pos h1, if_pos h1, if_pos h1]
    · rw [if_neg h1, if_neg h1, if_neg h1, if_neg h1]
      by_cases h2 : (j : Int) = i
      · rw [if_pos h2, if_pos h2, if_pos h2, if_pos h2]
        rfl
      · rw [if_neg h2, if_neg h2, if_neg h2, if_neg h2]
  rw [eu]
  by_cases h1 : (j : Int) < i
  · rw [if_pos h1, List.getElem?_append_left (by omega), List.getElem?_take, if_pos (by omega), toL_get (by omega)]
  · rw [if_neg h1]
    by_cases h2 : (j : Int) = i
    · rw [if_pos h2]
      exact getMid (by omega)
    · rw [if_neg h2, List.getElem?_append_right (by omega), ht, show j - i.toNat = (j - i.toNat - 1) + 1 by omega, List.getElem?_cons_succ, List.getElem?_drop, show i.toNat + (j - i.toNat - 1) = j - 1 by omega, toL_get (by omega)]
      exact congrArg (fun q => some (uR R.1 q)) (by omega)
theorem toL_at {pre post : List Un} {v : Un} {i : Int} (h : toL R = pre ++ v :: post) (hi : (pre.length : Int) = i) : v = uR R.1 i ∧ 0 ≤ i ∧ i < R.2.1 := by
  have h1 : (toL R)[i.toNat]? = some v := by rw [h]; exact getMid (by omega)
  have hl := congrArg List.length h
  rw [toL_len, List.length_append, List.length_cons] at hl
  rw [toL_get (by omega), show ((i.toNat : Nat) : Int) = i by omega] at h1
  exact ⟨(Option.some.inj h1).symm, by omega, by omega⟩
theorem toL_dropM {pre post : List Un} {v : Un} {i : Int} (h : toL R = pre ++ v :: post) (hi : (pre.length : Int) = i) : toL (drpR R i) = pre ++ post := by
  obtain ⟨-, h0, h1⟩ := toL_at h hi
  rw [toL_drp ⟨h0, h1⟩, h]
  exact eraseMid (by omega)
theorem toL_setM {pre post : List Un} {v : Un} {i z : Int} (h : toL R = pre ++ v :: post) (hi : (pre.length : Int) = i) : toL (setR R 3 i z) = pre ++ (v.1, v.2.1, z) :: post := by
  obtain ⟨e, h0, h1⟩ := toL_at h hi
  have hl := congrArg List.length h
  rw [toL_len, List.length_append, List.length_cons] at hl
  refine toL_ext (by rw [List.length_append, List.length_cons]; exact hl.symm) (fun j hj => ?_)
  have hj2 : j < R.2.1.toNat := hj
  have eu : uR (setR R 3 i z).1 j = if (j : Int) = i then ((uR R.1 j).1, (uR R.1 j).2.1, z) else uR R.1 j := by
    unfold uR
    rw [setR_at, setR_at, setR_at, if_neg (by omega), if_neg (by omega)]
    by_cases hji : (j : Int) = i
    · rw [if_pos ⟨rfl, hji⟩, if_pos hji]
    · rw [if_neg (fun q => hji q.2), if_neg hji]
  rw [eu]
  have hg := toL_get hj2
  rw [h] at hg
  by_cases hji : (j : Int) = i
  · rw [if_pos hji, getMid (by omega), hji, ← e]
  · rw [if_neg hji, ← hg]
    by_cases hlt : j < pre.length
    · rw [List.getElem?_append_left hlt, List.getElem?_append_left hlt]
    · rw [List.getElem?_append_right (by omega), List.getElem?_append_right (by omega), show j - pre.length = (j - pre.length - 1) + 1 by omega, List.getElem?_cons_succ, List.getElem?_cons_succ]
/-- a loop downward, told on the list -/
theorem dn_list {f : RowD → Int → RowD} {g : Un → Option Un} {Pp : RowD → Prop} (hf : ∀ R i pre v post, Pp R → toL R = pre ++ v :: post → (pre.length : Int) = i → Pp (f R i) ∧ toL (f R i) = pre ++ ((g v).toList ++ post)) : ∀ (m : Nat) (R : RowD) (i : Int) (pre mid post : List Un), Pp R → toL R = pre ++ (mid ++ post) → mid.length = m → i = pre.length + m - 1 → Pp (dnX f m i R) ∧ toL (dnX f m i R) = pre ++ (mid.filterMap g ++ post) := by
  intro m
  induction m with
  | zero =>
    intro R i pre mid post hP h hm hi
    have : mid = [] := List.eq_nil_of_length_eq_zero hm
    subst this
    exact ⟨hP, h⟩
  | succ m ih =>
    intro R i pre mid post hP h hm hi
    rcases List.eq_nil_or_concat mid with e | ⟨mid', v, e⟩
    · rw [e] at hm
      exact absurd hm (by simp)
    · rw [List.concat_eq_append] at e
      subst e
      rw [List.length_append] at hm
      have hm2 : mid'.length = m := by simpa using hm
      have h' : toL R = (pre ++ mid') ++ v :: post := by rw [h]; simp
      obtain ⟨q1, q2⟩ := hf R i (pre ++ mid') v post hP h' (by rw [List.length_append]; omega)
      obtain ⟨q3, q4⟩ := ih (f R i) (i - 1) pre mid' ((g v).toList ++ post) q1 (by rw [q2]; simp) hm2 (by omega)
      refine ⟨q3, ?_⟩
      show toL (dnX f m (i - 1) (f R i)) = _
      rw [q4, List.filterMap_append]
      have e9 : List.filterMap g [v] = (g v).toList := by
        cases hg : g v with
        | none => simp [hg]
        | some w => simp [hg]
      rw [e9, List.append_assoc]
end ToL
