/-! The newest document judged. -/
section Judges
variable {σ σ' τ : St} {A : PastD} {F : Nat → DocF}
theorem all_beg {Q : PapD → Prop} {D : PapD} (h : ∀ j, j ≤ A.2.1 + A.2.2 → Q (A.1 j)) (hD : Q D) : ∀ j, j ≤ (edA (begA A) D).2.1 + (edA (begA A) D).2.2 → Q ((edA (begA A) D).1 j) := by
  intro j hj
  have hj2 : j ≤ (begA A).2.1 + (begA A).2.2 := hj
  show Q (if j = (begA A).2.1 then D else (begA A).1 j)
  by_cases e : j = (begA A).2.1
  · rw [if_pos e]; exact hD
  · rw [if_neg e]
    unfold begA at hj2 e ⊢
    by_cases h6 : A.2.1 = 6
    · rw [if_pos h6] at hj2 e ⊢
      have e2 : ¬ j = 6 := e
      have e3 : j ≤ 6 := hj2
      show Q (if j < 6 then A.1 (j + 1) else A.1 6)
      rw [if_pos (by omega)]
      exact h _ (by omega)
    · rw [if_neg h6] at hj2 e ⊢
      have e2 : ¬ j = A.2.1 + 1 := e
      have e3 : j ≤ A.2.1 + 1 := hj2
      show Q (if j = A.2.1 + 1 then A.1 A.2.1 else A.1 j)
      rw [if_neg e2]
      exact h _ (by omega)
def setF (F : Nat → DocF) (k : Nat) (f : DocF) : Nat → DocF := fun j => if j = k then f else F j
/-- the newest document changes -/
theorem DkR.now (h : DkR σ F A.2.1 A.2.2 A.1) {f : DocF} {D : PapD} (hD : DocP τ f D) (hF : OutD σ τ (fpD (F A.2.1))) (hf : f.1 = (F A.2.1).1) (hsub : ∀ x, fpD f x → fpD (F A.2.1) x ∨ σ.2.2 ≤ x) : DkR τ (setF F A.2.1 f) (edA A D).2.1 (edA A D).2.2 (edA A D).1 := by
  obtain ⟨hT, ⟨a1, a2, a3⟩, b, c, d, e, hS⟩ := id h
  obtain ⟨⟨g1, g2, g3⟩, ⟨p1, p2⟩, hc⟩ := id hT
  have hno := fun x hx => (e A.2.1 (by omega)).no hT (x := x) hx
  have n1 : ¬ fpD (F A.2.1) 109 := fun z => (hno 109 z).1 rfl
  have n2 : ¬ fpD (F A.2.1) 114 := fun z => (hno 114 z).2.1 rfl
  have n3 : ¬ fpD (F A.2.1) 115 := fun z => (hno 115 z).2.2 rfl
  have m1 := hF.2 109 (by omega) n1
  have m2 := hF.2 114 (by omega) n2
  have m3 := hF.2 115 (by omega) n3
  have sF : ∀ {i}, i ≠ A.2.1 → setF F A.2.1 f i = F i := fun hi => if_neg hi
  have sN : setF F A.2.1 f A.2.1 = f := if_pos rfl
  refine ⟨⟨⟨(hF.gam (by omega) n1).trans g1, (hF.gam (by omega) n2).trans g2, (hF.gam (by omega) n3).trans g3⟩, ⟨(m1.2 1).trans p1, (m1.2 3).trans p2⟩, Nat.le_trans hc hF.1⟩, ⟨(m1.1 2).trans a1, (m1.1 4).trans a2, a3⟩, ?_, fun i hi => ?_, fun i hi => ?_, fun j hj => ?_, fun i j hi hj hij x hx hy => ?_⟩
  · show _ = some (setF F A.2.1 f A.2.1).1
    rw [sN, hf]
    exact (m1.2 0).trans b
  · have hi2 : i < A.2.1 := hi
    rw [sF (by omega)]
    exact (m2.2 i).trans (c i hi)
  · have hi2 : i < A.2.2 := hi
    show _ = some (setF F A.2.1 f (A.2.1 + A.2.2 - i)).1
    rw [sF (by omega)]
    exact (m3.2 i).trans (d i hi)
  · have hj2 : j ≤ A.2.1 + A.2.2 := hj
    show DocP τ _ (if j = A.2.1 then D else A.1 j)
    by_cases q : j = A.2.1
    · rw [if_pos q, q, sN]
      exact hD
    · rw [if_neg q, sF q]
      exact (e j hj2).out hF (fun x hx hx2 => hS j A.2.1 hj2 (by omega) q x hx hx2)
  · have hi2 : i ≤ A.2.1 + A.2.2 := hi
    have hj2 : j ≤ A.2.1 + A.2.2 := hj
    by_cases q : i = A.2.1
    · have q2 : j ≠ A.2.1 := fun z => hij (q.trans z.symm)
      rw [q, sN] at hx
      rw [sF q2] at hy
      rcases hsub x hx with z | z
      · exact hS A.2.1 j (by omega) hj2 (fun z => q2 z.symm) x z hy
      · have := ((e j hj2).g hy).2.2
        omega
    · rw [sF q] at hx
      by_cases q2 : j = A.2.1
      · rw [q2, sN] at hy
        rcases hsub x hy with z | z
        · exact hS i A.2.1 hi2 (by omega) q x hx z
        · have := ((e i hi2).g hx).2.2
          omega
      · rw [sF q2] at hy
        exact hS i j hi2 hj2 hij x hx hy
theorem fpD_ge {f : DocF} {D : PapD} (h : DocP σ f D) {x : Nat} (hx : fpD f x) : 109 ≤ x := (h.g hx).2.1
theorem jD_le {c : Int} {acc : Bool} : ∀ l : List Un, (jD c acc l).length ≤ l.length
  | [] => Nat.le_refl _
  | v :: t => by
    have := jD_le (c := c) (acc := acc) t
    rw [jD]
    split
    · rw [List.length_cons]; omega
    · rw [List.length_cons, List.length_cons]; omega
theorem PpL.setl_n {D : PapD} (h : PpL D) {c : Int} {acc : Bool} (hc : 0 ≤ c ∧ c < D.2.1.1) : (setlD D c acc).1.2.1 ≤ D.1.2.1 := by
  obtain ⟨q1, q2⟩ := h.setl (acc := acc) hc
  have h1 := toL_len (R := (setlD D c acc).1)
  have h2 := toL_len (R := D.1)
  have h3 := jD_le (c := c) (acc := acc) (toL D.1)
  have h4 := q1.nn
  have h5 := h.nn
  rw [q2] at h1
  omega
/-- the newest document judged -/
theorem DkR.judge (h : DkR σ F A.2.1 A.2.2 A.1) (hP : PpL (A.1 A.2.1)) {c : Int} {acc : Bool} (hc : 0 ≤ c ∧ c < (A.1 A.2.1).2.1.1) : ∃ τ f, Con 1 mX11_judge 0 0 [vA (F A.2.1).1, vI c, vI (bI (acc = true))] σ (vI (cntC c (toL (A.1 A.2.1).1)), τ) ∧ DkR τ (setF F A.2.1 f) (edA A (setlD (A.1 A.2.1) c acc)).2.1 (edA A (setlD (A.1 A.2.1) c acc)).2.2 (edA A (setlD (A.1 A.2.1) c acc)).1 ∧ OutD σ τ (fpD (F A.2.1)) ∧ f.1 = (F A.2.1).1 := by
  have hnow := h.2.2.2.2.2.1 A.2.1 (by omega)
  obtain ⟨τ, us1, q1, q2, q3, q4, q5⟩ := con_judgeD hnow (acc := acc) hc
  have hF : OutD σ τ (fpD (F A.2.1)) := q4.mono (fun x _ hx => by
    rcases hx with hx | hx | hx | hx
    · exact Or.inl hx
    · exact Or.inr (Or.inl hx)
    · exact Or.inr (Or.inr (Or.inr (Or.inl hx)))
    · exact Or.inr (Or.inr (Or.inr (Or.inr hx))))
  refine ⟨τ, ((F A.2.1).1, (F A.2.1).2.1, (F A.2.1).2.2.1, (F A.2.1).2.2.2.1, us1), q1, h.now ?_ hF rfl (fun x hx => Or.inl ?_), hF, rfl⟩
  · show DocR τ _ _ _ _ us1 (toL (setlD (A.1 A.2.1) c acc).1) _ _ _
    rw [(hP.setl hc).2]
    exact q2
  · rcases hx with hx | hx | hx | hx | hx
    · exact Or.inl hx
    · exact Or.inr (Or.inl hx)
    · exact Or.inr (Or.inr (Or.inl hx))
    · exact Or.inr (Or.inr (Or.inr (Or.inl hx)))
    · exact Or.inr (Or.inr (Or.inr (Or.inr (q3 x hx))))
theorem con_lawChangeAt (hS : Str σ.2.1) {pi : Nat → Nat} (hA : PastR σ pi A) {p : Int} (h2 : ixOf (A.1 A.2.1).1.1 (A.1 A.2.1).1.2.1 p ≠ -1) (h3 : ixOf (A.1 A.2.1).1.1 (A.1 A.2.1).1.2.1 p < (A.1 A.2.1).1.2.1) : Con 6 mL_changeAt 1 6 [vA 0, vI p] σ (vI ((A.1 A.2.1).1.1 2 (ixOf (A.1 A.2.1).1.1 (A.1 A.2.1).1.2.1 p)), σ) := by
  by_cases h4 : (A.1 A.2.1).1.1 2 (ixOf (A.1 A.2.1).1.1 (A.1 A.2.1).1.2.1 p) = -1
  · rw [h4]
    refine con_of_go mfL_changeAt.1 trivial (Nat.le_of_ble_eq_true rfl) rfl (by decide) ?_
    show Go _ _ _ _ 0 [vA _, vI _, vT 9 0] [] _ _
    refine go_aload_n (at_of tL_changeAt 0 0 rfl) rfl ?_
    refine go_iload_n (at_of tL_changeAt 0 1 rfl) rfl ?_
    refine go_callC (as := [vA 0, vI p]) (i := 4) (h := 6) (k := 2) (n' := 1) (Or.inl ⟨9, 0, [vI p], rfl, rfl, gs G_0 (by decide), lk_L_184, (at_of tL_changeAt 0 2 rfl)⟩) (th4_changeAt hS hA h2 h3 h4) rfl cat_changeAt (Or.inr ⟨rfl, 2, rfl, (at_of tL_changeAt 0 4 rfl)⟩) rfl rfl (by decide) rfl (Nat.le_of_ble_eq_true rfl) rfl ⟨Nat.le_refl _, Nat.le_refl _⟩ ?_
    refine go_iconst (at_of tL_changeAt 0 5 rfl) (by unfold in32; omega) ?_
    first | exact go_reti (at_of tL_changeAt 0 6 rfl) rfl | exact go_reti (at_of tL_changeAt 0 6 rfl) (le_i (by omega)) | exact go_reti (at_of tL_changeAt 0 6 rfl) (le_i (by first | exact bI_t (by omega) | exact bI_f (by omega)))
  · skip
    refine con_of_go mfL_changeAt.1 trivial (Nat.le_of_ble_eq_true rfl) rfl (by decide) ?_
    show Go _ _ _ _ 0 [vA _, vI _, vT 9 0] [] _ _
    refine go_aload_n (at_of tL_changeAt 0 0 rfl) rfl ?_
    refine go_iload_n (at_of tL_changeAt 0 1 rfl) rfl ?_
    refine go_cV (ok_changeAt hS hA h2 h3 h4) lk_L_184 rfl G_0 (at_of tL_changeAt 0 2 rfl) rfl (by decide) rfl (Nat.le_of_ble_eq_true rfl) rfl (⟨by omega, by omega⟩) ?_
    first | exact go_reti (at_of tL_changeAt 0 3 rfl) rfl | exact go_reti (at_of tL_changeAt 0 3 rfl) (le_i (by omega)) | exact go_reti (at_of tL_changeAt 0 3 rfl) (le_i (by first | exact bI_t (by omega) | exact bI_f (by omega)))
end Judges
