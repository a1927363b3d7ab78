/-! The reference: styles set, parts erased. -/
section Mod11
variable {σ : St}
theorem setR_comm {R : RowD} {w w' i z z' : Int} (h : w ≠ w') : setR (setR R w i z) w' i z' = setR (setR R w' i z') w i z := by
  unfold setR
  refine Prod.ext (funext fun v => funext fun j => ?_) rfl
  dsimp only
  by_cases h1 : v = w' ∧ j = i
  · rw [if_pos h1, if_neg (fun q => h (q.1.symm.trans h1.1)), if_pos h1]
  · rw [if_neg h1]
    by_cases h2 : v = w ∧ j = i
    · rw [if_pos h2, if_pos h2]
    · rw [if_neg h2, if_neg h2, if_neg h1]
theorem m_setStyle_1 (hS : Str σ.2.1) {A : PastD} (hM : PastM σ A) (hW : WfB (A.1 A.2.1)) (h7 : 1 ≤ σ.1 109 7 ∧ σ.1 109 7 ≤ 8) {a p z : Int} (h : ¬ ((0 ≤ a ∧ a ≤ 3) ∧ (0 ≤ p ∧ p ≤ endsA (A.1 A.2.1).1.1 (A.1 A.2.1).1.2.1 (A.1 A.2.1).1.2.1) ∧ 0 ≤ z ∧ z ≤ σ.1 109 7 - 1)) : Con 4 mX10_setStyle 0 0 [vA 109, vI a, vI p, vI z] σ (vI 0, P1 σ 109 0 1) := by
  obtain ⟨hWm, hl2, h4⟩ := id hW
  obtain ⟨hE, hSg, hMk, hRw⟩ := id hWm
  obtain ⟨e1, e2, e3, e4⟩ := id hE
  have hN := hM.2.2.2.1
  obtain ⟨b1, b2, b3, b4⟩ := id hN.2.2.2
  have hl := hN.2.1.2
  have hcc : σ.1 110 (3011 : Int).toNat = (A.1 A.2.1).2.1.1 := hN.2.1.1
  by_cases q1 : 0 ≤ a ∧ a ≤ 3
  · by_cases q2 : 0 ≤ p ∧ p ≤ endsA (A.1 A.2.1).1.1 (A.1 A.2.1).1.2.1 (A.1 A.2.1).1.2.1
    · have q3 : ¬ (0 ≤ z ∧ z ≤ σ.1 109 7 - 1) := fun q => h ⟨q1, q2, q⟩
      refine con_of_go mfX10_setStyle.1 trivial (Nat.le_of_ble_eq_true rfl) rfl (by decide) ?_
      show Go _ _ _ _ 0 [vA _, vI _, vI _, vI _, vT 9 0, vT 9 0, vT 9 0] [] _ _
      refine go_iload_n (at_of tX10_setStyle 0 0 rfl) rfl ?_
      refine go_cS (m_isAuthor) lk_X10_151 rfl (at_of tX10_setStyle 0 1 rfl) rfl (by decide) rfl (Nat.le_of_ble_eq_true rfl) rfl (by first | decide | exact ⟨Nat.zero_le _, Nat.zero_le _⟩) ?_
      refine go_if_eq (tgt := 33) (at_of tX10_setStyle 0 2 rfl) (by decide) (fun h4 => ?_) (fun h4 => ?_)
      · exfalso; exact bI_0.mp h4 q1
      refine go_aload_n (at_of tX10_setStyle 0 3 rfl) rfl ?_
      refine go_iload_n (at_of tX10_setStyle 0 4 rfl) rfl ?_
      refine go_cV (m_isParagraph hS hN.1 hE hSg) lk_X10_203 rfl G_109 (at_of tX10_setStyle 0 5 rfl) rfl (by decide) rfl (Nat.le_of_ble_eq_true rfl) rfl (by first | decide | exact ⟨Nat.zero_le _, Nat.zero_le _⟩) ?_
      refine go_if_eq (tgt := 33) (at_of tX10_setStyle 0 6 rfl) (by decide) (fun h12 => ?_) (fun h12 => ?_)
      · exfalso; exact bI_0.mp h12 q2
      refine go_iload_n (at_of tX10_setStyle 0 7 rfl) rfl ?_
      refine go_iconst (at_of tX10_setStyle 0 8 rfl) (by unfold in32; omega) ?_
      refine go_aload_n (at_of tX10_setStyle 0 9 rfl) rfl ?_
      refine go_getf fl_X10_23 rfl G_109 (at_of tX10_setStyle 0 10 rfl) ?_
      refine go_iconst (at_of tX10_setStyle 0 11 rfl) (by unfold in32; omega) ?_
      refine go_isub (at_of tX10_setStyle 0 12 rfl) (by unfold in32; omega) ?_
      refine go_cS (m_in) lk_X10_124 rfl (at_of tX10_setStyle 0 13 rfl) rfl (by decide) rfl (Nat.le_of_ble_eq_true rfl) rfl (by first | decide | exact ⟨Nat.zero_le _, Nat.zero_le _⟩) ?_
      refine go_if_eq (tgt := 33) (at_of tX10_setStyle 0 14 rfl) (by decide) (fun h26 => ?_) (fun h26 => ?_)
      rotate_left
      · exfalso; exact q3 (bI_1.mp h26)
      refine go_iconst (at_of tX10_setStyle 1 1 rfl) (by unfold in32; omega) ?_
      refine go_istore (at_of tX10_setStyle 1 2 rfl) rfl rfl ?_
      refine go_iload (at_of tX10_setStyle 1 3 rfl) rfl rfl ?_
      refine go_if_eq (tgt := 49) (at_of tX10_setStyle 1 4 rfl) (by decide) (fun h38 => ?_) (fun h38 => ?_)
      rotate_left
      · exfalso; omega
      refine go_iconst (at_of tX10_setStyle 1 9 rfl) (by unfold in32; omega) ?_
      refine go_istore (at_of tX10_setStyle 1 10 rfl) rfl rfl ?_
      refine go_iload (at_of tX10_setStyle 1 11 rfl) rfl rfl ?_
      refine go_if_eq (tgt := 80) (at_of tX10_setStyle 1 12 rfl) (by decide) (fun h54 => ?_) (fun h54 => ?_)
      rotate_left
      · exfalso; omega
      refine go_iconst (at_of tX10_setStyle 2 8 rfl) (by unfold in32; omega) ?_
      refine go_istore (at_of tX10_setStyle 2 9 rfl) rfl rfl ?_
      refine go_aload_n (at_of tX10_setStyle 2 10 rfl) rfl ?_
      refine go_iload (at_of tX10_setStyle 2 11 rfl) rfl rfl ?_
      refine go_if_ne (tgt := 93) (at_of tX10_setStyle 2 12 rfl) (by decide) (fun h86 => ?_) (fun h86 => ?_)
      · exfalso; omega
      refine go_iconst (at_of tX10_setStyle 2 13 rfl) (by unfold in32; omega) ?_
      refine go_goto (tgt := 132) (at_of tX10_setStyle 2 14 rfl) (by decide) ?_
      refine go_cV (m_goesOn) lk_X10_141 rfl G_109 (at_of tX10_setStyle 4 2 rfl) rfl (by decide) rfl (Nat.le_of_ble_eq_true rfl) rfl (by first | decide | exact ⟨Nat.zero_le _, Nat.zero_le _⟩) ?_
      refine go_if_ne (tgt := 140) (at_of tX10_setStyle 4 3 rfl) (by decide) (fun h135 => ?_) (fun h135 => ?_)
      · exfalso; exact h135 (bI_f (by decide))
      refine go_iconst (at_of tX10_setStyle 4 4 rfl) (by unfold in32; omega) ?_
      first | exact go_reti (at_of tX10_setStyle 4 5 rfl) rfl | exact go_reti (at_of tX10_setStyle 4 5 rfl) (le_i (by omega)) | exact go_reti (at_of tX10_setStyle 4 5 rfl) (le_i (by first | exact bI_t (by omega) | exact bI_f (by omega)))
    · skip
      refine con_of_go mfX10_setStyle.1 trivial (Nat.le_of_ble_eq_true rfl) rfl (by decide) ?_
      show Go _ _ _ _ 0 [vA _, vI _, vI _, vI _, vT 9 0, vT 9 0, vT 9 0] [] _ _
      refine go_iload_n (at_of tX10_setStyle 0 0 rfl) rfl ?_
      refine go_cS (m_isAuthor) lk_X10_151 rfl (at_of tX10_setStyle 0 1 rfl) rfl (by decide) rfl (Nat.le_of_ble_eq_true rfl) rfl (by first | decide | exact ⟨Nat.zero_le _, Nat.zero_le _⟩) ?_
      refine go_if_eq (tgt := 33) (at_of tX10_setStyle 0 2 rfl) (by decide) (fun h4 => ?_) (fun h4 => ?_)
      · exfalso; exact bI_0.mp h4 q1
      refine go_aload_n (at_of tX10_setStyle 0 3 rfl) rfl ?_
      refine go_iload_n (at_of tX10_setStyle 0 4 rfl) rfl ?_
      refine go_cV (m_isParagraph hS hN.1 hE hSg) lk_X10_203 rfl G_109 (at_of tX10_setStyle 0 5 rfl) rfl (by decide) rfl (Nat.le_of_ble_eq_true rfl) rfl (by first | decide | exact ⟨Nat.zero_le _, Nat.zero_le _⟩) ?_
      refine go_if_eq (tgt := 33) (at_of tX10_setStyle 0 6 rfl) (by decide) (fun h12 => ?_) (fun h12 => ?_)
      rotate_left
      · exfalso; exact q2 (bI_1.mp h12)
      refine go_iconst (at_of tX10_setStyle 1 1 rfl) (by unfold in32; omega) ?_
      refine go_istore (at_of tX10_setStyle 1 2 rfl) rfl rfl ?_
      refine go_iload (at_of tX10_setStyle 1 3 rfl) rfl rfl ?_
      refine go_if_eq (tgt := 49) (at_of tX10_setStyle 1 4 rfl) (by decide) (fun h38 => ?_) (fun h38 => ?_)
      rotate_left
      · exfalso; omega
      refine go_iconst (at_of tX10_setStyle 1 9 rfl) (by unfold in32; omega) ?_
      refine go_istore (at_of tX10_setStyle 1 10 rfl) rfl rfl ?_
      refine go_iload (at_of tX10_setStyle 1 11 rfl) rfl rfl ?_
      refine go_if_eq (tgt := 80) (at_of tX10_setStyle 1 12 rfl) (by decide) (fun h54 => ?_) (fun h54 => ?_)
      rotate_left
      · exfalso; omega
      refine go_iconst (at_of tX10_setStyle 2 8 rfl) (by unfold in32; omega) ?_
      refine go_istore (at_of tX10_setStyle 2 9 rfl) rfl rfl ?_
      refine go_aload_n (at_of tX10_setStyle 2 10 rfl) rfl ?_
      refine go_iload (at_of tX10_setStyle 2 11 rfl) rfl rfl ?_
      refine go_if_ne (tgt := 93) (at_of tX10_setStyle 2 12 rfl) (by decide) (fun h86 => ?_) (fun h86 => ?_)
      · exfalso; omega
      refine go_iconst (at_of tX10_setStyle 2 13 rfl) (by unfold in32; omega) ?_
      refine go_goto (tgt := 132) (at_of tX10_setStyle 2 14 rfl) (by decide) ?_
      refine go_cV (m_goesOn) lk_X10_141 rfl G_109 (at_of tX10_setStyle 4 2 rfl) rfl (by decide) rfl (Nat.le_of_ble_eq_true rfl) rfl (by first | decide | exact ⟨Nat.zero_le _, Nat.zero_le _⟩) ?_
      refine go_if_ne (tgt := 140) (at_of tX10_setStyle 4 3 rfl) (by decide) (fun h135 => ?_) (fun h135 => ?_)
      · exfalso; exact h135 (bI_f (by decide))
      refine go_iconst (at_of tX10_setStyle 4 4 rfl) (by unfold in32; omega) ?_
      first | exact go_reti (at_of tX10_setStyle 4 5 rfl) rfl | exact go_reti (at_of tX10_setStyle 4 5 rfl) (le_i (by omega)) | exact go_reti (at_of tX10_setStyle 4 5 rfl) (le_i (by first | exact bI_t (by omega) | exact bI_f (by omega)))
  · skip
    refine con_of_go mfX10_setStyle.1 trivial (Nat.le_of_ble_eq_true rfl) rfl (by decide) ?_
    show Go _ _ _ _ 0 [vA _, vI _, vI _, vI _, vT 9 0, vT 9 0, vT 9 0] [] _ _
    refine go_iload_n (at_of tX10_setStyle 0 0 rfl) rfl ?_
    refine go_cS (m_isAuthor) lk_X10_151 rfl (at_of tX10_setStyle 0 1 rfl) rfl (by decide) rfl (Nat.le_of_ble_eq_true rfl) rfl (by first | decide | exact ⟨Nat.zero_le _, Nat.zero_le _⟩) ?_
    refine go_if_eq (tgt := 33) (at_of tX10_setStyle 0 2 rfl) (by decide) (fun h4 => ?_) (fun h4 => ?_)
    rotate_left
    · exfalso; exact q1 (bI_1.mp h4)
    refine go_iconst (at_of tX10_setStyle 1 1 rfl) (by unfold in32; omega) ?_
    refine go_istore (at_of tX10_setStyle 1 2 rfl) rfl rfl ?_
    refine go_iload (at_of tX10_setStyle 1 3 rfl) rfl rfl ?_
    refine go_if_eq (tgt := 49) (at_of tX10_setStyle 1 4 rfl) (by decide) (fun h38 => ?_) (fun h38 => ?_)
    rotate_left
    · exfalso; omega
    refine go_iconst (at_of tX10_setStyle 1 9 rfl) (by unfold in32; omega) ?_
    refine go_istore (at_of tX10_setStyle 1 10 rfl) rfl rfl ?_
    refine go_iload (at_of tX10_setStyle 1 11 rfl) rfl rfl ?_
    refine go_if_eq (tgt := 80) (at_of tX10_setStyle 1 12 rfl) (by decide) (fun h54 => ?_) (fun h54 => ?_)
    rotate_left
    · exfalso; omega
    refine go_iconst (at_of tX10_setStyle 2 8 rfl) (by unfold in32; omega) ?_
    refine go_istore (at_of tX10_setStyle 2 9 rfl) rfl rfl ?_
    refine go_aload_n (at_of tX10_setStyle 2 10 rfl) rfl ?_
    refine go_iload (at_of tX10_setStyle 2 11 rfl) rfl rfl ?_
    refine go_if_ne (tgt := 93) (at_of tX10_setStyle 2 12 rfl) (by decide) (fun h86 => ?_) (fun h86 => ?_)
    · exfalso; omega
    refine go_iconst (at_of tX10_setStyle 2 13 rfl) (by unfold in32; omega) ?_
    refine go_goto (tgt := 132) (at_of tX10_setStyle 2 14 rfl) (by decide) ?_
    refine go_cV (m_goesOn) lk_X10_141 rfl G_109 (at_of tX10_setStyle 4 2 rfl) rfl (by decide) rfl (Nat.le_of_ble_eq_true rfl) rfl (by first | decide | exact ⟨Nat.zero_le _, Nat.zero_le _⟩) ?_
    refine go_if_ne (tgt := 140) (at_of tX10_setStyle 4 3 rfl) (by decide) (fun h135 => ?_) (fun h135 => ?_)
    · exfalso; exact h135 (bI_f (by decide))
    refine go_iconst (at_of tX10_setStyle 4 4 rfl) (by unfold in32; omega) ?_
    first | exact go_reti (at_of tX10_setStyle 4 5 rfl) rfl | exact go_reti (at_of tX10_setStyle 4 5 rfl) (le_i (by omega)) | exact go_reti (at_of tX10_setStyle 4 5 rfl) (le_i (by first | exact bI_t (by omega) | exact bI_f (by omega)))
theorem m_setStyle_2 (hS : Str σ.2.1) {A : PastD} (hM : PastM σ A) (hW : WfB (A.1 A.2.1)) (h7 : 1 ≤ σ.1 109 7 ∧ σ.1 109 7 ≤ 8) {a p z : Int} (htr : σ.1 109 6 = 1) (h : (0 ≤ a ∧ a ≤ 3) ∧ (0 ≤ p ∧ p ≤ endsA (A.1 A.2.1).1.1 (A.1 A.2.1).1.2.1 (A.1 A.2.1).1.2.1) ∧ 0 ≤ z ∧ z ≤ σ.1 109 7 - 1) (h2 : (A.1 A.2.1).1.1 4 (ixEnd (A.1 A.2.1).1.1 (A.1 A.2.1).1.2.1 p) = -1 ∧ (A.1 A.2.1).2.1.1 = 60) : Con 4 mX10_setStyle 0 0 [vA 109, vI a, vI p, vI z] σ (vI 0, P1 σ 109 0 2) := by
  obtain ⟨hWm, hl2, h4⟩ := id hW
  obtain ⟨hE, hSg, hMk, hRw⟩ := id hWm
  obtain ⟨e1, e2, e3, e4⟩ := id hE
  have hN := hM.2.2.2.1
  obtain ⟨b1, b2, b3, b4⟩ := id hN.2.2.2
  have hl := hN.2.1.2
  have hcc : σ.1 110 (3011 : Int).toNat = (A.1 A.2.1).2.1.1 := hN.2.1.1
  obtain ⟨u1, u2, u3, h47⟩ := ixEnd_end e1 ((ixEnd_iff hE).mpr h.2.1)
  have me := m_endOfParagraph hS hN.1 hE hSg h.2.1.1 h.2.1.2
  have m9 := m_at9 hS hN.1 (u := (ixEnd (A.1 A.2.1).1.1 (A.1 A.2.1).1.2.1 p)) ⟨u1, u2, b2⟩
  have m7 := m_at7 hS hN.1 (u := (ixEnd (A.1 A.2.1).1.1 (A.1 A.2.1).1.2.1 p)) ⟨u1, u2, b2⟩ h47
  refine con_of_go mfX10_setStyle.1 trivial (Nat.le_of_ble_eq_true rfl) rfl (by decide) ?_
  show Go _ _ _ _ 0 [vA _, vI _, vI _, vI _, vT 9 0, vT 9 0, vT 9 0] [] _ _
  refine go_iload_n (at_of tX10_setStyle 0 0 rfl) rfl ?_
  refine go_cS (m_isAuthor) lk_X10_151 rfl (at_of tX10_setStyle 0 1 rfl) rfl (by decide) rfl (Nat.le_of_ble_eq_true rfl) rfl (by first | decide | exact ⟨Nat.zero_le _, Nat.zero_le _⟩) ?_
  refine go_if_eq (tgt := 33) (at_of tX10_setStyle 0 2 rfl) (by decide) (fun h4 => ?_) (fun h4 => ?_)
  · exfalso; exact bI_0.mp h4 h.1
  refine go_aload_n (at_of tX10_setStyle 0 3 rfl) rfl ?_
  refine go_iload_n (at_of tX10_setStyle 0 4 rfl) rfl ?_
  refine go_cV (m_isParagraph hS hN.1 hE hSg) lk_X10_203 rfl G_109 (at_of tX10_setStyle 0 5 rfl) rfl (by decide) rfl (Nat.le_of_ble_eq_true rfl) rfl (by first | decide | exact ⟨Nat.zero_le _, Nat.zero_le _⟩) ?_
  refine go_if_eq (tgt := 33) (at_of tX10_setStyle 0 6 rfl) (by decide) (fun h12 => ?_) (fun h12 => ?_)
  · exfalso; exact bI_0.mp h12 h.2.1
  refine go_iload_n (at_of tX10_setStyle 0 7 rfl) rfl ?_
  refine go_iconst (at_of tX10_setStyle 0 8 rfl) (by unfold in32; omega) ?_
  refine go_aload_n (at_of tX10_setStyle 0 9 rfl) rfl ?_
  refine go_getf fl_X10_23 rfl G_109 (at_of tX10_setStyle 0 10 rfl) ?_
  refine go_iconst (at_of tX10_setStyle 0 11 rfl) (by unfold in32; omega) ?_
  refine go_isub (at_of tX10_setStyle 0 12 rfl) (by unfold in32; omega) ?_
  refine go_cS (m_in) lk_X10_124 rfl (at_of tX10_setStyle 0 13 rfl) rfl (by decide) rfl (Nat.le_of_ble_eq_true rfl) rfl (by first | decide | exact ⟨Nat.zero_le _, Nat.zero_le _⟩) ?_
  refine go_if_eq (tgt := 33) (at_of tX10_setStyle 0 14 rfl) (by decide) (fun h26 => ?_) (fun h26 => ?_)
  · exfalso; exact bI_0.mp h26 h.2.2
  refine go_iconst (at_of tX10_setStyle 0 15 rfl) (by unfold in32; omega) ?_
  refine go_goto (tgt := 34) (at_of tX10_setStyle 1 0 rfl) (by decide) ?_
  refine go_istore (at_of tX10_setStyle 1 2 rfl) rfl rfl ?_
  refine go_iload (at_of tX10_setStyle 1 3 rfl) rfl rfl ?_
  refine go_if_eq (tgt := 49) (at_of tX10_setStyle 1 4 rfl) (by decide) (fun h38 => ?_) (fun h38 => ?_)
  · exfalso; omega
  refine go_aload_n (at_of tX10_setStyle 1 5 rfl) rfl ?_
  refine go_iload_n (at_of tX10_setStyle 1 6 rfl) rfl ?_
  refine go_cV (me) lk_X10_197 rfl G_109 (at_of tX10_setStyle 1 7 rfl) rfl (by decide) rfl (Nat.le_of_ble_eq_true rfl) rfl (by first | decide | exact ⟨Nat.zero_le _, Nat.zero_le _⟩) ?_
  refine go_goto (tgt := 50) (at_of tX10_setStyle 1 8 rfl) (by decide) ?_
  refine go_istore (at_of tX10_setStyle 1 10 rfl) rfl rfl ?_
  refine go_iload (at_of tX10_setStyle 1 11 rfl) rfl rfl ?_
  refine go_if_eq (tgt := 80) (at_of tX10_setStyle 1 12 rfl) (by decide) (fun h54 => ?_) (fun h54 => ?_)
  · exfalso; omega
  refine go_aload_n (at_of tX10_setStyle 1 13 rfl) rfl ?_
  refine go_getf fl_X10_19 rfl G_109 (at_of tX10_setStyle 1 14 rfl) ?_
  refine go_if_eq (tgt := 80) (at_of tX10_setStyle 1 15 rfl) (by decide) (fun h61 => ?_) (fun h61 => ?_)
  · exfalso; omega
  refine go_aload_n (at_of tX10_setStyle 2 0 rfl) rfl ?_
  refine go_iload (at_of tX10_setStyle 2 1 rfl) rfl rfl ?_
  refine go_bipush (at_of tX10_setStyle 2 2 rfl) (by decide) ?_
  refine go_cV (m9) lk_X10_106 rfl G_109 (at_of tX10_setStyle 2 3 rfl) rfl (by decide) rfl (Nat.le_of_ble_eq_true rfl) rfl (by first | decide | exact ⟨Nat.zero_le _, Nat.zero_le _⟩) ?_
  refine go_iconst (at_of tX10_setStyle 2 4 rfl) (by unfold in32; omega) ?_
  refine go_icmp_ne (tgt := 80) (at_of tX10_setStyle 2 5 rfl) (by decide) (fun h73 => ?_) (fun h73 => ?_)
  · exfalso; omega
  refine go_iconst (at_of tX10_setStyle 2 6 rfl) (by unfold in32; omega) ?_
  refine go_goto (tgt := 81) (at_of tX10_setStyle 2 7 rfl) (by decide) ?_
  refine go_istore (at_of tX10_setStyle 2 9 rfl) rfl rfl ?_
  refine go_aload_n (at_of tX10_setStyle 2 10 rfl) rfl ?_
  refine go_iload (at_of tX10_setStyle 2 11 rfl) rfl rfl ?_
  refine go_if_ne (tgt := 93) (at_of tX10_setStyle 2 12 rfl) (by decide) (fun h86 => ?_) (fun h86 => ?_)
  rotate_left
  · exfalso; omega
  refine go_iload (at_of tX10_setStyle 2 15 rfl) rfl rfl ?_
  refine go_if_eq (tgt := 115) (at_of tX10_setStyle 3 0 rfl) (by decide) (fun h95 => ?_) (fun h95 => ?_)
  · exfalso; omega
  refine go_aload_n (at_of tX10_setStyle 3 1 rfl) rfl ?_
  refine go_getr (q := 110) fl_X10_7 rfl G_109 (by first | exact (hS _ _ rfl).trans rfl | exact (hS1 _ _ rfl).trans rfl | exact (hS2 _ _ rfl).trans rfl | exact (hS3 _ _ rfl).trans rfl | exact (hS4 _ _ rfl).trans rfl) (at_of tX10_setStyle 3 2 rfl) ?_
  refine go_sipush (at_of tX10_setStyle 3 3 rfl) (by decide) ?_
  refine go_iald G_110 (by omega) (by omega) (at_of tX10_setStyle 3 4 rfl) ?_
  refine go_bipush (at_of tX10_setStyle 3 5 rfl) (by decide) ?_
  refine go_icmp_ne (tgt := 115) (at_of tX10_setStyle 3 6 rfl) (by decide) (fun h108 => ?_) (fun h108 => ?_)
  · exfalso; omega
  refine go_iconst (at_of tX10_setStyle 3 7 rfl) (by unfold in32; omega) ?_
  refine go_goto (tgt := 132) (at_of tX10_setStyle 3 8 rfl) (by decide) ?_
  refine go_cV (m_goesOn) lk_X10_141 rfl G_109 (at_of tX10_setStyle 4 2 rfl) rfl (by decide) rfl (Nat.le_of_ble_eq_true rfl) rfl (by first | decide | exact ⟨Nat.zero_le _, Nat.zero_le _⟩) ?_
  refine go_if_ne (tgt := 140) (at_of tX10_setStyle 4 3 rfl) (by decide) (fun h135 => ?_) (fun h135 => ?_)
  · exfalso; exact h135 (bI_f (by decide))
  refine go_iconst (at_of tX10_setStyle 4 4 rfl) (by unfold in32; omega) ?_
  first | exact go_reti (at_of tX10_setStyle 4 5 rfl) rfl | exact go_reti (at_of tX10_setStyle 4 5 rfl) (le_i (by omega)) | exact go_reti (at_of tX10_setStyle 4 5 rfl) (le_i (by first | exact bI_t (by omega) | exact bI_f (by omega)))
theorem m_setStyle_3 (hS : Str σ.2.1) {A : PastD} (hM : PastM σ A) (hW : WfB (A.1 A.2.1)) (h7 : 1 ≤ σ.1 109 7 ∧ σ.1 109 7 ≤ 8) {tr : Bool} (htr : σ.1 109 6 = bI (tr = true)) {a p z : Int} (h : (0 ≤ a ∧ a ≤ 3) ∧ (0 ≤ p ∧ p ≤ endsA (A.1 A.2.1).1.1 (A.1 A.2.1).1.2.1 (A.1 A.2.1).1.2.1) ∧ 0 ≤ z ∧ z ≤ σ.1 109 7 - 1) (h2 : ¬ (tr = true ∧ (A.1 A.2.1).1.1 4 (ixEnd (A.1 A.2.1).1.1 (A.1 A.2.1).1.2.1 p) = -1 ∧ (A.1 A.2.1).2.1.1 = 60)) (h3 : (A.1 A.2.1).1.1 10 (ixEnd (A.1 A.2.1).1.1 (A.1 A.2.1).1.2.1 p) = 1) : Con 4 mX10_setStyle 0 0 [vA 109, vI a, vI p, vI z] σ (vI 0, P1 σ 109 0 3) := by
  obtain ⟨hWm, hl2, h4⟩ := id hW
  obtain ⟨hE, hSg, hMk, hRw⟩ := id hWm
  obtain ⟨e1, e2, e3, e4⟩ := id hE
  have hN := hM.2.2.2.1
  obtain ⟨b1, b2, b3, b4⟩ := id hN.2.2.2
  have hl := hN.2.1.2
  have hcc : σ.1 110 (3011 : Int).toNat = (A.1 A.2.1).2.1.1 := hN.2.1.1
  obtain ⟨u1, u2, u3, h47⟩ := ixEnd_end e1 ((ixEnd_iff hE).mpr h.2.1)
  have me := m_endOfParagraph hS hN.1 hE hSg h.2.1.1 h.2.1.2
  have m9 := m_at9 hS hN.1 (u := (ixEnd (A.1 A.2.1).1.1 (A.1 A.2.1).1.2.1 p)) ⟨u1, u2, b2⟩
  have m7 := m_at7 hS hN.1 (u := (ixEnd (A.1 A.2.1).1.1 (A.1 A.2.1).1.2.1 p)) ⟨u1, u2, b2⟩ h47
  cases tr with
  | false =>
    have htr : σ.1 109 6 = 0 := htr
    refine con_of_go mfX10_setStyle.1 trivial (Nat.le_of_ble_eq_true rfl) rfl (by decide) ?_
    show Go _ _ _ _ 0 [vA _, vI _, vI _, vI _, vT 9 0, vT 9 0, vT 9 0] [] _ _
    refine go_iload_n (at_of tX10_setStyle 0 0 rfl) rfl ?_
    refine go_cS (m_isAuthor) lk_X10_151 rfl (at_of tX10_setStyle 0 1 rfl) rfl (by decide) rfl (Nat.le_of_ble_eq_true rfl) rfl (by first | decide | exact ⟨Nat.zero_le _, Nat.zero_le _⟩) ?_
    refine go_if_eq (tgt := 33) (at_of tX10_setStyle 0 2 rfl) (by decide) (fun h4 => ?_) (fun h4 => ?_)
    · exfalso; exact bI_0.mp h4 h.1
    refine go_aload_n (at_of tX10_setStyle 0 3 rfl) rfl ?_
    refine go_iload_n (at_of tX10_setStyle 0 4 rfl) rfl ?_
    refine go_cV (m_isParagraph hS hN.1 hE hSg) lk_X10_203 rfl G_109 (at_of tX10_setStyle 0 5 rfl) rfl (by decide) rfl (Nat.le_of_ble_eq_true rfl) rfl (by first | decide | exact ⟨Nat.zero_le _, Nat.zero_le _⟩) ?_
    refine go_if_eq (tgt := 33) (at_of tX10_setStyle 0 6 rfl) (by decide) (fun h12 => ?_) (fun h12 => ?_)
    · exfalso; exact bI_0.mp h12 h.2.1
    refine go_iload_n (at_of tX10_setStyle 0 7 rfl) rfl ?_
    refine go_iconst (at_of tX10_setStyle 0 8 rfl) (by unfold in32; omega) ?_
    refine go_aload_n (at_of tX10_setStyle 0 9 rfl) rfl ?_
    refine go_getf fl_X10_23 rfl G_109 (at_of tX10_setStyle 0 10 rfl) ?_
    refine go_iconst (at_of tX10_setStyle 0 11 rfl) (by unfold in32; omega) ?_
    refine go_isub (at_of tX10_setStyle 0 12 rfl) (by unfold in32; omega) ?_
    refine go_cS (m_in) lk_X10_124 rfl (at_of tX10_setStyle 0 13 rfl) rfl (by decide) rfl (Nat.le_of_ble_eq_true rfl) rfl (by first | decide | exact ⟨Nat.zero_le _, Nat.zero_le _⟩) ?_
    refine go_if_eq (tgt := 33) (at_of tX10_setStyle 0 14 rfl) (by decide) (fun h26 => ?_) (fun h26 => ?_)
    · exfalso; exact bI_0.mp h26 h.2.2
    refine go_iconst (at_of tX10_setStyle 0 15 rfl) (by unfold in32; omega) ?_
    refine go_goto (tgt := 34) (at_of tX10_setStyle 1 0 rfl) (by decide) ?_
    refine go_istore (at_of tX10_setStyle 1 2 rfl) rfl rfl ?_
    refine go_iload (at_of tX10_setStyle 1 3 rfl) rfl rfl ?_
    refine go_if_eq (tgt := 49) (at_of tX10_setStyle 1 4 rfl) (by decide) (fun h38 => ?_) (fun h38 => ?_)
    · exfalso; omega
    refine go_aload_n (at_of tX10_setStyle 1 5 rfl) rfl ?_
    refine go_iload_n (at_of tX10_setStyle 1 6 rfl) rfl ?_
    refine go_cV (me) lk_X10_197 rfl G_109 (at_of tX10_setStyle 1 7 rfl) rfl (by decide) rfl (Nat.le_of_ble_eq_true rfl) rfl (by first | decide | exact ⟨Nat.zero_le _, Nat.zero_le _⟩) ?_
    refine go_goto (tgt := 50) (at_of tX10_setStyle 1 8 rfl) (by decide) ?_
    refine go_istore (at_of tX10_setStyle 1 10 rfl) rfl rfl ?_
    refine go_iload (at_of tX10_setStyle 1 11 rfl) rfl rfl ?_
    refine go_if_eq (tgt := 80) (at_of tX10_setStyle 1 12 rfl) (by decide) (fun h54 => ?_) (fun h54 => ?_)
    · exfalso; omega
    refine go_aload_n (at_of tX10_setStyle 1 13 rfl) rfl ?_
    refine go_getf fl_X10_19 rfl G_109 (at_of tX10_setStyle 1 14 rfl) ?_
    refine go_if_eq (tgt := 80) (at_of tX10_setStyle 1 15 rfl) (by decide) (fun h61 => ?_) (fun h61 => ?_)
    rotate_left
    · exfalso; omega
    refine go_iconst (at_of tX10_setStyle 2 8 rfl) (by unfold in32; omega) ?_
    refine go_istore (at_of tX10_setStyle 2 9 rfl) rfl rfl ?_
    refine go_aload_n (at_of tX10_setStyle 2 10 rfl) rfl ?_
    refine go_iload (at_of tX10_setStyle 2 11 rfl) rfl rfl ?_
    refine go_if_ne (tgt := 93) (at_of tX10_setStyle 2 12 rfl) (by decide) (fun h86 => ?_) (fun h86 => ?_)
    rotate_left
    · exfalso; omega
    refine go_iload (at_of tX10_setStyle 2 15 rfl) rfl rfl ?_
    refine go_if_eq (tgt := 115) (at_of tX10_setStyle 3 0 rfl) (by decide) (fun h95 => ?_) (fun h95 => ?_)
    rotate_left
    · exfalso; omega
    refine go_aload_n (at_of tX10_setStyle 3 9 rfl) rfl ?_
    refine go_iload (at_of tX10_setStyle 3 10 rfl) rfl rfl ?_
    refine go_bipush (at_of tX10_setStyle 3 11 rfl) (by decide) ?_
    refine go_cV (m7) lk_X10_106 rfl G_109 (at_of tX10_setStyle 3 12 rfl) rfl (by decide) rfl (Nat.le_of_ble_eq_true rfl) rfl (by first | decide | exact ⟨Nat.zero_le _, Nat.zero_le _⟩) ?_
    refine go_iconst (at_of tX10_setStyle 3 13 rfl) (by unfold in32; omega) ?_
    refine go_icmp_ne (tgt := 131) (at_of tX10_setStyle 3 14 rfl) (by decide) (fun h124 => ?_) (fun h124 => ?_)
    · exfalso; omega
    refine go_iconst (at_of tX10_setStyle 3 15 rfl) (by unfold in32; omega) ?_
    refine go_goto (tgt := 132) (at_of tX10_setStyle 4 0 rfl) (by decide) ?_
    refine go_cV (m_goesOn) lk_X10_141 rfl G_109 (at_of tX10_setStyle 4 2 rfl) rfl (by decide) rfl (Nat.le_of_ble_eq_true rfl) rfl (by first | decide | exact ⟨Nat.zero_le _, Nat.zero_le _⟩) ?_
    refine go_if_ne (tgt := 140) (at_of tX10_setStyle 4 3 rfl) (by decide) (fun h135 => ?_) (fun h135 => ?_)
    · exfalso; exact h135 (bI_f (by decide))
    refine go_iconst (at_of tX10_setStyle 4 4 rfl) (by unfold in32; omega) ?_
    first | exact go_reti (at_of tX10_setStyle 4 5 rfl) rfl | exact go_reti (at_of tX10_setStyle 4 5 rfl) (le_i (by omega)) | exact go_reti (at_of tX10_setStyle 4 5 rfl) (le_i (by first | exact bI_t (by omega) | exact bI_f (by omega)))
  | true =>
    have htr : σ.1 109 6 = 1 := htr
    by_cases q4 : (A.1 A.2.1).1.1 4 (ixEnd (A.1 A.2.1).1.1 (A.1 A.2.1).1.2.1 p) = -1
    · have q60 : (A.1 A.2.1).2.1.1 ≠ 60 := fun q => h2 ⟨rfl, q4, q⟩
      refine con_of_go mfX10_setStyle.1 trivial (Nat.le_of_ble_eq_true rfl) rfl (by decide) ?_
      show Go _ _ _ _ 0 [vA _, vI _, vI _, vI _, vT 9 0, vT 9 0, vT 9 0] [] _ _
      refine go_iload_n (at_of tX10_setStyle 0 0 rfl) rfl ?_
      refine go_cS (m_isAuthor) lk_X10_151 rfl (at_of tX10_setStyle 0 1 rfl) rfl (by decide) rfl (Nat.le_of_ble_eq_true rfl) rfl (by first | decide | exact ⟨Nat.zero_le _, Nat.zero_le _⟩) ?_
      refine go_if_eq (tgt := 33) (at_of tX10_setStyle 0 2 rfl) (by decide) (fun h4 => ?_) (fun h4 => ?_)
      · exfalso; exact bI_0.mp h4 h.1
      refine go_aload_n (at_of tX10_setStyle 0 3 rfl) rfl ?_
      refine go_iload_n (at_of tX10_setStyle 0 4 rfl) rfl ?_
      refine go_cV (m_isParagraph hS hN.1 hE hSg) lk_X10_203 rfl G_109 (at_of tX10_setStyle 0 5 rfl) rfl (by decide) rfl (Nat.le_of_ble_eq_true rfl) rfl (by first | decide | exact ⟨Nat.zero_le _, Nat.zero_le _⟩) ?_
      refine go_if_eq (tgt := 33) (at_of tX10_setStyle 0 6 rfl) (by decide) (fun h12 => ?_) (fun h12 => ?_)
      · exfalso; exact bI_0.mp h12 h.2.1
      refine go_iload_n (at_of tX10_setStyle 0 7 rfl) rfl ?_
      refine go_iconst (at_of tX10_setStyle 0 8 rfl) (by unfold in32; omega) ?_
      refine go_aload_n (at_of tX10_setStyle 0 9 rfl) rfl ?_
      refine go_getf fl_X10_23 rfl G_109 (at_of tX10_setStyle 0 10 rfl) ?_
      refine go_iconst (at_of tX10_setStyle 0 11 rfl) (by unfold in32; omega) ?_
      refine go_isub (at_of tX10_setStyle 0 12 rfl) (by unfold in32; omega) ?_
      refine go_cS (m_in) lk_X10_124 rfl (at_of tX10_setStyle 0 13 rfl) rfl (by decide) rfl (Nat.le_of_ble_eq_true rfl) rfl (by first | decide | exact ⟨Nat.zero_le _, Nat.zero_le _⟩) ?_
      refine go_if_eq (tgt := 33) (at_of tX10_setStyle 0 14 rfl) (by decide) (fun h26 => ?_) (fun h26 => ?_)
      · exfalso; exact bI_0.mp h26 h.2.2
      refine go_iconst (at_of tX10_setStyle 0 15 rfl) (by unfold in32; omega) ?_
      refine go_goto (tgt := 34) (at_of tX10_setStyle 1 0 rfl) (by decide) ?_
      refine go_istore (at_of tX10_setStyle 1 2 rfl) rfl rfl ?_
      refine go_iload (at_of tX10_setStyle 1 3 rfl) rfl rfl ?_
      refine go_if_eq (tgt := 49) (at_of tX10_setStyle 1 4 rfl) (by decide) (fun h38 => ?_) (fun h38 => ?_)
      · exfalso; omega
      refine go_aload_n (at_of tX10_setStyle 1 5 rfl) rfl ?_
      refine go_iload_n (at_of tX10_setStyle 1 6 rfl) rfl ?_
      refine go_cV (me) lk_X10_197 rfl G_109 (at_of tX10_setStyle 1 7 rfl) rfl (by decide) rfl (Nat.le_of_ble_eq_true rfl) rfl (by first | decide | exact ⟨Nat.zero_le _, Nat.zero_le _⟩) ?_
      refine go_goto (tgt := 50) (at_of tX10_setStyle 1 8 rfl) (by decide) ?_
      refine go_istore (at_of tX10_setStyle 1 10 rfl) rfl rfl ?_
      refine go_iload (at_of tX10_setStyle 1 11 rfl) rfl rfl ?_
      refine go_if_eq (tgt := 80) (at_of tX10_setStyle 1 12 rfl) (by decide) (fun h54 => ?_) (fun h54 => ?_)
      · exfalso; omega
      refine go_aload_n (at_of tX10_setStyle 1 13 rfl) rfl ?_
      refine go_getf fl_X10_19 rfl G_109 (at_of tX10_setStyle 1 14 rfl) ?_
      refine go_if_eq (tgt := 80) (at_of tX10_setStyle 1 15 rfl) (by decide) (fun h61 => ?_) (fun h61 => ?_)
      · exfalso; omega
      refine go_aload_n (at_of tX10_setStyle 2 0 rfl) rfl ?_
      refine go_iload (at_of tX10_setStyle 2 1 rfl) rfl rfl ?_
      refine go_bipush (at_of tX10_setStyle 2 2 rfl) (by decide) ?_
      refine go_cV (m9) lk_X10_106 rfl G_109 (at_of tX10_setStyle 2 3 rfl) rfl (by decide) rfl (Nat.le_of_ble_eq_true rfl) rfl (by first | decide | exact ⟨Nat.zero_le _, Nat.zero_le _⟩) ?_
      refine go_iconst (at_of tX10_setStyle 2 4 rfl) (by unfold in32; omega) ?_
      refine go_icmp_ne (tgt := 80) (at_of tX10_setStyle 2 5 rfl) (by decide) (fun h73 => ?_) (fun h73 => ?_)
      · exfalso; omega
      refine go_iconst (at_of tX10_setStyle 2 6 rfl) (by unfold in32; omega) ?_
      refine go_goto (tgt := 81) (at_of tX10_setStyle 2 7 rfl) (by decide) ?_
      refine go_istore (at_of tX10_setStyle 2 9 rfl) rfl rfl ?_
      refine go_aload_n (at_of tX10_setStyle 2 10 rfl) rfl ?_
      refine go_iload (at_of tX10_setStyle 2 11 rfl) rfl rfl ?_
      refine go_if_ne (tgt := 93) (at_of tX10_setStyle 2 12 rfl) (by decide) (fun h86 => ?_) (fun h86 => ?_)
      rotate_left
      · exfalso; omega
      refine go_iload (at_of tX10_setStyle 2 15 rfl) rfl rfl ?_
      refine go_if_eq (tgt := 115) (at_of tX10_setStyle 3 0 rfl) (by decide) (fun h95 => ?_) (fun h95 => ?_)
      · exfalso; omega
      refine go_aload_n (at_of tX10_setStyle 3 1 rfl) rfl ?_
      refine go_getr (q := 110) fl_X10_7 rfl G_109 (by first | exact (hS _ _ rfl).trans rfl | exact (hS1 _ _ rfl).trans rfl | exact (hS2 _ _ rfl).trans rfl | exact (hS3 _ _ rfl).trans rfl | exact (hS4 _ _ rfl).trans rfl) (at_of tX10_setStyle 3 2 rfl) ?_
      refine go_sipush (at_of tX10_setStyle 3 3 rfl) (by decide) ?_
      refine go_iald G_110 (by omega) (by omega) (at_of tX10_setStyle 3 4 rfl) ?_
      refine go_bipush (at_of tX10_setStyle 3 5 rfl) (by decide) ?_
      refine go_icmp_ne (tgt := 115) (at_of tX10_setStyle 3 6 rfl) (by decide) (fun h108 => ?_) (fun h108 => ?_)
      rotate_left
      · exfalso; omega
      refine go_aload_n (at_of tX10_setStyle 3 9 rfl) rfl ?_
      refine go_iload (at_of tX10_setStyle 3 10 rfl) rfl rfl ?_
      refine go_bipush (at_of tX10_setStyle 3 11 rfl) (by decide) ?_
      refine go_cV (m7) lk_X10_106 rfl G_109 (at_of tX10_setStyle 3 12 rfl) rfl (by decide) rfl (Nat.le_of_ble_eq_true rfl) rfl (by first | decide | exact ⟨Nat.zero_le _, Nat.zero_le _⟩) ?_
      refine go_iconst (at_of tX10_setStyle 3 13 rfl) (by unfold in32; omega) ?_
      refine go_icmp_ne (tgt := 131) (at_of tX10_setStyle 3 14 rfl) (by decide) (fun h124 => ?_) (fun h124 => ?_)
      · exfalso; omega
      refine go_iconst (at_of tX10_setStyle 3 15 rfl) (by unfold in32; omega) ?_
      refine go_goto (tgt := 132) (at_of tX10_setStyle 4 0 rfl) (by decide) ?_
      refine go_cV (m_goesOn) lk_X10_141 rfl G_109 (at_of tX10_setStyle 4 2 rfl) rfl (by decide) rfl (Nat.le_of_ble_eq_true rfl) rfl (by first | decide | exact ⟨Nat.zero_le _, Nat.zero_le _⟩) ?_
      refine go_if_ne (tgt := 140) (at_of tX10_setStyle 4 3 rfl) (by decide) (fun h135 => ?_) (fun h135 => ?_)
      · exfalso; exact h135 (bI_f (by decide))
      refine go_iconst (at_of tX10_setStyle 4 4 rfl) (by unfold in32; omega) ?_
      first | exact go_reti (at_of tX10_setStyle 4 5 rfl) rfl | exact go_reti (at_of tX10_setStyle 4 5 rfl) (le_i (by omega)) | exact go_reti (at_of tX10_setStyle 4 5 rfl) (le_i (by first | exact bI_t (by omega) | exact bI_f (by omega)))
    · skip
      refine con_of_go mfX10_setStyle.1 trivial (Nat.le_of_ble_eq_true rfl) rfl (by decide) ?_
      show Go _ _ _ _ 0 [vA _, vI _, vI _, vI _, vT 9 0, vT 9 0, vT 9 0] [] _ _
      refine go_iload_n (at_of tX10_setStyle 0 0 rfl) rfl ?_
      refine go_cS (m_isAuthor) lk_X10_151 rfl (at_of tX10_setStyle 0 1 rfl) rfl (by decide) rfl (Nat.le_of_ble_eq_true rfl) rfl (by first | decide | exact ⟨Nat.zero_le _, Nat.zero_le _⟩) ?_
      refine go_if_eq (tgt := 33) (at_of tX10_setStyle 0 2 rfl) (by decide) (fun h4 => ?_) (fun h4 => ?_)
      · exfalso; exact bI_0.mp h4 h.1
      refine go_aload_n (at_of tX10_setStyle 0 3 rfl) rfl ?_
      refine go_iload_n (at_of tX10_setStyle 0 4 rfl) rfl ?_
      refine go_cV (m_isParagraph hS hN.1 hE hSg) lk_X10_203 rfl G_109 (at_of tX10_setStyle 0 5 rfl) rfl (by decide) rfl (Nat.le_of_ble_eq_true rfl) rfl (by first | decide | exact ⟨Nat.zero_le _, Nat.zero_le _⟩) ?_
      refine go_if_eq (tgt := 33) (at_of tX10_setStyle 0 6 rfl) (by decide) (fun h12 => ?_) (fun h12 => ?_)
      · exfalso; exact bI_0.mp h12 h.2.1
      refine go_iload_n (at_of tX10_setStyle 0 7 rfl) rfl ?_
      refine go_iconst (at_of tX10_setStyle 0 8 rfl) (by unfold in32; omega) ?_
      refine go_aload_n (at_of tX10_setStyle 0 9 rfl) rfl ?_
      refine go_getf fl_X10_23 rfl G_109 (at_of tX10_setStyle 0 10 rfl) ?_
      refine go_iconst (at_of tX10_setStyle 0 11 rfl) (by unfold in32; omega) ?_
      refine go_isub (at_of tX10_setStyle 0 12 rfl) (by unfold in32; omega) ?_
      refine go_cS (m_in) lk_X10_124 rfl (at_of tX10_setStyle 0 13 rfl) rfl (by decide) rfl (Nat.le_of_ble_eq_true rfl) rfl (by first | decide | exact ⟨Nat.zero_le _, Nat.zero_le _⟩) ?_
      refine go_if_eq (tgt := 33) (at_of tX10_setStyle 0 14 rfl) (by decide) (fun h26 => ?_) (fun h26 => ?_)
      · exfalso; exact bI_0.mp h26 h.2.2
      refine go_iconst (at_of tX10_setStyle 0 15 rfl) (by unfold in32; omega) ?_
      refine go_goto (tgt := 34) (at_of tX10_setStyle 1 0 rfl) (by decide) ?_
      refine go_istore (at_of tX10_setStyle 1 2 rfl) rfl rfl ?_
      refine go_iload (at_of tX10_setStyle 1 3 rfl) rfl rfl ?_
      refine go_if_eq (tgt := 49) (at_of tX10_setStyle 1 4 rfl) (by decide) (fun h38 => ?_) (fun h38 => ?_)
      · exfalso; omega
      refine go_aload_n (at_of tX10_setStyle 1 5 rfl) rfl ?_
      refine go_iload_n (at_of tX10_setStyle 1 6 rfl) rfl ?_
      refine go_cV (me) lk_X10_197 rfl G_109 (at_of tX10_setStyle 1 7 rfl) rfl (by decide) rfl (Nat.le_of_ble_eq_true rfl) rfl (by first | decide | exact ⟨Nat.zero_le _, Nat.zero_le _⟩) ?_
      refine go_goto (tgt := 50) (at_of tX10_setStyle 1 8 rfl) (by decide) ?_
      refine go_istore (at_of tX10_setStyle 1 10 rfl) rfl rfl ?_
      refine go_iload (at_of tX10_setStyle 1 11 rfl) rfl rfl ?_
      refine go_if_eq (tgt := 80) (at_of tX10_setStyle 1 12 rfl) (by decide) (fun h54 => ?_) (fun h54 => ?_)
      · exfalso; omega
      refine go_aload_n (at_of tX10_setStyle 1 13 rfl) rfl ?_
      refine go_getf fl_X10_19 rfl G_109 (at_of tX10_setStyle 1 14 rfl) ?_
      refine go_if_eq (tgt := 80) (at_of tX10_setStyle 1 15 rfl) (by decide) (fun h61 => ?_) (fun h61 => ?_)
      · exfalso; omega
      refine go_aload_n (at_of tX10_setStyle 2 0 rfl) rfl ?_
      refine go_iload (at_of tX10_setStyle 2 1 rfl) rfl rfl ?_
      refine go_bipush (at_of tX10_setStyle 2 2 rfl) (by decide) ?_
      refine go_cV (m9) lk_X10_106 rfl G_109 (at_of tX10_setStyle 2 3 rfl) rfl (by decide) rfl (Nat.le_of_ble_eq_true rfl) rfl (by first | decide | exact ⟨Nat.zero_le _, Nat.zero_le _⟩) ?_
      refine go_iconst (at_of tX10_setStyle 2 4 rfl) (by unfold in32; omega) ?_
      refine go_icmp_ne (tgt := 80) (at_of tX10_setStyle 2 5 rfl) (by decide) (fun h73 => ?_) (fun h73 => ?_)
      rotate_left
      · exfalso; omega
      refine go_iconst (at_of tX10_setStyle 2 8 rfl) (by unfold in32; omega) ?_
      refine go_istore (at_of tX10_setStyle 2 9 rfl) rfl rfl ?_
      refine go_aload_n (at_of tX10_setStyle 2 10 rfl) rfl ?_
      refine go_iload (at_of tX10_setStyle 2 11 rfl) rfl rfl ?_
      refine go_if_ne (tgt := 93) (at_of tX10_setStyle 2 12 rfl) (by decide) (fun h86 => ?_) (fun h86 => ?_)
      rotate_left
      · exfalso; omega
      refine go_iload (at_of tX10_setStyle 2 15 rfl) rfl rfl ?_
      refine go_if_eq (tgt := 115) (at_of tX10_setStyle 3 0 rfl) (by decide) (fun h95 => ?_) (fun h95 => ?_)
      rotate_left
      · exfalso; omega
      refine go_aload_n (at_of tX10_setStyle 3 9 rfl) rfl ?_
      refine go_iload (at_of tX10_setStyle 3 10 rfl) rfl rfl ?_
      refine go_bipush (at_of tX10_setStyle 3 11 rfl) (by decide) ?_
      refine go_cV (m7) lk_X10_106 rfl G_109 (at_of tX10_setStyle 3 12 rfl) rfl (by decide) rfl (Nat.le_of_ble_eq_true rfl) rfl (by first | decide | exact ⟨Nat.zero_le _, Nat.zero_le _⟩) ?_
      refine go_iconst (at_of tX10_setStyle 3 13 rfl) (by unfold in32; omega) ?_
      refine go_icmp_ne (tgt := 131) (at_of tX10_setStyle 3 14 rfl) (by decide) (fun h124 => ?_) (fun h124 => ?_)
      · exfalso; omega
      refine go_iconst (at_of tX10_setStyle 3 15 rfl) (by unfold in32; omega) ?_
      refine go_goto (tgt := 132) (at_of tX10_setStyle 4 0 rfl) (by decide) ?_
      refine go_cV (m_goesOn) lk_X10_141 rfl G_109 (at_of tX10_setStyle 4 2 rfl) rfl (by decide) rfl (Nat.le_of_ble_eq_true rfl) rfl (by first | decide | exact ⟨Nat.zero_le _, Nat.zero_le _⟩) ?_
      refine go_if_ne (tgt := 140) (at_of tX10_setStyle 4 3 rfl) (by decide) (fun h135 => ?_) (fun h135 => ?_)
      · exfalso; exact h135 (bI_f (by decide))
      refine go_iconst (at_of tX10_setStyle 4 4 rfl) (by unfold in32; omega) ?_
      first | exact go_reti (at_of tX10_setStyle 4 5 rfl) rfl | exact go_reti (at_of tX10_setStyle 4 5 rfl) (le_i (by omega)) | exact go_reti (at_of tX10_setStyle 4 5 rfl) (le_i (by first | exact bI_t (by omega) | exact bI_f (by omega)))
def mstoD (D : PapD) (e z : Int) : PapD := if D.1.1 4 e = -1 then (setR D.1 5 e z, D.2) else (setR (setR D.1 4 e (-1)) 5 e z, sstL D.2.1 (D.1.1 4 e) 97, D.2.2)
theorem m_setStyle_t (hS : Str σ.2.1) {A : PastD} (hM : PastM σ A) (hW : WfB (A.1 A.2.1)) (h7 : 1 ≤ σ.1 109 7 ∧ σ.1 109 7 ≤ 8) {a p z : Int} (htr : σ.1 109 6 = 1) (h : (0 ≤ a ∧ a ≤ 3) ∧ (0 ≤ p ∧ p ≤ endsA (A.1 A.2.1).1.1 (A.1 A.2.1).1.2.1 (A.1 A.2.1).1.2.1) ∧ 0 ≤ z ∧ z ≤ σ.1 109 7 - 1) (h2 : ¬ ((A.1 A.2.1).1.1 4 (ixEnd (A.1 A.2.1).1.1 (A.1 A.2.1).1.2.1 p) = -1 ∧ (A.1 A.2.1).2.1.1 = 60)) (h3 : (A.1 A.2.1).1.1 10 (ixEnd (A.1 A.2.1).1.1 (A.1 A.2.1).1.2.1 p) ≠ 1) : ∃ σ', Con 4 mX10_setStyle 0 0 [vA 109, vI a, vI p, vI z] σ (vI (rstyC (A.1 A.2.1) (ixEnd (A.1 A.2.1).1.1 (A.1 A.2.1).1.2.1 p)), σ') ∧ PastM σ' (edA (begA A) (rstyD (A.1 A.2.1) a (ixEnd (A.1 A.2.1).1.1 (A.1 A.2.1).1.2.1 p) z)) ∧ FrE σ σ' ∧ σ'.1 109 0 = 0 := by
  obtain ⟨hWm, hl2, h4⟩ := id hW
  obtain ⟨hE, hSg, hMk, hRw⟩ := id hWm
  obtain ⟨e1, e2, e3, e4⟩ := id hE
  have hN := hM.2.2.2.1
  obtain ⟨b1, b2, b3, b4⟩ := id hN.2.2.2
  have hl := hN.2.1.2
  have hcc : σ.1 110 (3011 : Int).toNat = (A.1 A.2.1).2.1.1 := hN.2.1.1
  have hSt : Str (P1 σ 109 0 0).2.1 := hS
  have hMt : PastM (P1 σ 109 0 0) A := hM.th
  obtain ⟨σ1, x1, x2, x3, x4, x5⟩ := m_edits hSt hMt
  have hS1 : Str σ1.2.1 := by rw [x3.1]; exact hS
  have hN1 : RepN (cN σ1) (A.1 A.2.1) := by
    have := x2.2.2.2.1
    rw [cur_beg] at this; exact this
  have x50 : σ1.1 109 0 = 0 := x5.trans P1_eq
  have fin : ∀ {σ' : St} {D' : PapD}, FrN σ1 σ' → RepN (cN σ') D' → PastM σ' (edA (begA A) D') ∧ FrE σ σ' ∧ σ'.1 109 0 = 0 := fun {σ' D'} hF hD => ⟨hF.past x2 hD, (FrE.th.trans x3).trans hF.e, (hF.2 109 0 (by omega)).trans x50⟩
  obtain ⟨u1, u2, u3, h47⟩ := ixEnd_end e1 ((ixEnd_iff hE).mpr h.2.1)
  have me := m_endOfParagraph hS hN.1 hE hSg h.2.1.1 h.2.1.2
  have m9 := m_at9 hS hN.1 (u := (ixEnd (A.1 A.2.1).1.1 (A.1 A.2.1).1.2.1 p)) ⟨u1, u2, b2⟩
  have m7 := m_at7 hS hN.1 (u := (ixEnd (A.1 A.2.1).1.1 (A.1 A.2.1).1.2.1 p)) ⟨u1, u2, b2⟩ h47
  have t6 : σ1.1 109 6 = σ.1 109 6 := (x3.2 109 6 (by omega)).trans (P1_nj (by omega))
  obtain ⟨e, he⟩ : ∃ e, e = (ixEnd (A.1 A.2.1).1.1 (A.1 A.2.1).1.2.1 p) := ⟨_, rfl⟩
  rw [← he] at me m9 m7 u1 u2 u3 h47 h2 h3 ⊢
  unfold rstyC rstyD
  have n9 := m_at9 hS1 hN1.1 (u := e) ⟨u1, u2, b2⟩
  by_cases q4 : (A.1 A.2.1).1.1 4 e = -1
  · have q60 : (A.1 A.2.1).2.1.1 < 60 := by
      rcases Int.lt_or_eq_of_le b4 with y | y
      · exact y
      · exact absurd ⟨q4, y⟩ h2
    rw [if_pos q4, if_pos q4]
    have n3 := m_at3 hS1 hN1.1 (u := e) ⟨u1, u2, b2⟩ h47
    have N2 := rN_set8 (z := (A.1 A.2.1).1.1 5 e) hN1.1 (u := e) ⟨u1, u2⟩ b2
    have P2 := hN1.set ⟨by omega, by omega⟩ N2 ⟨b1, b2⟩
    obtain ⟨σ2, hσ2⟩ : ∃ σ2, σ2 = M1 σ1 110 (10 * e + 8) ((A.1 A.2.1).1.1 5 e) := ⟨_, rfl⟩
    rw [← hσ2] at P2
    have F2 : FrN σ1 σ2 := by rw [hσ2]; exact FrN.m1
    have hS2 := F2.str hS1
    obtain ⟨c1, c2, c3⟩ := m_newChange hS2 P2 (a := a) (w := 115) q60
    obtain ⟨σ3, hσ3⟩ : ∃ σ3, σ3 = (M1 (M1 (M1 (M1 σ2 110 (3013 + (A.1 A.2.1).2.1.1) a) 110 (3073 + (A.1 A.2.1).2.1.1) 119) 110 (3133 + (A.1 A.2.1).2.1.1) 115) 110 3011 ((A.1 A.2.1).2.1.1 + 1)) := ⟨_, rfl⟩
    have c1 : Con 0 mX10_newChange 0 0 [vA 109, vI a, vI 115] σ2 (vI (A.1 A.2.1).2.1.1, σ3) := by rw [hσ3]; exact c1
    have c2 : RepN (cN σ3) (setR (A.1 A.2.1).1 6 e ((A.1 A.2.1).1.1 5 e), enrL (A.1 A.2.1).2.1 115 a, (A.1 A.2.1).2.2) := by rw [hσ3]; exact c2
    have c3 : FrN σ2 σ3 := by rw [hσ3]; exact c3
    have hS3 := c3.str hS2
    have N4 := rN_set9 (z := (A.1 A.2.1).2.1.1) c2.1 (u := e) ⟨u1, u2⟩ b2
    have P4 := c2.set ⟨by omega, by omega⟩ N4 ⟨b1, b2⟩
    have N5 := rN_set3 (z := z) N4 (u := e) ⟨u1, u2⟩ b2
    have P5 := P4.set ⟨by omega, by omega⟩ N5 ⟨b1, b2⟩
    have n9f := m_at9 (σ := M1 (M1 σ3 110 (10 * e + 9) (A.1 A.2.1).2.1.1) 110 (10 * e + 3) z) hS3 N5 (u := e) ⟨u1, u2, b2⟩
    rw [setR_ne (by omega)] at n9f
    have n9g : Con 0 mX10_at 0 0 [vA 109, vI e, vI 9] (M1 (M1 σ3 110 (10 * e + 9) (A.1 A.2.1).2.1.1) 110 (10 * e + 3) z) (vI (A.1 A.2.1).2.1.1, M1 (M1 σ3 110 (10 * e + 9) (A.1 A.2.1).2.1.1) 110 (10 * e + 3) z) := by
      have y : (setR (setR (A.1 A.2.1).1 6 e ((A.1 A.2.1).1.1 5 e)) 4 e (A.1 A.2.1).2.1.1).1 4 e = (A.1 A.2.1).2.1.1 := if_pos ⟨rfl, rfl⟩
      rw [y] at n9f; exact n9f
    have F5 : FrN σ1 (M1 (M1 σ3 110 (10 * e + 9) (A.1 A.2.1).2.1.1) 110 (10 * e + 3) z) := (F2.trans c3).trans (FrN.m1.trans FrN.m1)
    have t63 : σ3.1 109 6 = 1 := by rw [c3.2 109 6 (by omega), F2.2 109 6 (by omega), t6]; exact htr
    have t65 : (M1 (M1 σ3 110 (10 * e + 9) (A.1 A.2.1).2.1.1) 110 (10 * e + 3) z).1 109 6 = 1 := by rw [M1_ne (by omega), M1_ne (by omega)]; exact t63
    have t64 : (M1 σ3 110 (10 * e + 9) (A.1 A.2.1).2.1.1).1 109 6 = 1 := by rw [M1_ne (by omega)]; exact t63
    refine ⟨M1 (M1 σ3 110 (10 * e + 9) (A.1 A.2.1).2.1.1) 110 (10 * e + 3) z, ?_, fin F5 (by rw [setR_comm (R := (A.1 A.2.1).1) (w := 4) (w' := 6) (by omega)]; exact P5)⟩
    refine con_of_go mfX10_setStyle.1 trivial (Nat.le_of_ble_eq_true rfl) rfl (by decide) ?_
    show Go _ _ _ _ 0 [vA _, vI _, vI _, vI _, vT 9 0, vT 9 0, vT 9 0] [] _ _
    refine go_iload_n (at_of tX10_setStyle 0 0 rfl) rfl ?_
    refine go_cS (m_isAuthor) lk_X10_151 rfl (at_of tX10_setStyle 0 1 rfl) rfl (by decide) rfl (Nat.le_of_ble_eq_true rfl) rfl (by first | decide | exact ⟨Nat.zero_le _, Nat.zero_le _⟩) ?_
    refine go_if_eq (tgt := 33) (at_of tX10_setStyle 0 2 rfl) (by decide) (fun h4 => ?_) (fun h4 => ?_)
    · exfalso; exact bI_0.mp h4 h.1
    refine go_aload_n (at_of tX10_setStyle 0 3 rfl) rfl ?_
    refine go_iload_n (at_of tX10_setStyle 0 4 rfl) rfl ?_
    refine go_cV (m_isParagraph hS hN.1 hE hSg) lk_X10_203 rfl G_109 (at_of tX10_setStyle 0 5 rfl) rfl (by decide) rfl (Nat.le_of_ble_eq_true rfl) rfl (by first | decide | exact ⟨Nat.zero_le _, Nat.zero_le _⟩) ?_
    refine go_if_eq (tgt := 33) (at_of tX10_setStyle 0 6 rfl) (by decide) (fun h12 => ?_) (fun h12 => ?_)
    · exfalso; exact bI_0.mp h12 h.2.1
    refine go_iload_n (at_of tX10_setStyle 0 7 rfl) rfl ?_
    refine go_iconst (at_of tX10_setStyle 0 8 rfl) (by unfold in32; omega) ?_
    refine go_aload_n (at_of tX10_setStyle 0 9 rfl) rfl ?_
    refine go_getf fl_X10_23 rfl G_109 (at_of tX10_setStyle 0 10 rfl) ?_
    refine go_iconst (at_of tX10_setStyle 0 11 rfl) (by unfold in32; omega) ?_
    refine go_isub (at_of tX10_setStyle 0 12 rfl) (by unfold in32; omega) ?_
    refine go_cS (m_in) lk_X10_124 rfl (at_of tX10_setStyle 0 13 rfl) rfl (by decide) rfl (Nat.le_of_ble_eq_true rfl) rfl (by first | decide | exact ⟨Nat.zero_le _, Nat.zero_le _⟩) ?_
    refine go_if_eq (tgt := 33) (at_of tX10_setStyle 0 14 rfl) (by decide) (fun h26 => ?_) (fun h26 => ?_)
    · exfalso; exact bI_0.mp h26 h.2.2
    refine go_iconst (at_of tX10_setStyle 0 15 rfl) (by unfold in32; omega) ?_
    refine go_goto (tgt := 34) (at_of tX10_setStyle 1 0 rfl) (by decide) ?_
    refine go_istore (at_of tX10_setStyle 1 2 rfl) rfl rfl ?_
    refine go_iload (at_of tX10_setStyle 1 3 rfl) rfl rfl ?_
    refine go_if_eq (tgt := 49) (at_of tX10_setStyle 1 4 rfl) (by decide) (fun h38 => ?_) (fun h38 => ?_)
    · exfalso; omega
    refine go_aload_n (at_of tX10_setStyle 1 5 rfl) rfl ?_
    refine go_iload_n (at_of tX10_setStyle 1 6 rfl) rfl ?_
    refine go_cV (me) lk_X10_197 rfl G_109 (at_of tX10_setStyle 1 7 rfl) rfl (by decide) rfl (Nat.le_of_ble_eq_true rfl) rfl (by first | decide | exact ⟨Nat.zero_le _, Nat.zero_le _⟩) ?_
    refine go_goto (tgt := 50) (at_of tX10_setStyle 1 8 rfl) (by decide) ?_
    refine go_istore (at_of tX10_setStyle 1 10 rfl) rfl rfl ?_
    refine go_iload (at_of tX10_setStyle 1 11 rfl) rfl rfl ?_
    refine go_if_eq (tgt := 80) (at_of tX10_setStyle 1 12 rfl) (by decide) (fun h54 => ?_) (fun h54 => ?_)
    · exfalso; omega
    refine go_aload_n (at_of tX10_setStyle 1 13 rfl) rfl ?_
    refine go_getf fl_X10_19 rfl G_109 (at_of tX10_setStyle 1 14 rfl) ?_
    refine go_if_eq (tgt := 80) (at_of tX10_setStyle 1 15 rfl) (by decide) (fun h61 => ?_) (fun h61 => ?_)
    · exfalso; omega
    refine go_aload_n (at_of tX10_setStyle 2 0 rfl) rfl ?_
    refine go_iload (at_of tX10_setStyle 2 1 rfl) rfl rfl ?_
    refine go_bipush (at_of tX10_setStyle 2 2 rfl) (by decide) ?_
    refine go_cV (m9) lk_X10_106 rfl G_109 (at_of tX10_setStyle 2 3 rfl) rfl (by decide) rfl (Nat.le_of_ble_eq_true rfl) rfl (by first | decide | exact ⟨Nat.zero_le _, Nat.zero_le _⟩) ?_
    refine go_iconst (at_of tX10_setStyle 2 4 rfl) (by unfold in32; omega) ?_
    refine go_icmp_ne (tgt := 80) (at_of tX10_setStyle 2 5 rfl) (by decide) (fun h73 => ?_) (fun h73 => ?_)
    · exfalso; omega
    refine go_iconst (at_of tX10_setStyle 2 6 rfl) (by unfold in32; omega) ?_
    refine go_goto (tgt := 81) (at_of tX10_setStyle 2 7 rfl) (by decide) ?_
    refine go_istore (at_of tX10_setStyle 2 9 rfl) rfl rfl ?_
    refine go_aload_n (at_of tX10_setStyle 2 10 rfl) rfl ?_
    refine go_iload (at_of tX10_setStyle 2 11 rfl) rfl rfl ?_
    refine go_if_ne (tgt := 93) (at_of tX10_setStyle 2 12 rfl) (by decide) (fun h86 => ?_) (fun h86 => ?_)
    rotate_left
    · exfalso; omega
    refine go_iload (at_of tX10_setStyle 2 15 rfl) rfl rfl ?_
    refine go_if_eq (tgt := 115) (at_of tX10_setStyle 3 0 rfl) (by decide) (fun h95 => ?_) (fun h95 => ?_)
    · exfalso; omega
    refine go_aload_n (at_of tX10_setStyle 3 1 rfl) rfl ?_
    refine go_getr (q := 110) fl_X10_7 rfl G_109 (by first | exact (hS _ _ rfl).trans rfl | exact (hS1 _ _ rfl).trans rfl | exact (hS2 _ _ rfl).trans rfl | exact (hS3 _ _ rfl).trans rfl | exact (hS4 _ _ rfl).trans rfl) (at_of tX10_setStyle 3 2 rfl) ?_
    refine go_sipush (at_of tX10_setStyle 3 3 rfl) (by decide) ?_
    refine go_iald G_110 (by omega) (by omega) (at_of tX10_setStyle 3 4 rfl) ?_
    refine go_bipush (at_of tX10_setStyle 3 5 rfl) (by decide) ?_
    refine go_icmp_ne (tgt := 115) (at_of tX10_setStyle 3 6 rfl) (by decide) (fun h108 => ?_) (fun h108 => ?_)
    rotate_left
    · exfalso; omega
    refine go_aload_n (at_of tX10_setStyle 3 9 rfl) rfl ?_
    refine go_iload (at_of tX10_setStyle 3 10 rfl) rfl rfl ?_
    refine go_bipush (at_of tX10_setStyle 3 11 rfl) (by decide) ?_
    refine go_cV (m7) lk_X10_106 rfl G_109 (at_of tX10_setStyle 3 12 rfl) rfl (by decide) rfl (Nat.le_of_ble_eq_true rfl) rfl (by first | decide | exact ⟨Nat.zero_le _, Nat.zero_le _⟩) ?_
    refine go_iconst (at_of tX10_setStyle 3 13 rfl) (by unfold in32; omega) ?_
    refine go_icmp_ne (tgt := 131) (at_of tX10_setStyle 3 14 rfl) (by decide) (fun h124 => ?_) (fun h124 => ?_)
    rotate_left
    · exfalso; omega
    refine go_iconst (at_of tX10_setStyle 4 1 rfl) (by unfold in32; omega) ?_
    refine go_cV (m_goesOn) lk_X10_141 rfl G_109 (at_of tX10_setStyle 4 2 rfl) rfl (by decide) rfl (Nat.le_of_ble_eq_true rfl) rfl (by first | decide | exact ⟨Nat.zero_le _, Nat.zero_le _⟩) ?_
    refine go_if_ne (tgt := 140) (at_of tX10_setStyle 4 3 rfl) (by decide) (fun h135 => ?_) (fun h135 => ?_)
    rotate_left
    · exfalso; exact absurd h135 (by rw [bI_t rfl]; decide)
    refine go_aload_n (at_of tX10_setStyle 4 6 rfl) rfl ?_
    refine go_cV (x1) lk_X10_166 rfl G_109 (at_of tX10_setStyle 4 7 rfl) rfl (by decide) rfl (Nat.le_of_ble_eq_true rfl) rfl (by first | decide | exact ⟨Nat.zero_le _, Nat.zero_le _⟩) ?_
    refine go_iload (at_of tX10_setStyle 4 8 rfl) rfl rfl ?_
    refine go_if_eq (tgt := 179) (at_of tX10_setStyle 4 9 rfl) (by decide) (fun h146 => ?_) (fun h146 => ?_)
    · exfalso; omega
    refine go_aload_n (at_of tX10_setStyle 4 10 rfl) rfl ?_
    refine go_iload (at_of tX10_setStyle 4 11 rfl) rfl rfl ?_
    refine go_bipush (at_of tX10_setStyle 4 12 rfl) (by decide) ?_
    refine go_aload_n (at_of tX10_setStyle 4 13 rfl) rfl ?_
    refine go_iload (at_of tX10_setStyle 4 14 rfl) rfl rfl ?_
    refine go_iconst (at_of tX10_setStyle 4 15 rfl) (by unfold in32; omega) ?_
    refine go_cV (n3) lk_X10_106 rfl G_109 (at_of tX10_setStyle 5 0 rfl) rfl (by decide) rfl (Nat.le_of_ble_eq_true rfl) rfl (by first | decide | exact ⟨Nat.zero_le _, Nat.zero_le _⟩) ?_
    refine go_cV (m_setAt hS1 (by omega)) lk_X10_99 rfl G_109 (at_of tX10_setStyle 5 1 rfl) rfl (by decide) rfl (Nat.le_of_ble_eq_true rfl) rfl (by first | decide | exact ⟨Nat.zero_le _, Nat.zero_le _⟩) ?_
    rw [← hσ2]
    refine go_aload_n (at_of tX10_setStyle 5 2 rfl) rfl ?_
    refine go_iload (at_of tX10_setStyle 5 3 rfl) rfl rfl ?_
    refine go_bipush (at_of tX10_setStyle 5 4 rfl) (by decide) ?_
    refine go_aload_n (at_of tX10_setStyle 5 5 rfl) rfl ?_
    refine go_iload_n (at_of tX10_setStyle 5 6 rfl) rfl ?_
    refine go_bipush (at_of tX10_setStyle 5 7 rfl) (by decide) ?_
    refine go_cV (c1) lk_X10_169 rfl G_109 (at_of tX10_setStyle 5 8 rfl) rfl (by decide) rfl (Nat.le_of_ble_eq_true rfl) rfl (by first | decide | exact ⟨Nat.zero_le _, Nat.zero_le _⟩) ?_
    refine go_cV (m_setAt hS3 (by omega)) lk_X10_99 rfl G_109 (at_of tX10_setStyle 5 9 rfl) rfl (by decide) rfl (Nat.le_of_ble_eq_true rfl) rfl (by first | decide | exact ⟨Nat.zero_le _, Nat.zero_le _⟩) ?_
    refine go_aload_n (at_of tX10_setStyle 5 10 rfl) rfl ?_
    refine go_getf fl_X10_19 rfl G_109 (at_of tX10_setStyle 5 11 rfl) ?_
    rw [t64]
    refine go_if_ne (tgt := 226) (at_of tX10_setStyle 5 12 rfl) (by decide) (fun h183 => ?_) (fun h183 => ?_)
    rotate_left
    · exfalso; omega
    refine go_aload_n (at_of tX10_setStyle 7 2 rfl) rfl ?_
    refine go_iload (at_of tX10_setStyle 7 3 rfl) rfl rfl ?_
    refine go_iconst (at_of tX10_setStyle 7 4 rfl) (by unfold in32; omega) ?_
    refine go_iload_n (at_of tX10_setStyle 7 5 rfl) rfl ?_
    refine go_cV (m_setAt (by exact hS3) (by omega)) lk_X10_99 rfl G_109 (at_of tX10_setStyle 7 6 rfl) rfl (by decide) rfl (Nat.le_of_ble_eq_true rfl) rfl (by first | decide | exact ⟨Nat.zero_le _, Nat.zero_le _⟩) ?_
    refine go_aload_n (at_of tX10_setStyle 7 7 rfl) rfl ?_
    refine go_getf fl_X10_19 rfl G_109 (at_of tX10_setStyle 7 8 rfl) ?_
    rw [t65]
    refine go_if_eq (tgt := 252) (at_of tX10_setStyle 7 9 rfl) (by decide) (fun h238 => ?_) (fun h238 => ?_)
    · exfalso; omega
    refine go_aload_n (at_of tX10_setStyle 7 10 rfl) rfl ?_
    refine go_iload (at_of tX10_setStyle 7 11 rfl) rfl rfl ?_
    refine go_bipush (at_of tX10_setStyle 7 12 rfl) (by decide) ?_
    refine go_cV (n9g) lk_X10_106 rfl G_109 (at_of tX10_setStyle 7 13 rfl) rfl (by decide) rfl (Nat.le_of_ble_eq_true rfl) rfl (by first | decide | exact ⟨Nat.zero_le _, Nat.zero_le _⟩) ?_
    refine go_goto (tgt := 253) (at_of tX10_setStyle 7 14 rfl) (by decide) ?_
    first | exact go_reti (at_of tX10_setStyle 8 0 rfl) rfl | exact go_reti (at_of tX10_setStyle 8 0 rfl) (le_i (by omega)) | exact go_reti (at_of tX10_setStyle 8 0 rfl) (le_i (by first | exact bI_t (by omega) | exact bI_f (by omega)))
  · rw [if_neg q4, if_neg q4]
    have N5 := rN_set3 (z := z) hN1.1 (u := e) ⟨u1, u2⟩ b2
    have P5 := hN1.set ⟨by omega, by omega⟩ N5 ⟨b1, b2⟩
    have n9f := m_at9 (σ := M1 σ1 110 (10 * e + 3) z) hS1 N5 (u := e) ⟨u1, u2, b2⟩
    rw [setR_ne (by omega)] at n9f
    have t65 : (M1 σ1 110 (10 * e + 3) z).1 109 6 = 1 := by rw [M1_ne (by omega), t6]; exact htr
    refine ⟨M1 σ1 110 (10 * e + 3) z, ?_, fin FrN.m1 P5⟩
    refine con_of_go mfX10_setStyle.1 trivial (Nat.le_of_ble_eq_true rfl) rfl (by decide) ?_
    show Go _ _ _ _ 0 [vA _, vI _, vI _, vI _, vT 9 0, vT 9 0, vT 9 0] [] _ _
    refine go_iload_n (at_of tX10_setStyle 0 0 rfl) rfl ?_
    refine go_cS (m_isAuthor) lk_X10_151 rfl (at_of tX10_setStyle 0 1 rfl) rfl (by decide) rfl (Nat.le_of_ble_eq_true rfl) rfl (by first | decide | exact ⟨Nat.zero_le _, Nat.zero_le _⟩) ?_
    refine go_if_eq (tgt := 33) (at_of tX10_setStyle 0 2 rfl) (by decide) (fun h4 => ?_) (fun h4 => ?_)
    · exfalso; exact bI_0.mp h4 h.1
    refine go_aload_n (at_of tX10_setStyle 0 3 rfl) rfl ?_
    refine go_iload_n (at_of tX10_setStyle 0 4 rfl) rfl ?_
    refine go_cV (m_isParagraph hS hN.1 hE hSg) lk_X10_203 rfl G_109 (at_of tX10_setStyle 0 5 rfl) rfl (by decide) rfl (Nat.le_of_ble_eq_true rfl) rfl (by first | decide | exact ⟨Nat.zero_le _, Nat.zero_le _⟩) ?_
    refine go_if_eq (tgt := 33) (at_of tX10_setStyle 0 6 rfl) (by decide) (fun h12 => ?_) (fun h12 => ?_)
    · exfalso; exact bI_0.mp h12 h.2.1
    refine go_iload_n (at_of tX10_setStyle 0 7 rfl) rfl ?_
    refine go_iconst (at_of tX10_setStyle 0 8 rfl) (by unfold in32; omega) ?_
    refine go_aload_n (at_of tX10_setStyle 0 9 rfl) rfl ?_
    refine go_getf fl_X10_23 rfl G_109 (at_of tX10_setStyle 0 10 rfl) ?_
    refine go_iconst (at_of tX10_setStyle 0 11 rfl) (by unfold in32; omega) ?_
    refine go_isub (at_of tX10_setStyle 0 12 rfl) (by unfold in32; omega) ?_
    refine go_cS (m_in) lk_X10_124 rfl (at_of tX10_setStyle 0 13 rfl) rfl (by decide) rfl (Nat.le_of_ble_eq_true rfl) rfl (by first | decide | exact ⟨Nat.zero_le _, Nat.zero_le _⟩) ?_
    refine go_if_eq (tgt := 33) (at_of tX10_setStyle 0 14 rfl) (by decide) (fun h26 => ?_) (fun h26 => ?_)
    · exfalso; exact bI_0.mp h26 h.2.2
    refine go_iconst (at_of tX10_setStyle 0 15 rfl) (by unfold in32; omega) ?_
    refine go_goto (tgt := 34) (at_of tX10_setStyle 1 0 rfl) (by decide) ?_
    refine go_istore (at_of tX10_setStyle 1 2 rfl) rfl rfl ?_
    refine go_iload (at_of tX10_setStyle 1 3 rfl) rfl rfl ?_
    refine go_if_eq (tgt := 49) (at_of tX10_setStyle 1 4 rfl) (by decide) (fun h38 => ?_) (fun h38 => ?_)
    · exfalso; omega
    refine go_aload_n (at_of tX10_setStyle 1 5 rfl) rfl ?_
    refine go_iload_n (at_of tX10_setStyle 1 6 rfl) rfl ?_
    refine go_cV (me) lk_X10_197 rfl G_109 (at_of tX10_setStyle 1 7 rfl) rfl (by decide) rfl (Nat.le_of_ble_eq_true rfl) rfl (by first | decide | exact ⟨Nat.zero_le _, Nat.zero_le _⟩) ?_
    refine go_goto (tgt := 50) (at_of tX10_setStyle 1 8 rfl) (by decide) ?_
    refine go_istore (at_of tX10_setStyle 1 10 rfl) rfl rfl ?_
    refine go_iload (at_of tX10_setStyle 1 11 rfl) rfl rfl ?_
    refine go_if_eq (tgt := 80) (at_of tX10_setStyle 1 12 rfl) (by decide) (fun h54 => ?_) (fun h54 => ?_)
    · exfalso; omega
    refine go_aload_n (at_of tX10_setStyle 1 13 rfl) rfl ?_
    refine go_getf fl_X10_19 rfl G_109 (at_of tX10_setStyle 1 14 rfl) ?_
    refine go_if_eq (tgt := 80) (at_of tX10_setStyle 1 15 rfl) (by decide) (fun h61 => ?_) (fun h61 => ?_)
    · exfalso; omega
    refine go_aload_n (at_of tX10_setStyle 2 0 rfl) rfl ?_
    refine go_iload (at_of tX10_setStyle 2 1 rfl) rfl rfl ?_
    refine go_bipush (at_of tX10_setStyle 2 2 rfl) (by decide) ?_
    refine go_cV (m9) lk_X10_106 rfl G_109 (at_of tX10_setStyle 2 3 rfl) rfl (by decide) rfl (Nat.le_of_ble_eq_true rfl) rfl (by first | decide | exact ⟨Nat.zero_le _, Nat.zero_le _⟩) ?_
    refine go_iconst (at_of tX10_setStyle 2 4 rfl) (by unfold in32; omega) ?_
    refine go_icmp_ne (tgt := 80) (at_of tX10_setStyle 2 5 rfl) (by decide) (fun h73 => ?_) (fun h73 => ?_)
    rotate_left
    · exfalso; omega
    refine go_iconst (at_of tX10_setStyle 2 8 rfl) (by unfold in32; omega) ?_
    refine go_istore (at_of tX10_setStyle 2 9 rfl) rfl rfl ?_
    refine go_aload_n (at_of tX10_setStyle 2 10 rfl) rfl ?_
    refine go_iload (at_of tX10_setStyle 2 11 rfl) rfl rfl ?_
    refine go_if_ne (tgt := 93) (at_of tX10_setStyle 2 12 rfl) (by decide) (fun h86 => ?_) (fun h86 => ?_)
    rotate_left
    · exfalso; omega
    refine go_iload (at_of tX10_setStyle 2 15 rfl) rfl rfl ?_
    refine go_if_eq (tgt := 115) (at_of tX10_setStyle 3 0 rfl) (by decide) (fun h95 => ?_) (fun h95 => ?_)
    rotate_left
    · exfalso; omega
    refine go_aload_n (at_of tX10_setStyle 3 9 rfl) rfl ?_
    refine go_iload (at_of tX10_setStyle 3 10 rfl) rfl rfl ?_
    refine go_bipush (at_of tX10_setStyle 3 11 rfl) (by decide) ?_
    refine go_cV (m7) lk_X10_106 rfl G_109 (at_of tX10_setStyle 3 12 rfl) rfl (by decide) rfl (Nat.le_of_ble_eq_true rfl) rfl (by first | decide | exact ⟨Nat.zero_le _, Nat.zero_le _⟩) ?_
    refine go_iconst (at_of tX10_setStyle 3 13 rfl) (by unfold in32; omega) ?_
    refine go_icmp_ne (tgt := 131) (at_of tX10_setStyle 3 14 rfl) (by decide) (fun h124 => ?_) (fun h124 => ?_)
    rotate_left
    · exfalso; omega
    refine go_iconst (at_of tX10_setStyle 4 1 rfl) (by unfold in32; omega) ?_
    refine go_cV (m_goesOn) lk_X10_141 rfl G_109 (at_of tX10_setStyle 4 2 rfl) rfl (by decide) rfl (Nat.le_of_ble_eq_true rfl) rfl (by first | decide | exact ⟨Nat.zero_le _, Nat.zero_le _⟩) ?_
    refine go_if_ne (tgt := 140) (at_of tX10_setStyle 4 3 rfl) (by decide) (fun h135 => ?_) (fun h135 => ?_)
    rotate_left
    · exfalso; exact absurd h135 (by rw [bI_t rfl]; decide)
    refine go_aload_n (at_of tX10_setStyle 4 6 rfl) rfl ?_
    refine go_cV (x1) lk_X10_166 rfl G_109 (at_of tX10_setStyle 4 7 rfl) rfl (by decide) rfl (Nat.le_of_ble_eq_true rfl) rfl (by first | decide | exact ⟨Nat.zero_le _, Nat.zero_le _⟩) ?_
    refine go_iload (at_of tX10_setStyle 4 8 rfl) rfl rfl ?_
    refine go_if_eq (tgt := 179) (at_of tX10_setStyle 4 9 rfl) (by decide) (fun h146 => ?_) (fun h146 => ?_)
    rotate_left
    · exfalso; omega
    refine go_aload_n (at_of tX10_setStyle 5 10 rfl) rfl ?_
    refine go_getf fl_X10_19 rfl G_109 (at_of tX10_setStyle 5 11 rfl) ?_
    rw [t6]
    refine go_if_ne (tgt := 226) (at_of tX10_setStyle 5 12 rfl) (by decide) (fun h183 => ?_) (fun h183 => ?_)
    rotate_left
    · exfalso; omega
    refine go_aload_n (at_of tX10_setStyle 7 2 rfl) rfl ?_
    refine go_iload (at_of tX10_setStyle 7 3 rfl) rfl rfl ?_
    refine go_iconst (at_of tX10_setStyle 7 4 rfl) (by unfold in32; omega) ?_
    refine go_iload_n (at_of tX10_setStyle 7 5 rfl) rfl ?_
    refine go_cV (m_setAt hS1 (by omega)) lk_X10_99 rfl G_109 (at_of tX10_setStyle 7 6 rfl) rfl (by decide) rfl (Nat.le_of_ble_eq_true rfl) rfl (by first | decide | exact ⟨Nat.zero_le _, Nat.zero_le _⟩) ?_
    refine go_aload_n (at_of tX10_setStyle 7 7 rfl) rfl ?_
    refine go_getf fl_X10_19 rfl G_109 (at_of tX10_setStyle 7 8 rfl) ?_
    rw [t65]
    refine go_if_eq (tgt := 252) (at_of tX10_setStyle 7 9 rfl) (by decide) (fun h238 => ?_) (fun h238 => ?_)
    · exfalso; omega
    refine go_aload_n (at_of tX10_setStyle 7 10 rfl) rfl ?_
    refine go_iload (at_of tX10_setStyle 7 11 rfl) rfl rfl ?_
    refine go_bipush (at_of tX10_setStyle 7 12 rfl) (by decide) ?_
    refine go_cV (n9f) lk_X10_106 rfl G_109 (at_of tX10_setStyle 7 13 rfl) rfl (by decide) rfl (Nat.le_of_ble_eq_true rfl) rfl (by first | decide | exact ⟨Nat.zero_le _, Nat.zero_le _⟩) ?_
    refine go_goto (tgt := 253) (at_of tX10_setStyle 7 14 rfl) (by decide) ?_
    first | exact go_reti (at_of tX10_setStyle 8 0 rfl) rfl | exact go_reti (at_of tX10_setStyle 8 0 rfl) (le_i (by omega)) | exact go_reti (at_of tX10_setStyle 8 0 rfl) (le_i (by first | exact bI_t (by omega) | exact bI_f (by omega)))
theorem m_setStyle_f (hS : Str σ.2.1) {A : PastD} (hM : PastM σ A) (hW : WfB (A.1 A.2.1)) (h7 : 1 ≤ σ.1 109 7 ∧ σ.1 109 7 ≤ 8) {a p z : Int} (htr : σ.1 109 6 = 0) (h : (0 ≤ a ∧ a ≤ 3) ∧ (0 ≤ p ∧ p ≤ endsA (A.1 A.2.1).1.1 (A.1 A.2.1).1.2.1 (A.1 A.2.1).1.2.1) ∧ 0 ≤ z ∧ z ≤ σ.1 109 7 - 1) (h3 : (A.1 A.2.1).1.1 10 (ixEnd (A.1 A.2.1).1.1 (A.1 A.2.1).1.2.1 p) ≠ 1) (hby : (A.1 A.2.1).1.1 4 (ixEnd (A.1 A.2.1).1.1 (A.1 A.2.1).1.2.1 p) = -1 ∨ (0 ≤ (A.1 A.2.1).1.1 4 (ixEnd (A.1 A.2.1).1.1 (A.1 A.2.1).1.2.1 p) ∧ (A.1 A.2.1).1.1 4 (ixEnd (A.1 A.2.1).1.1 (A.1 A.2.1).1.2.1 p) < (A.1 A.2.1).2.1.1)) : ∃ σ', Con 4 mX10_setStyle 0 0 [vA 109, vI a, vI p, vI z] σ (vI (-1), σ') ∧ PastM σ' (edA (begA A) (mstoD (A.1 A.2.1) (ixEnd (A.1 A.2.1).1.1 (A.1 A.2.1).1.2.1 p) z)) ∧ FrE σ σ' ∧ σ'.1 109 0 = 0 := by
  obtain ⟨hWm, hl2, h4⟩ := id hW
  obtain ⟨hE, hSg, hMk, hRw⟩ := id hWm
  obtain ⟨e1, e2, e3, e4⟩ := id hE
  have hN := hM.2.2.2.1
  obtain ⟨b1, b2, b3, b4⟩ := id hN.2.2.2
  have hl := hN.2.1.2
  have hcc : σ.1 110 (3011 : Int).toNat = (A.1 A.2.1).2.1.1 := hN.2.1.1
  have hSt : Str (P1 σ 109 0 0).2.1 := hS
  have hMt : PastM (P1 σ 109 0 0) A := hM.th
  obtain ⟨σ1, x1, x2, x3, x4, x5⟩ := m_edits hSt hMt
  have hS1 : Str σ1.2.1 := by rw [x3.1]; exact hS
  have hN1 : RepN (cN σ1) (A.1 A.2.1) := by
    have := x2.2.2.2.1
    rw [cur_beg] at this; exact this
  have x50 : σ1.1 109 0 = 0 := x5.trans P1_eq
  have fin : ∀ {σ' : St} {D' : PapD}, FrN σ1 σ' → RepN (cN σ') D' → PastM σ' (edA (begA A) D') ∧ FrE σ σ' ∧ σ'.1 109 0 = 0 := fun {σ' D'} hF hD => ⟨hF.past x2 hD, (FrE.th.trans x3).trans hF.e, (hF.2 109 0 (by omega)).trans x50⟩
  obtain ⟨u1, u2, u3, h47⟩ := ixEnd_end e1 ((ixEnd_iff hE).mpr h.2.1)
  have me := m_endOfParagraph hS hN.1 hE hSg h.2.1.1 h.2.1.2
  have m9 := m_at9 hS hN.1 (u := (ixEnd (A.1 A.2.1).1.1 (A.1 A.2.1).1.2.1 p)) ⟨u1, u2, b2⟩
  have m7 := m_at7 hS hN.1 (u := (ixEnd (A.1 A.2.1).1.1 (A.1 A.2.1).1.2.1 p)) ⟨u1, u2, b2⟩ h47
  have t6 : σ1.1 109 6 = σ.1 109 6 := (x3.2 109 6 (by omega)).trans (P1_nj (by omega))
  obtain ⟨e, he⟩ : ∃ e, e = (ixEnd (A.1 A.2.1).1.1 (A.1 A.2.1).1.2.1 p) := ⟨_, rfl⟩
  rw [← he] at me m9 m7 u1 u2 u3 h47 h3 hby ⊢
  unfold mstoD
  have n9 := m_at9 hS1 hN1.1 (u := e) ⟨u1, u2, b2⟩
  by_cases q4 : (A.1 A.2.1).1.1 4 e = -1
  · rw [if_pos q4]
    have N5 := rN_set3 (z := z) hN1.1 (u := e) ⟨u1, u2⟩ b2
    have P5 := hN1.set ⟨by omega, by omega⟩ N5 ⟨b1, b2⟩
    have t65 : (M1 σ1 110 (10 * e + 3) z).1 109 6 = 0 := by rw [M1_ne (by omega), t6]; exact htr
    refine ⟨M1 σ1 110 (10 * e + 3) z, ?_, fin FrN.m1 P5⟩
    refine con_of_go mfX10_setStyle.1 trivial (Nat.le_of_ble_eq_true rfl) rfl (by decide) ?_
    show Go _ _ _ _ 0 [vA _, vI _, vI _, vI _, vT 9 0, vT 9 0, vT 9 0] [] _ _
    refine go_iload_n (at_of tX10_setStyle 0 0 rfl) rfl ?_
    refine go_cS (m_isAuthor) lk_X10_151 rfl (at_of tX10_setStyle 0 1 rfl) rfl (by decide) rfl (Nat.le_of_ble_eq_true rfl) rfl (by first | decide | exact ⟨Nat.zero_le _, Nat.zero_le _⟩) ?_
    refine go_if_eq (tgt := 33) (at_of tX10_setStyle 0 2 rfl) (by decide) (fun h4 => ?_) (fun h4 => ?_)
    · exfalso; exact bI_0.mp h4 h.1
    refine go_aload_n (at_of tX10_setStyle 0 3 rfl) rfl ?_
    refine go_iload_n (at_of tX10_setStyle 0 4 rfl) rfl ?_
    refine go_cV (m_isParagraph hS hN.1 hE hSg) lk_X10_203 rfl G_109 (at_of tX10_setStyle 0 5 rfl) rfl (by decide) rfl (Nat.le_of_ble_eq_true rfl) rfl (by first | decide | exact ⟨Nat.zero_le _, Nat.zero_le _⟩) ?_
    refine go_if_eq (tgt := 33) (at_of tX10_setStyle 0 6 rfl) (by decide) (fun h12 => ?_) (fun h12 => ?_)
    · exfalso; exact bI_0.mp h12 h.2.1
    refine go_iload_n (at_of tX10_setStyle 0 7 rfl) rfl ?_
    refine go_iconst (at_of tX10_setStyle 0 8 rfl) (by unfold in32; omega) ?_
    refine go_aload_n (at_of tX10_setStyle 0 9 rfl) rfl ?_
    refine go_getf fl_X10_23 rfl G_109 (at_of tX10_setStyle 0 10 rfl) ?_
    refine go_iconst (at_of tX10_setStyle 0 11 rfl) (by unfold in32; omega) ?_
    refine go_isub (at_of tX10_setStyle 0 12 rfl) (by unfold in32; omega) ?_
    refine go_cS (m_in) lk_X10_124 rfl (at_of tX10_setStyle 0 13 rfl) rfl (by decide) rfl (Nat.le_of_ble_eq_true rfl) rfl (by first | decide | exact ⟨Nat.zero_le _, Nat.zero_le _⟩) ?_
    refine go_if_eq (tgt := 33) (at_of tX10_setStyle 0 14 rfl) (by decide) (fun h26 => ?_) (fun h26 => ?_)
    · exfalso; exact bI_0.mp h26 h.2.2
    refine go_iconst (at_of tX10_setStyle 0 15 rfl) (by unfold in32; omega) ?_
    refine go_goto (tgt := 34) (at_of tX10_setStyle 1 0 rfl) (by decide) ?_
    refine go_istore (at_of tX10_setStyle 1 2 rfl) rfl rfl ?_
    refine go_iload (at_of tX10_setStyle 1 3 rfl) rfl rfl ?_
    refine go_if_eq (tgt := 49) (at_of tX10_setStyle 1 4 rfl) (by decide) (fun h38 => ?_) (fun h38 => ?_)
    · exfalso; omega
    refine go_aload_n (at_of tX10_setStyle 1 5 rfl) rfl ?_
    refine go_iload_n (at_of tX10_setStyle 1 6 rfl) rfl ?_
    refine go_cV (me) lk_X10_197 rfl G_109 (at_of tX10_setStyle 1 7 rfl) rfl (by decide) rfl (Nat.le_of_ble_eq_true rfl) rfl (by first | decide | exact ⟨Nat.zero_le _, Nat.zero_le _⟩) ?_
    refine go_goto (tgt := 50) (at_of tX10_setStyle 1 8 rfl) (by decide) ?_
    refine go_istore (at_of tX10_setStyle 1 10 rfl) rfl rfl ?_
    refine go_iload (at_of tX10_setStyle 1 11 rfl) rfl rfl ?_
    refine go_if_eq (tgt := 80) (at_of tX10_setStyle 1 12 rfl) (by decide) (fun h54 => ?_) (fun h54 => ?_)
    · exfalso; omega
    refine go_aload_n (at_of tX10_setStyle 1 13 rfl) rfl ?_
    refine go_getf fl_X10_19 rfl G_109 (at_of tX10_setStyle 1 14 rfl) ?_
    refine go_if_eq (tgt := 80) (at_of tX10_setStyle 1 15 rfl) (by decide) (fun h61 => ?_) (fun h61 => ?_)
    rotate_left
    · exfalso; omega
    refine go_iconst (at_of tX10_setStyle 2 8 rfl) (by unfold in32; omega) ?_
    refine go_istore (at_of tX10_setStyle 2 9 rfl) rfl rfl ?_
    refine go_aload_n (at_of tX10_setStyle 2 10 rfl) rfl ?_
    refine go_iload (at_of tX10_setStyle 2 11 rfl) rfl rfl ?_
    refine go_if_ne (tgt := 93) (at_of tX10_setStyle 2 12 rfl) (by decide) (fun h86 => ?_) (fun h86 => ?_)
    rotate_left
    · exfalso; omega
    refine go_iload (at_of tX10_setStyle 2 15 rfl) rfl rfl ?_
    refine go_if_eq (tgt := 115) (at_of tX10_setStyle 3 0 rfl) (by decide) (fun h95 => ?_) (fun h95 => ?_)
    rotate_left
    · exfalso; omega
    refine go_aload_n (at_of tX10_setStyle 3 9 rfl) rfl ?_
    refine go_iload (at_of tX10_setStyle 3 10 rfl) rfl rfl ?_
    refine go_bipush (at_of tX10_setStyle 3 11 rfl) (by decide) ?_
    refine go_cV (m7) lk_X10_106 rfl G_109 (at_of tX10_setStyle 3 12 rfl) rfl (by decide) rfl (Nat.le_of_ble_eq_true rfl) rfl (by first | decide | exact ⟨Nat.zero_le _, Nat.zero_le _⟩) ?_
    refine go_iconst (at_of tX10_setStyle 3 13 rfl) (by unfold in32; omega) ?_
    refine go_icmp_ne (tgt := 131) (at_of tX10_setStyle 3 14 rfl) (by decide) (fun h124 => ?_) (fun h124 => ?_)
    rotate_left
    · exfalso; omega
    refine go_iconst (at_of tX10_setStyle 4 1 rfl) (by unfold in32; omega) ?_
    refine go_cV (m_goesOn) lk_X10_141 rfl G_109 (at_of tX10_setStyle 4 2 rfl) rfl (by decide) rfl (Nat.le_of_ble_eq_true rfl) rfl (by first | decide | exact ⟨Nat.zero_le _, Nat.zero_le _⟩) ?_
    refine go_if_ne (tgt := 140) (at_of tX10_setStyle 4 3 rfl) (by decide) (fun h135 => ?_) (fun h135 => ?_)
    rotate_left
    · exfalso; exact absurd h135 (by rw [bI_t rfl]; decide)
    refine go_aload_n (at_of tX10_setStyle 4 6 rfl) rfl ?_
    refine go_cV (x1) lk_X10_166 rfl G_109 (at_of tX10_setStyle 4 7 rfl) rfl (by decide) rfl (Nat.le_of_ble_eq_true rfl) rfl (by first | decide | exact ⟨Nat.zero_le _, Nat.zero_le _⟩) ?_
    refine go_iload (at_of tX10_setStyle 4 8 rfl) rfl rfl ?_
    refine go_if_eq (tgt := 179) (at_of tX10_setStyle 4 9 rfl) (by decide) (fun h146 => ?_) (fun h146 => ?_)
    rotate_left
    · exfalso; omega
    refine go_aload_n (at_of tX10_setStyle 5 10 rfl) rfl ?_
    refine go_getf fl_X10_19 rfl G_109 (at_of tX10_setStyle 5 11 rfl) ?_
    rw [t6]
    refine go_if_ne (tgt := 226) (at_of tX10_setStyle 5 12 rfl) (by decide) (fun h183 => ?_) (fun h183 => ?_)
    · exfalso; omega
    refine go_aload_n (at_of tX10_setStyle 5 13 rfl) rfl ?_
    refine go_iload (at_of tX10_setStyle 5 14 rfl) rfl rfl ?_
    refine go_bipush (at_of tX10_setStyle 5 15 rfl) (by decide) ?_
    refine go_cV (n9) lk_X10_106 rfl G_109 (at_of tX10_setStyle 6 0 rfl) rfl (by decide) rfl (Nat.le_of_ble_eq_true rfl) rfl (by first | decide | exact ⟨Nat.zero_le _, Nat.zero_le _⟩) ?_
    refine go_iconst (at_of tX10_setStyle 6 1 rfl) (by unfold in32; omega) ?_
    refine go_icmp_eq (tgt := 226) (at_of tX10_setStyle 6 2 rfl) (by decide) (fun h195 => ?_) (fun h195 => ?_)
    rotate_left
    · exfalso; omega
    refine go_aload_n (at_of tX10_setStyle 7 2 rfl) rfl ?_
    refine go_iload (at_of tX10_setStyle 7 3 rfl) rfl rfl ?_
    refine go_iconst (at_of tX10_setStyle 7 4 rfl) (by unfold in32; omega) ?_
    refine go_iload_n (at_of tX10_setStyle 7 5 rfl) rfl ?_
    refine go_cV (m_setAt hS1 (by omega)) lk_X10_99 rfl G_109 (at_of tX10_setStyle 7 6 rfl) rfl (by decide) rfl (Nat.le_of_ble_eq_true rfl) rfl (by first | decide | exact ⟨Nat.zero_le _, Nat.zero_le _⟩) ?_
    refine go_aload_n (at_of tX10_setStyle 7 7 rfl) rfl ?_
    refine go_getf fl_X10_19 rfl G_109 (at_of tX10_setStyle 7 8 rfl) ?_
    rw [t65]
    refine go_if_eq (tgt := 252) (at_of tX10_setStyle 7 9 rfl) (by decide) (fun h238 => ?_) (fun h238 => ?_)
    rotate_left
    · exfalso; omega
    refine go_iconst (at_of tX10_setStyle 7 15 rfl) (by unfold in32; omega) ?_
    first | exact go_reti (at_of tX10_setStyle 8 0 rfl) rfl | exact go_reti (at_of tX10_setStyle 8 0 rfl) (le_i (by omega)) | exact go_reti (at_of tX10_setStyle 8 0 rfl) (le_i (by first | exact bI_t (by omega) | exact bI_f (by omega)))
  · rw [if_neg q4]
    have hb := hby.resolve_left q4
    have P2 := m_setSt (z := 97) (R := (A.1 A.2.1).1) hN1 hb
    have N4 := rN_set9 (z := -1) P2.1 (u := e) ⟨u1, u2⟩ b2
    have P4 := P2.set (R := setR (A.1 A.2.1).1 4 e (-1)) ⟨by omega, by omega⟩ N4 ⟨b1, b2⟩
    have N5 := rN_set3 (z := z) N4 (u := e) ⟨u1, u2⟩ b2
    have P5 := P4.set ⟨by omega, by omega⟩ N5 ⟨b1, b2⟩
    have F5 : FrN σ1 (M1 (M1 (M1 σ1 110 (3073 + (A.1 A.2.1).1.1 4 e) 97) 110 (10 * e + 9) (-1)) 110 (10 * e + 3) z) := FrN.m1.trans (FrN.m1.trans FrN.m1)
    have t65 : (M1 (M1 (M1 σ1 110 (3073 + (A.1 A.2.1).1.1 4 e) 97) 110 (10 * e + 9) (-1)) 110 (10 * e + 3) z).1 109 6 = 0 := by rw [F5.2 109 6 (by omega), t6]; exact htr
    refine ⟨M1 (M1 (M1 σ1 110 (3073 + (A.1 A.2.1).1.1 4 e) 97) 110 (10 * e + 9) (-1)) 110 (10 * e + 3) z, ?_, fin F5 P5⟩
    refine con_of_go mfX10_setStyle.1 trivial (Nat.le_of_ble_eq_true rfl) rfl (by decide) ?_
    show Go _ _ _ _ 0 [vA _, vI _, vI _, vI _, vT 9 0, vT 9 0, vT 9 0] [] _ _
    refine go_iload_n (at_of tX10_setStyle 0 0 rfl) rfl ?_
    refine go_cS (m_isAuthor) lk_X10_151 rfl (at_of tX10_setStyle 0 1 rfl) rfl (by decide) rfl (Nat.le_of_ble_eq_true rfl) rfl (by first | decide | exact ⟨Nat.zero_le _, Nat.zero_le _⟩) ?_
    refine go_if_eq (tgt := 33) (at_of tX10_setStyle 0 2 rfl) (by decide) (fun h4 => ?_) (fun h4 => ?_)
    · exfalso; exact bI_0.mp h4 h.1
    refine go_aload_n (at_of tX10_setStyle 0 3 rfl) rfl ?_
    refine go_iload_n (at_of tX10_setStyle 0 4 rfl) rfl ?_
    refine go_cV (m_isParagraph hS hN.1 hE hSg) lk_X10_203 rfl G_109 (at_of tX10_setStyle 0 5 rfl) rfl (by decide) rfl (Nat.le_of_ble_eq_true rfl) rfl (by first | decide | exact ⟨Nat.zero_le _, Nat.zero_le _⟩) ?_
    refine go_if_eq (tgt := 33) (at_of tX10_setStyle 0 6 rfl) (by decide) (fun h12 => ?_) (fun h12 => ?_)
    · exfalso; exact bI_0.mp h12 h.2.1
    refine go_iload_n (at_of tX10_setStyle 0 7 rfl) rfl ?_
    refine go_iconst (at_of tX10_setStyle 0 8 rfl) (by unfold in32; omega) ?_
    refine go_aload_n (at_of tX10_setStyle 0 9 rfl) rfl ?_
    refine go_getf fl_X10_23 rfl G_109 (at_of tX10_setStyle 0 10 rfl) ?_
    refine go_iconst (at_of tX10_setStyle 0 11 rfl) (by unfold in32; omega) ?_
    refine go_isub (at_of tX10_setStyle 0 12 rfl) (by unfold in32; omega) ?_
    refine go_cS (m_in) lk_X10_124 rfl (at_of tX10_setStyle 0 13 rfl) rfl (by decide) rfl (Nat.le_of_ble_eq_true rfl) rfl (by first | decide | exact ⟨Nat.zero_le _, Nat.zero_le _⟩) ?_
    refine go_if_eq (tgt := 33) (at_of tX10_setStyle 0 14 rfl) (by decide) (fun h26 => ?_) (fun h26 => ?_)
    · exfalso; exact bI_0.mp h26 h.2.2
    refine go_iconst (at_of tX10_setStyle 0 15 rfl) (by unfold in32; omega) ?_
    refine go_goto (tgt := 34) (at_of tX10_setStyle 1 0 rfl) (by decide) ?_
    refine go_istore (at_of tX10_setStyle 1 2 rfl) rfl rfl ?_
    refine go_iload (at_of tX10_setStyle 1 3 rfl) rfl rfl ?_
    refine go_if_eq (tgt := 49) (at_of tX10_setStyle 1 4 rfl) (by decide) (fun h38 => ?_) (fun h38 => ?_)
    · exfalso; omega
    refine go_aload_n (at_of tX10_setStyle 1 5 rfl) rfl ?_
    refine go_iload_n (at_of tX10_setStyle 1 6 rfl) rfl ?_
    refine go_cV (me) lk_X10_197 rfl G_109 (at_of tX10_setStyle 1 7 rfl) rfl (by decide) rfl (Nat.le_of_ble_eq_true rfl) rfl (by first | decide | exact ⟨Nat.zero_le _, Nat.zero_le _⟩) ?_
    refine go_goto (tgt := 50) (at_of tX10_setStyle 1 8 rfl) (by decide) ?_
    refine go_istore (at_of tX10_setStyle 1 10 rfl) rfl rfl ?_
    refine go_iload (at_of tX10_setStyle 1 11 rfl) rfl rfl ?_
    refine go_if_eq (tgt := 80) (at_of tX10_setStyle 1 12 rfl) (by decide) (fun h54 => ?_) (fun h54 => ?_)
    · exfalso; omega
    refine go_aload_n (at_of tX10_setStyle 1 13 rfl) rfl ?_
    refine go_getf fl_X10_19 rfl G_109 (at_of tX10_setStyle 1 14 rfl) ?_
    refine go_if_eq (tgt := 80) (at_of tX10_setStyle 1 15 rfl) (by decide) (fun h61 => ?_) (fun h61 => ?_)
    rotate_left
    · exfalso; omega
    refine go_iconst (at_of tX10_setStyle 2 8 rfl) (by unfold in32; omega) ?_
    refine go_istore (at_of tX10_setStyle 2 9 rfl) rfl rfl ?_
    refine go_aload_n (at_of tX10_setStyle 2 10 rfl) rfl ?_
    refine go_iload (at_of tX10_setStyle 2 11 rfl) rfl rfl ?_
    refine go_if_ne (tgt := 93) (at_of tX10_setStyle 2 12 rfl) (by decide) (fun h86 => ?_) (fun h86 => ?_)
    rotate_left
    · exfalso; omega
    refine go_iload (at_of tX10_setStyle 2 15 rfl) rfl rfl ?_
    refine go_if_eq (tgt := 115) (at_of tX10_setStyle 3 0 rfl) (by decide) (fun h95 => ?_) (fun h95 => ?_)
    rotate_left
    · exfalso; omega
    refine go_aload_n (at_of tX10_setStyle 3 9 rfl) rfl ?_
    refine go_iload (at_of tX10_setStyle 3 10 rfl) rfl rfl ?_
    refine go_bipush (at_of tX10_setStyle 3 11 rfl) (by decide) ?_
    refine go_cV (m7) lk_X10_106 rfl G_109 (at_of tX10_setStyle 3 12 rfl) rfl (by decide) rfl (Nat.le_of_ble_eq_true rfl) rfl (by first | decide | exact ⟨Nat.zero_le _, Nat.zero_le _⟩) ?_
    refine go_iconst (at_of tX10_setStyle 3 13 rfl) (by unfold in32; omega) ?_
    refine go_icmp_ne (tgt := 131) (at_of tX10_setStyle 3 14 rfl) (by decide) (fun h124 => ?_) (fun h124 => ?_)
    rotate_left
    · exfalso; omega
    refine go_iconst (at_of tX10_setStyle 4 1 rfl) (by unfold in32; omega) ?_
    refine go_cV (m_goesOn) lk_X10_141 rfl G_109 (at_of tX10_setStyle 4 2 rfl) rfl (by decide) rfl (Nat.le_of_ble_eq_true rfl) rfl (by first | decide | exact ⟨Nat.zero_le _, Nat.zero_le _⟩) ?_
    refine go_if_ne (tgt := 140) (at_of tX10_setStyle 4 3 rfl) (by decide) (fun h135 => ?_) (fun h135 => ?_)
    rotate_left
    · exfalso; exact absurd h135 (by rw [bI_t rfl]; decide)
    refine go_aload_n (at_of tX10_setStyle 4 6 rfl) rfl ?_
    refine go_cV (x1) lk_X10_166 rfl G_109 (at_of tX10_setStyle 4 7 rfl) rfl (by decide) rfl (Nat.le_of_ble_eq_true rfl) rfl (by first | decide | exact ⟨Nat.zero_le _, Nat.zero_le _⟩) ?_
    refine go_iload (at_of tX10_setStyle 4 8 rfl) rfl rfl ?_
    refine go_if_eq (tgt := 179) (at_of tX10_setStyle 4 9 rfl) (by decide) (fun h146 => ?_) (fun h146 => ?_)
    rotate_left
    · exfalso; omega
    refine go_aload_n (at_of tX10_setStyle 5 10 rfl) rfl ?_
    refine go_getf fl_X10_19 rfl G_109 (at_of tX10_setStyle 5 11 rfl) ?_
    rw [t6]
    refine go_if_ne (tgt := 226) (at_of tX10_setStyle 5 12 rfl) (by decide) (fun h183 => ?_) (fun h183 => ?_)
    · exfalso; omega
    refine go_aload_n (at_of tX10_setStyle 5 13 rfl) rfl ?_
    refine go_iload (at_of tX10_setStyle 5 14 rfl) rfl rfl ?_
    refine go_bipush (at_of tX10_setStyle 5 15 rfl) (by decide) ?_
    refine go_cV (n9) lk_X10_106 rfl G_109 (at_of tX10_setStyle 6 0 rfl) rfl (by decide) rfl (Nat.le_of_ble_eq_true rfl) rfl (by first | decide | exact ⟨Nat.zero_le _, Nat.zero_le _⟩) ?_
    refine go_iconst (at_of tX10_setStyle 6 1 rfl) (by unfold in32; omega) ?_
    refine go_icmp_eq (tgt := 226) (at_of tX10_setStyle 6 2 rfl) (by decide) (fun h195 => ?_) (fun h195 => ?_)
    · exfalso; omega
    refine go_aload_n (at_of tX10_setStyle 6 3 rfl) rfl ?_
    refine go_getr (q := 110) fl_X10_7 rfl G_109 (by first | exact (hS _ _ rfl).trans rfl | exact (hS1 _ _ rfl).trans rfl | exact (hS2 _ _ rfl).trans rfl | exact (hS3 _ _ rfl).trans rfl | exact (hS4 _ _ rfl).trans rfl) (at_of tX10_setStyle 6 4 rfl) ?_
    refine go_sipush (at_of tX10_setStyle 6 5 rfl) (by decide) ?_
    refine go_aload_n (at_of tX10_setStyle 6 6 rfl) rfl ?_
    refine go_iload (at_of tX10_setStyle 6 7 rfl) rfl rfl ?_
    refine go_bipush (at_of tX10_setStyle 6 8 rfl) (by decide) ?_
    refine go_cV (n9) lk_X10_106 rfl G_109 (at_of tX10_setStyle 6 9 rfl) rfl (by decide) rfl (Nat.le_of_ble_eq_true rfl) rfl (by first | decide | exact ⟨Nat.zero_le _, Nat.zero_le _⟩) ?_
    refine go_iadd (at_of tX10_setStyle 6 10 rfl) (by unfold in32; omega) ?_
    refine go_bipush (at_of tX10_setStyle 6 11 rfl) (by decide) ?_
    refine go_iast1 G_110 (by omega) (by omega) (at_of tX10_setStyle 6 12 rfl) ?_
    refine go_aload_n (at_of tX10_setStyle 6 13 rfl) rfl ?_
    refine go_iload (at_of tX10_setStyle 6 14 rfl) rfl rfl ?_
    refine go_bipush (at_of tX10_setStyle 6 15 rfl) (by decide) ?_
    refine go_iconst (at_of tX10_setStyle 7 0 rfl) (by unfold in32; omega) ?_
    refine go_cV (m_setAt (by exact hS1) (by omega)) lk_X10_99 rfl G_109 (at_of tX10_setStyle 7 1 rfl) rfl (by decide) rfl (Nat.le_of_ble_eq_true rfl) rfl (by first | decide | exact ⟨Nat.zero_le _, Nat.zero_le _⟩) ?_
    refine go_aload_n (at_of tX10_setStyle 7 2 rfl) rfl ?_
    refine go_iload (at_of tX10_setStyle 7 3 rfl) rfl rfl ?_
    refine go_iconst (at_of tX10_setStyle 7 4 rfl) (by unfold in32; omega) ?_
    refine go_iload_n (at_of tX10_setStyle 7 5 rfl) rfl ?_
    refine go_cV (m_setAt (by exact hS1) (by omega)) lk_X10_99 rfl G_109 (at_of tX10_setStyle 7 6 rfl) rfl (by decide) rfl (Nat.le_of_ble_eq_true rfl) rfl (by first | decide | exact ⟨Nat.zero_le _, Nat.zero_le _⟩) ?_
    refine go_aload_n (at_of tX10_setStyle 7 7 rfl) rfl ?_
    refine go_getf fl_X10_19 rfl G_109 (at_of tX10_setStyle 7 8 rfl) ?_
    rw [t65]
    refine go_if_eq (tgt := 252) (at_of tX10_setStyle 7 9 rfl) (by decide) (fun h238 => ?_) (fun h238 => ?_)
    rotate_left
    · exfalso; omega
    refine go_iconst (at_of tX10_setStyle 7 15 rfl) (by unfold in32; omega) ?_
    first | exact go_reti (at_of tX10_setStyle 8 0 rfl) rfl | exact go_reti (at_of tX10_setStyle 8 0 rfl) (le_i (by omega)) | exact go_reti (at_of tX10_setStyle 8 0 rfl) (le_i (by first | exact bI_t (by omega) | exact bI_f (by omega)))
end Mod11
