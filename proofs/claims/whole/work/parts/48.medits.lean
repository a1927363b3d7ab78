/-! The reference's edits of paragraphs, bookmarks and changes. -/
section Mod9
variable {σ : St}
/-- style changes stand at ends; the last end is nobody's -/
def WfB (D : PapD) : Prop := WfM D ∧ D.1.1 2 D.1.2.1 = -1 ∧ ∀ i, 0 ≤ i → i ≤ D.1.2.1 → D.1.1 4 i ≠ -1 → D.1.1 0 i = 47
theorem m_protect_no (hS : Str σ.2.1) {A : PastD} (hM : PastM σ A) (hW : WfB (A.1 A.2.1)) {p : Int} {is : Bool} (h : ¬ (0 ≤ p ∧ p ≤ endsA (A.1 A.2.1).1.1 (A.1 A.2.1).1.2.1 (A.1 A.2.1).1.2.1)) : Con 4 mX10_protect 0 0 [vA 109, vI p, vI (bI (is = true))] σ (vI 0, P1 σ 109 0 1) := by
  obtain ⟨hWm, hl2, h4⟩ := id hW
  obtain ⟨hE, hSg, hMk, hRw⟩ := id hWm
  obtain ⟨e1, e2, e3, e4⟩ := id hE
  have hN := hM.2.2.2.1
  obtain ⟨b1, b2, b3, b4⟩ := id hN.2.2.2
  have hl := hN.2.1.2
  have hcc : σ.1 110 (3011 : Int).toNat = (A.1 A.2.1).2.1.1 := hN.2.1.1
  refine con_of_go mfX10_protect.1 (Or.inl rfl) (Nat.le_of_ble_eq_true rfl) rfl (by decide) ?_
  show Go _ _ _ _ 0 [vA _, vI _, vI _, vT 9 0, vT 9 0] [] _ _
  refine go_aload_n (at_of tX10_protect 0 0 rfl) rfl ?_
  refine go_aload_n (at_of tX10_protect 0 1 rfl) rfl ?_
  refine go_iload_n (at_of tX10_protect 0 2 rfl) rfl ?_
  refine go_cV (m_isParagraph hS hN.1 hE hSg) lk_X10_203 rfl G_109 (at_of tX10_protect 0 3 rfl) rfl (by decide) rfl (Nat.le_of_ble_eq_true rfl) rfl (by first | decide | exact ⟨Nat.zero_le _, Nat.zero_le _⟩) ?_
  refine go_if_eq (tgt := 13) (at_of tX10_protect 0 4 rfl) (by decide) (fun h6 => ?_) (fun h6 => ?_)
  rotate_left
  · exfalso; exact h (bI_1.mp h6)
  refine go_iconst (at_of tX10_protect 0 7 rfl) (by unfold in32; omega) ?_
  refine go_cV (m_goesOn) lk_X10_141 rfl G_109 (at_of tX10_protect 0 8 rfl) rfl (by decide) rfl (Nat.le_of_ble_eq_true rfl) rfl (by first | decide | exact ⟨Nat.zero_le _, Nat.zero_le _⟩) ?_
  refine go_if_ne (tgt := 22) (at_of tX10_protect 0 9 rfl) (by decide) (fun h17 => ?_) (fun h17 => ?_)
  · exfalso; exact h17 (bI_f (by decide))
  refine go_iconst (at_of tX10_protect 0 10 rfl) (by unfold in32; omega) ?_
  first | exact go_reti (at_of tX10_protect 0 11 rfl) rfl | exact go_reti (at_of tX10_protect 0 11 rfl) (le_i (by omega)) | exact go_reti (at_of tX10_protect 0 11 rfl) (le_i (by first | exact bI_t (by omega) | exact bI_f (by omega)))
theorem m_protect (hS : Str σ.2.1) {A : PastD} (hM : PastM σ A) (hW : WfB (A.1 A.2.1)) {p : Int} {is : Bool} (h : 0 ≤ p ∧ p ≤ endsA (A.1 A.2.1).1.1 (A.1 A.2.1).1.2.1 (A.1 A.2.1).1.2.1) : ∃ σ', Con 4 mX10_protect 0 0 [vA 109, vI p, vI (bI (is = true))] σ (vI (bI ((A.1 A.2.1).1.1 10 (ixEnd (A.1 A.2.1).1.1 (A.1 A.2.1).1.2.1 p) = 1)), σ') ∧ PastM σ' (edA (begA A) (setR (A.1 A.2.1).1 10 (ixEnd (A.1 A.2.1).1.1 (A.1 A.2.1).1.2.1 p) (bI (is = true)), (A.1 A.2.1).2)) ∧ FrE σ σ' ∧ σ'.1 109 0 = 0 := by
  obtain ⟨hWm, hl2, h4⟩ := id hW
  obtain ⟨hE, hSg, hMk, hRw⟩ := id hWm
  obtain ⟨e1, e2, e3, e4⟩ := id hE
  have hN := hM.2.2.2.1
  obtain ⟨b1, b2, b3, b4⟩ := id hN.2.2.2
  have hl := hN.2.1.2
  have hcc : σ.1 110 (3011 : Int).toNat = (A.1 A.2.1).2.1.1 := hN.2.1.1
  have hSt : Str (P1 σ 109 0 0).2.1 := hS
  have hMt : PastM (P1 σ 109 0 0) A := hM.th
  obtain ⟨σ1, x1, x2, x3, x4, x5⟩ := m_edits hSt hMt
  have hS1 : Str σ1.2.1 := by rw [x3.1]; exact hS
  have hN1 : RepN (cN σ1) (A.1 A.2.1) := by
    have := x2.2.2.2.1
    rw [cur_beg] at this; exact this
  have x50 : σ1.1 109 0 = 0 := x5.trans P1_eq
  have fin : ∀ {σ' : St} {D' : PapD}, FrN σ1 σ' → RepN (cN σ') D' → PastM σ' (edA (begA A) D') ∧ FrE σ σ' ∧ σ'.1 109 0 = 0 := fun {σ' D'} hF hD => ⟨hF.past x2 hD, (FrE.th.trans x3).trans hF.e, (hF.2 109 0 (by omega)).trans x50⟩
  obtain ⟨u1, u2, u3, h47⟩ := ixEnd_end e1 ((ixEnd_iff hE).mpr h)
  have me := m_endOfParagraph hS1 hN1.1 hE hSg h.1 h.2
  have m7 := m_at7 hS1 hN1.1 (u := (ixEnd (A.1 A.2.1).1.1 (A.1 A.2.1).1.2.1 p)) ⟨u1, u2, b2⟩ h47
  have N2 := rN_set7 (z := bI (is = true)) hN1.1 (u := (ixEnd (A.1 A.2.1).1.1 (A.1 A.2.1).1.2.1 p)) ⟨u1, u2⟩ b2
  have RN := hN1.set ⟨by omega, by omega⟩ N2 ⟨b1, b2⟩
  refine ⟨_, ?_, fin FrN.m1 RN⟩
  by_cases hg : (A.1 A.2.1).1.1 10 (ixEnd (A.1 A.2.1).1.1 (A.1 A.2.1).1.2.1 p) = 1
  · rw [bI_t hg]
    cases is with
    | true =>
      refine con_of_go mfX10_protect.1 (Or.inr rfl) (Nat.le_of_ble_eq_true rfl) rfl (by decide) ?_
      show Go _ _ _ _ 0 [vA _, vI _, vI _, vT 9 0, vT 9 0] [] _ _
      refine go_aload_n (at_of tX10_protect 0 0 rfl) rfl ?_
      refine go_aload_n (at_of tX10_protect 0 1 rfl) rfl ?_
      refine go_iload_n (at_of tX10_protect 0 2 rfl) rfl ?_
      refine go_cV (m_isParagraph hS hN.1 hE hSg) lk_X10_203 rfl G_109 (at_of tX10_protect 0 3 rfl) rfl (by decide) rfl (Nat.le_of_ble_eq_true rfl) rfl (by first | decide | exact ⟨Nat.zero_le _, Nat.zero_le _⟩) ?_
      refine go_if_eq (tgt := 13) (at_of tX10_protect 0 4 rfl) (by decide) (fun h6 => ?_) (fun h6 => ?_)
      · exfalso; exact bI_0.mp h6 h
      refine go_iconst (at_of tX10_protect 0 5 rfl) (by unfold in32; omega) ?_
      refine go_goto (tgt := 14) (at_of tX10_protect 0 6 rfl) (by decide) ?_
      refine go_cV (m_goesOn) lk_X10_141 rfl G_109 (at_of tX10_protect 0 8 rfl) rfl (by decide) rfl (Nat.le_of_ble_eq_true rfl) rfl (by first | decide | exact ⟨Nat.zero_le _, Nat.zero_le _⟩) ?_
      refine go_if_ne (tgt := 22) (at_of tX10_protect 0 9 rfl) (by decide) (fun h17 => ?_) (fun h17 => ?_)
      rotate_left
      · exfalso; exact absurd h17 (by rw [bI_t rfl]; decide)
      refine go_aload_n (at_of tX10_protect 0 12 rfl) rfl ?_
      refine go_cV (x1) lk_X10_166 rfl G_109 (at_of tX10_protect 0 13 rfl) rfl (by decide) rfl (Nat.le_of_ble_eq_true rfl) rfl (by first | decide | exact ⟨Nat.zero_le _, Nat.zero_le _⟩) ?_
      refine go_aload_n (at_of tX10_protect 0 14 rfl) rfl ?_
      refine go_iload_n (at_of tX10_protect 0 15 rfl) rfl ?_
      refine go_cV (me) lk_X10_197 rfl G_109 (at_of tX10_protect 1 0 rfl) rfl (by decide) rfl (Nat.le_of_ble_eq_true rfl) rfl (by first | decide | exact ⟨Nat.zero_le _, Nat.zero_le _⟩) ?_
      refine go_istore_n (at_of tX10_protect 1 1 rfl) rfl rfl ?_
      refine go_aload_n (at_of tX10_protect 1 2 rfl) rfl ?_
      refine go_iload_n (at_of tX10_protect 1 3 rfl) rfl ?_
      refine go_bipush (at_of tX10_protect 1 4 rfl) (by decide) ?_
      refine go_cV (m7) lk_X10_106 rfl G_109 (at_of tX10_protect 1 5 rfl) rfl (by decide) rfl (Nat.le_of_ble_eq_true rfl) rfl (by first | decide | exact ⟨Nat.zero_le _, Nat.zero_le _⟩) ?_
      refine go_iconst (at_of tX10_protect 1 6 rfl) (by unfold in32; omega) ?_
      refine go_icmp_ne (tgt := 47) (at_of tX10_protect 1 7 rfl) (by decide) (fun h40 => ?_) (fun h40 => ?_)
      · exfalso; omega
      refine go_iconst (at_of tX10_protect 1 8 rfl) (by unfold in32; omega) ?_
      refine go_goto (tgt := 48) (at_of tX10_protect 1 9 rfl) (by decide) ?_
      refine go_istore (at_of tX10_protect 1 11 rfl) rfl rfl ?_
      refine go_aload_n (at_of tX10_protect 1 12 rfl) rfl ?_
      refine go_iload_n (at_of tX10_protect 1 13 rfl) rfl ?_
      refine go_bipush (at_of tX10_protect 1 14 rfl) (by decide) ?_
      refine go_iload_n (at_of tX10_protect 1 15 rfl) rfl ?_
      refine go_if_eq (tgt := 62) (at_of tX10_protect 2 0 rfl) (by decide) (fun h55 => ?_) (fun h55 => ?_)
      · exfalso; exact absurd h55 (by decide)
      refine go_iconst (at_of tX10_protect 2 1 rfl) (by unfold in32; omega) ?_
      refine go_goto (tgt := 63) (at_of tX10_protect 2 2 rfl) (by decide) ?_
      refine go_cV (m_setAt hS1 (by omega)) lk_X10_99 rfl G_109 (at_of tX10_protect 2 4 rfl) rfl (by decide) rfl (Nat.le_of_ble_eq_true rfl) rfl (by first | decide | exact ⟨Nat.zero_le _, Nat.zero_le _⟩) ?_
      refine go_iload (at_of tX10_protect 2 5 rfl) rfl rfl ?_
      first | exact go_reti (at_of tX10_protect 2 6 rfl) rfl | exact go_reti (at_of tX10_protect 2 6 rfl) (le_i (by omega)) | exact go_reti (at_of tX10_protect 2 6 rfl) (le_i (by first | exact bI_t (by omega) | exact bI_f (by omega)))
    | false =>
      refine con_of_go mfX10_protect.1 (Or.inr rfl) (Nat.le_of_ble_eq_true rfl) rfl (by decide) ?_
      show Go _ _ _ _ 0 [vA _, vI _, vI _, vT 9 0, vT 9 0] [] _ _
      refine go_aload_n (at_of tX10_protect 0 0 rfl) rfl ?_
      refine go_aload_n (at_of tX10_protect 0 1 rfl) rfl ?_
      refine go_iload_n (at_of tX10_protect 0 2 rfl) rfl ?_
      refine go_cV (m_isParagraph hS hN.1 hE hSg) lk_X10_203 rfl G_109 (at_of tX10_protect 0 3 rfl) rfl (by decide) rfl (Nat.le_of_ble_eq_true rfl) rfl (by first | decide | exact ⟨Nat.zero_le _, Nat.zero_le _⟩) ?_
      refine go_if_eq (tgt := 13) (at_of tX10_protect 0 4 rfl) (by decide) (fun h6 => ?_) (fun h6 => ?_)
      · exfalso; exact bI_0.mp h6 h
      refine go_iconst (at_of tX10_protect 0 5 rfl) (by unfold in32; omega) ?_
      refine go_goto (tgt := 14) (at_of tX10_protect 0 6 rfl) (by decide) ?_
      refine go_cV (m_goesOn) lk_X10_141 rfl G_109 (at_of tX10_protect 0 8 rfl) rfl (by decide) rfl (Nat.le_of_ble_eq_true rfl) rfl (by first | decide | exact ⟨Nat.zero_le _, Nat.zero_le _⟩) ?_
      refine go_if_ne (tgt := 22) (at_of tX10_protect 0 9 rfl) (by decide) (fun h17 => ?_) (fun h17 => ?_)
      rotate_left
      · exfalso; exact absurd h17 (by rw [bI_t rfl]; decide)
      refine go_aload_n (at_of tX10_protect 0 12 rfl) rfl ?_
      refine go_cV (x1) lk_X10_166 rfl G_109 (at_of tX10_protect 0 13 rfl) rfl (by decide) rfl (Nat.le_of_ble_eq_true rfl) rfl (by first | decide | exact ⟨Nat.zero_le _, Nat.zero_le _⟩) ?_
      refine go_aload_n (at_of tX10_protect 0 14 rfl) rfl ?_
      refine go_iload_n (at_of tX10_protect 0 15 rfl) rfl ?_
      refine go_cV (me) lk_X10_197 rfl G_109 (at_of tX10_protect 1 0 rfl) rfl (by decide) rfl (Nat.le_of_ble_eq_true rfl) rfl (by first | decide | exact ⟨Nat.zero_le _, Nat.zero_le _⟩) ?_
      refine go_istore_n (at_of tX10_protect 1 1 rfl) rfl rfl ?_
      refine go_aload_n (at_of tX10_protect 1 2 rfl) rfl ?_
      refine go_iload_n (at_of tX10_protect 1 3 rfl) rfl ?_
      refine go_bipush (at_of tX10_protect 1 4 rfl) (by decide) ?_
      refine go_cV (m7) lk_X10_106 rfl G_109 (at_of tX10_protect 1 5 rfl) rfl (by decide) rfl (Nat.le_of_ble_eq_true rfl) rfl (by first | decide | exact ⟨Nat.zero_le _, Nat.zero_le _⟩) ?_
      refine go_iconst (at_of tX10_protect 1 6 rfl) (by unfold in32; omega) ?_
      refine go_icmp_ne (tgt := 47) (at_of tX10_protect 1 7 rfl) (by decide) (fun h40 => ?_) (fun h40 => ?_)
      · exfalso; omega
      refine go_iconst (at_of tX10_protect 1 8 rfl) (by unfold in32; omega) ?_
      refine go_goto (tgt := 48) (at_of tX10_protect 1 9 rfl) (by decide) ?_
      refine go_istore (at_of tX10_protect 1 11 rfl) rfl rfl ?_
      refine go_aload_n (at_of tX10_protect 1 12 rfl) rfl ?_
      refine go_iload_n (at_of tX10_protect 1 13 rfl) rfl ?_
      refine go_bipush (at_of tX10_protect 1 14 rfl) (by decide) ?_
      refine go_iload_n (at_of tX10_protect 1 15 rfl) rfl ?_
      refine go_if_eq (tgt := 62) (at_of tX10_protect 2 0 rfl) (by decide) (fun h55 => ?_) (fun h55 => ?_)
      rotate_left
      · exfalso; exact h55 rfl
      refine go_iconst (at_of tX10_protect 2 3 rfl) (by unfold in32; omega) ?_
      refine go_cV (m_setAt hS1 (by omega)) lk_X10_99 rfl G_109 (at_of tX10_protect 2 4 rfl) rfl (by decide) rfl (Nat.le_of_ble_eq_true rfl) rfl (by first | decide | exact ⟨Nat.zero_le _, Nat.zero_le _⟩) ?_
      refine go_iload (at_of tX10_protect 2 5 rfl) rfl rfl ?_
      first | exact go_reti (at_of tX10_protect 2 6 rfl) rfl | exact go_reti (at_of tX10_protect 2 6 rfl) (le_i (by omega)) | exact go_reti (at_of tX10_protect 2 6 rfl) (le_i (by first | exact bI_t (by omega) | exact bI_f (by omega)))
  · rw [bI_f hg]
    cases is with
    | true =>
      refine con_of_go mfX10_protect.1 (Or.inl rfl) (Nat.le_of_ble_eq_true rfl) rfl (by decide) ?_
      show Go _ _ _ _ 0 [vA _, vI _, vI _, vT 9 0, vT 9 0] [] _ _
      refine go_aload_n (at_of tX10_protect 0 0 rfl) rfl ?_
      refine go_aload_n (at_of tX10_protect 0 1 rfl) rfl ?_
      refine go_iload_n (at_of tX10_protect 0 2 rfl) rfl ?_
      refine go_cV (m_isParagraph hS hN.1 hE hSg) lk_X10_203 rfl G_109 (at_of tX10_protect 0 3 rfl) rfl (by decide) rfl (Nat.le_of_ble_eq_true rfl) rfl (by first | decide | exact ⟨Nat.zero_le _, Nat.zero_le _⟩) ?_
      refine go_if_eq (tgt := 13) (at_of tX10_protect 0 4 rfl) (by decide) (fun h6 => ?_) (fun h6 => ?_)
      · exfalso; exact bI_0.mp h6 h
      refine go_iconst (at_of tX10_protect 0 5 rfl) (by unfold in32; omega) ?_
      refine go_goto (tgt := 14) (at_of tX10_protect 0 6 rfl) (by decide) ?_
      refine go_cV (m_goesOn) lk_X10_141 rfl G_109 (at_of tX10_protect 0 8 rfl) rfl (by decide) rfl (Nat.le_of_ble_eq_true rfl) rfl (by first | decide | exact ⟨Nat.zero_le _, Nat.zero_le _⟩) ?_
      refine go_if_ne (tgt := 22) (at_of tX10_protect 0 9 rfl) (by decide) (fun h17 => ?_) (fun h17 => ?_)
      rotate_left
      · exfalso; exact absurd h17 (by rw [bI_t rfl]; decide)
      refine go_aload_n (at_of tX10_protect 0 12 rfl) rfl ?_
      refine go_cV (x1) lk_X10_166 rfl G_109 (at_of tX10_protect 0 13 rfl) rfl (by decide) rfl (Nat.le_of_ble_eq_true rfl) rfl (by first | decide | exact ⟨Nat.zero_le _, Nat.zero_le _⟩) ?_
      refine go_aload_n (at_of tX10_protect 0 14 rfl) rfl ?_
      refine go_iload_n (at_of tX10_protect 0 15 rfl) rfl ?_
      refine go_cV (me) lk_X10_197 rfl G_109 (at_of tX10_protect 1 0 rfl) rfl (by decide) rfl (Nat.le_of_ble_eq_true rfl) rfl (by first | decide | exact ⟨Nat.zero_le _, Nat.zero_le _⟩) ?_
      refine go_istore_n (at_of tX10_protect 1 1 rfl) rfl rfl ?_
      refine go_aload_n (at_of tX10_protect 1 2 rfl) rfl ?_
      refine go_iload_n (at_of tX10_protect 1 3 rfl) rfl ?_
      refine go_bipush (at_of tX10_protect 1 4 rfl) (by decide) ?_
      refine go_cV (m7) lk_X10_106 rfl G_109 (at_of tX10_protect 1 5 rfl) rfl (by decide) rfl (Nat.le_of_ble_eq_true rfl) rfl (by first | decide | exact ⟨Nat.zero_le _, Nat.zero_le _⟩) ?_
      refine go_iconst (at_of tX10_protect 1 6 rfl) (by unfold in32; omega) ?_
      refine go_icmp_ne (tgt := 47) (at_of tX10_protect 1 7 rfl) (by decide) (fun h40 => ?_) (fun h40 => ?_)
      rotate_left
      · exfalso; omega
      refine go_iconst (at_of tX10_protect 1 10 rfl) (by unfold in32; omega) ?_
      refine go_istore (at_of tX10_protect 1 11 rfl) rfl rfl ?_
      refine go_aload_n (at_of tX10_protect 1 12 rfl) rfl ?_
      refine go_iload_n (at_of tX10_protect 1 13 rfl) rfl ?_
      refine go_bipush (at_of tX10_protect 1 14 rfl) (by decide) ?_
      refine go_iload_n (at_of tX10_protect 1 15 rfl) rfl ?_
      refine go_if_eq (tgt := 62) (at_of tX10_protect 2 0 rfl) (by decide) (fun h55 => ?_) (fun h55 => ?_)
      · exfalso; exact absurd h55 (by decide)
      refine go_iconst (at_of tX10_protect 2 1 rfl) (by unfold in32; omega) ?_
      refine go_goto (tgt := 63) (at_of tX10_protect 2 2 rfl) (by decide) ?_
      refine go_cV (m_setAt hS1 (by omega)) lk_X10_99 rfl G_109 (at_of tX10_protect 2 4 rfl) rfl (by decide) rfl (Nat.le_of_ble_eq_true rfl) rfl (by first | decide | exact ⟨Nat.zero_le _, Nat.zero_le _⟩) ?_
      refine go_iload (at_of tX10_protect 2 5 rfl) rfl rfl ?_
      first | exact go_reti (at_of tX10_protect 2 6 rfl) rfl | exact go_reti (at_of tX10_protect 2 6 rfl) (le_i (by omega)) | exact go_reti (at_of tX10_protect 2 6 rfl) (le_i (by first | exact bI_t (by omega) | exact bI_f (by omega)))
    | false =>
      refine con_of_go mfX10_protect.1 (Or.inl rfl) (Nat.le_of_ble_eq_true rfl) rfl (by decide) ?_
      show Go _ _ _ _ 0 [vA _, vI _, vI _, vT 9 0, vT 9 0] [] _ _
      refine go_aload_n (at_of tX10_protect 0 0 rfl) rfl ?_
      refine go_aload_n (at_of tX10_protect 0 1 rfl) rfl ?_
      refine go_iload_n (at_of tX10_protect 0 2 rfl) rfl ?_
      refine go_cV (m_isParagraph hS hN.1 hE hSg) lk_X10_203 rfl G_109 (at_of tX10_protect 0 3 rfl) rfl (by decide) rfl (Nat.le_of_ble_eq_true rfl) rfl (by first | decide | exact ⟨Nat.zero_le _, Nat.zero_le _⟩) ?_
      refine go_if_eq (tgt := 13) (at_of tX10_protect 0 4 rfl) (by decide) (fun h6 => ?_) (fun h6 => ?_)
      · exfalso; exact bI_0.mp h6 h
      refine go_iconst (at_of tX10_protect 0 5 rfl) (by unfold in32; omega) ?_
      refine go_goto (tgt := 14) (at_of tX10_protect 0 6 rfl) (by decide) ?_
      refine go_cV (m_goesOn) lk_X10_141 rfl G_109 (at_of tX10_protect 0 8 rfl) rfl (by decide) rfl (Nat.le_of_ble_eq_true rfl) rfl (by first | decide | exact ⟨Nat.zero_le _, Nat.zero_le _⟩) ?_
      refine go_if_ne (tgt := 22) (at_of tX10_protect 0 9 rfl) (by decide) (fun h17 => ?_) (fun h17 => ?_)
      rotate_left
      · exfalso; exact absurd h17 (by rw [bI_t rfl]; decide)
      refine go_aload_n (at_of tX10_protect 0 12 rfl) rfl ?_
      refine go_cV (x1) lk_X10_166 rfl G_109 (at_of tX10_protect 0 13 rfl) rfl (by decide) rfl (Nat.le_of_ble_eq_true rfl) rfl (by first | decide | exact ⟨Nat.zero_le _, Nat.zero_le _⟩) ?_
      refine go_aload_n (at_of tX10_protect 0 14 rfl) rfl ?_
      refine go_iload_n (at_of tX10_protect 0 15 rfl) rfl ?_
      refine go_cV (me) lk_X10_197 rfl G_109 (at_of tX10_protect 1 0 rfl) rfl (by decide) rfl (Nat.le_of_ble_eq_true rfl) rfl (by first | decide | exact ⟨Nat.zero_le _, Nat.zero_le _⟩) ?_
      refine go_istore_n (at_of tX10_protect 1 1 rfl) rfl rfl ?_
      refine go_aload_n (at_of tX10_protect 1 2 rfl) rfl ?_
      refine go_iload_n (at_of tX10_protect 1 3 rfl) rfl ?_
      refine go_bipush (at_of tX10_protect 1 4 rfl) (by decide) ?_
      refine go_cV (m7) lk_X10_106 rfl G_109 (at_of tX10_protect 1 5 rfl) rfl (by decide) rfl (Nat.le_of_ble_eq_true rfl) rfl (by first | decide | exact ⟨Nat.zero_le _, Nat.zero_le _⟩) ?_
      refine go_iconst (at_of tX10_protect 1 6 rfl) (by unfold in32; omega) ?_
      refine go_icmp_ne (tgt := 47) (at_of tX10_protect 1 7 rfl) (by decide) (fun h40 => ?_) (fun h40 => ?_)
      rotate_left
      · exfalso; omega
      refine go_iconst (at_of tX10_protect 1 10 rfl) (by unfold in32; omega) ?_
      refine go_istore (at_of tX10_protect 1 11 rfl) rfl rfl ?_
      refine go_aload_n (at_of tX10_protect 1 12 rfl) rfl ?_
      refine go_iload_n (at_of tX10_protect 1 13 rfl) rfl ?_
      refine go_bipush (at_of tX10_protect 1 14 rfl) (by decide) ?_
      refine go_iload_n (at_of tX10_protect 1 15 rfl) rfl ?_
      refine go_if_eq (tgt := 62) (at_of tX10_protect 2 0 rfl) (by decide) (fun h55 => ?_) (fun h55 => ?_)
      rotate_left
      · exfalso; exact h55 rfl
      refine go_iconst (at_of tX10_protect 2 3 rfl) (by unfold in32; omega) ?_
      refine go_cV (m_setAt hS1 (by omega)) lk_X10_99 rfl G_109 (at_of tX10_protect 2 4 rfl) rfl (by decide) rfl (Nat.le_of_ble_eq_true rfl) rfl (by first | decide | exact ⟨Nat.zero_le _, Nat.zero_le _⟩) ?_
      refine go_iload (at_of tX10_protect 2 5 rfl) rfl rfl ?_
      first | exact go_reti (at_of tX10_protect 2 6 rfl) rfl | exact go_reti (at_of tX10_protect 2 6 rfl) (le_i (by omega)) | exact go_reti (at_of tX10_protect 2 6 rfl) (le_i (by first | exact bI_t (by omega) | exact bI_f (by omega)))
def lfE (D : PapD) (p : Int) (fine : Bool) : Int := if ¬ (0 ≤ p ∧ p ≤ endsA D.1.1 D.1.2.1 D.1.2.1) then 1 else if fine = false then 2 else if D.1.1 10 (ixEnd D.1.1 D.1.2.1 p) = 1 then 3 else 0
theorem lfE_0 {D : PapD} {p : Int} {fine : Bool} (h : lfE D p fine = 0) : (0 ≤ p ∧ p ≤ endsA D.1.1 D.1.2.1 D.1.2.1) ∧ fine = true ∧ D.1.1 10 (ixEnd D.1.1 D.1.2.1 p) ≠ 1 := by
  unfold lfE at h
  split at h
  · exact absurd h (by decide)
  · rename_i h1
    split at h
    · exact absurd h (by decide)
    · rename_i h2
      split at h
      · exact absurd h (by decide)
      · rename_i h3
        exact ⟨Decidable.not_not.mp h1, by cases fine; exact absurd rfl h2; rfl, h3⟩
theorem m_listFault (hS : Str σ.2.1) {A : PastD} (hM : PastM σ A) (hW : WfB (A.1 A.2.1)) {p : Int} {fine : Bool} : Con 4 mX10_listFault 0 0 [vA 109, vI p, vI (bI (fine = true))] σ (vI (lfE (A.1 A.2.1) p fine), σ) := by
  obtain ⟨hWm, hl2, h4⟩ := id hW
  obtain ⟨hE, hSg, hMk, hRw⟩ := id hWm
  obtain ⟨e1, e2, e3, e4⟩ := id hE
  have hN := hM.2.2.2.1
  obtain ⟨b1, b2, b3, b4⟩ := id hN.2.2.2
  have hl := hN.2.1.2
  have hcc : σ.1 110 (3011 : Int).toNat = (A.1 A.2.1).2.1.1 := hN.2.1.1
  unfold lfE
  by_cases h : 0 ≤ p ∧ p ≤ endsA (A.1 A.2.1).1.1 (A.1 A.2.1).1.2.1 (A.1 A.2.1).1.2.1
  · rw [if_neg (fun q => q h)]
    cases fine with
    | false =>
      rw [if_pos rfl]
      refine con_of_go mfX10_listFault.1 trivial (Nat.le_of_ble_eq_true rfl) rfl (by decide) ?_
      show Go _ _ _ _ 0 [vA _, vI _, vI _] [] _ _
      refine go_aload_n (at_of tX10_listFault 0 0 rfl) rfl ?_
      refine go_iload_n (at_of tX10_listFault 0 1 rfl) rfl ?_
      refine go_cV (m_isParagraph hS hN.1 hE hSg) lk_X10_203 rfl G_109 (at_of tX10_listFault 0 2 rfl) rfl (by decide) rfl (Nat.le_of_ble_eq_true rfl) rfl (by first | decide | exact ⟨Nat.zero_le _, Nat.zero_le _⟩) ?_
      refine go_if_ne (tgt := 12) (at_of tX10_listFault 0 3 rfl) (by decide) (fun h5 => ?_) (fun h5 => ?_)
      rotate_left
      · exfalso; exact bI_0.mp h5 h
      refine go_iload_n (at_of tX10_listFault 0 6 rfl) rfl ?_
      refine go_if_ne (tgt := 20) (at_of tX10_listFault 0 7 rfl) (by decide) (fun h13 => ?_) (fun h13 => ?_)
      · exfalso; exact h13 rfl
      refine go_iconst (at_of tX10_listFault 0 8 rfl) (by unfold in32; omega) ?_
      refine go_goto (tgt := 40) (at_of tX10_listFault 0 9 rfl) (by decide) ?_
      first | exact go_reti (at_of tX10_listFault 1 5 rfl) rfl | exact go_reti (at_of tX10_listFault 1 5 rfl) (le_i (by omega)) | exact go_reti (at_of tX10_listFault 1 5 rfl) (le_i (by first | exact bI_t (by omega) | exact bI_f (by omega)))
    | true =>
      rw [if_neg (by decide)]
      obtain ⟨u1, u2, u3, h47⟩ := ixEnd_end e1 ((ixEnd_iff hE).mpr h)
      have me := m_endOfParagraph hS hN.1 hE hSg h.1 h.2
      have m7 := m_at7 hS hN.1 (u := (ixEnd (A.1 A.2.1).1.1 (A.1 A.2.1).1.2.1 p)) ⟨u1, u2, b2⟩ h47
      by_cases hg : (A.1 A.2.1).1.1 10 (ixEnd (A.1 A.2.1).1.1 (A.1 A.2.1).1.2.1 p) = 1
      · rw [if_pos hg]
        refine con_of_go mfX10_listFault.1 trivial (Nat.le_of_ble_eq_true rfl) rfl (by decide) ?_
        show Go _ _ _ _ 0 [vA _, vI _, vI _] [] _ _
        refine go_aload_n (at_of tX10_listFault 0 0 rfl) rfl ?_
        refine go_iload_n (at_of tX10_listFault 0 1 rfl) rfl ?_
        refine go_cV (m_isParagraph hS hN.1 hE hSg) lk_X10_203 rfl G_109 (at_of tX10_listFault 0 2 rfl) rfl (by decide) rfl (Nat.le_of_ble_eq_true rfl) rfl (by first | decide | exact ⟨Nat.zero_le _, Nat.zero_le _⟩) ?_
        refine go_if_ne (tgt := 12) (at_of tX10_listFault 0 3 rfl) (by decide) (fun h5 => ?_) (fun h5 => ?_)
        rotate_left
        · exfalso; exact bI_0.mp h5 h
        refine go_iload_n (at_of tX10_listFault 0 6 rfl) rfl ?_
        refine go_if_ne (tgt := 20) (at_of tX10_listFault 0 7 rfl) (by decide) (fun h13 => ?_) (fun h13 => ?_)
        rotate_left
        · exfalso; exact absurd h13 (by decide)
        refine go_aload_n (at_of tX10_listFault 0 10 rfl) rfl ?_
        refine go_aload_n (at_of tX10_listFault 0 11 rfl) rfl ?_
        refine go_iload_n (at_of tX10_listFault 0 12 rfl) rfl ?_
        refine go_cV (me) lk_X10_197 rfl G_109 (at_of tX10_listFault 0 13 rfl) rfl (by decide) rfl (Nat.le_of_ble_eq_true rfl) rfl (by first | decide | exact ⟨Nat.zero_le _, Nat.zero_le _⟩) ?_
        refine go_bipush (at_of tX10_listFault 0 14 rfl) (by decide) ?_
        refine go_cV (m7) lk_X10_106 rfl G_109 (at_of tX10_listFault 0 15 rfl) rfl (by decide) rfl (Nat.le_of_ble_eq_true rfl) rfl (by first | decide | exact ⟨Nat.zero_le _, Nat.zero_le _⟩) ?_
        refine go_iconst (at_of tX10_listFault 1 0 rfl) (by unfold in32; omega) ?_
        refine go_icmp_ne (tgt := 39) (at_of tX10_listFault 1 1 rfl) (by decide) (fun h32 => ?_) (fun h32 => ?_)
        · exfalso; omega
        refine go_iconst (at_of tX10_listFault 1 2 rfl) (by unfold in32; omega) ?_
        refine go_goto (tgt := 40) (at_of tX10_listFault 1 3 rfl) (by decide) ?_
        first | exact go_reti (at_of tX10_listFault 1 5 rfl) rfl | exact go_reti (at_of tX10_listFault 1 5 rfl) (le_i (by omega)) | exact go_reti (at_of tX10_listFault 1 5 rfl) (le_i (by first | exact bI_t (by omega) | exact bI_f (by omega)))
      · rw [if_neg hg]
        refine con_of_go mfX10_listFault.1 trivial (Nat.le_of_ble_eq_true rfl) rfl (by decide) ?_
        show Go _ _ _ _ 0 [vA _, vI _, vI _] [] _ _
        refine go_aload_n (at_of tX10_listFault 0 0 rfl) rfl ?_
        refine go_iload_n (at_of tX10_listFault 0 1 rfl) rfl ?_
        refine go_cV (m_isParagraph hS hN.1 hE hSg) lk_X10_203 rfl G_109 (at_of tX10_listFault 0 2 rfl) rfl (by decide) rfl (Nat.le_of_ble_eq_true rfl) rfl (by first | decide | exact ⟨Nat.zero_le _, Nat.zero_le _⟩) ?_
        refine go_if_ne (tgt := 12) (at_of tX10_listFault 0 3 rfl) (by decide) (fun h5 => ?_) (fun h5 => ?_)
        rotate_left
        · exfalso; exact bI_0.mp h5 h
        refine go_iload_n (at_of tX10_listFault 0 6 rfl) rfl ?_
        refine go_if_ne (tgt := 20) (at_of tX10_listFault 0 7 rfl) (by decide) (fun h13 => ?_) (fun h13 => ?_)
        rotate_left
        · exfalso; exact absurd h13 (by decide)
        refine go_aload_n (at_of tX10_listFault 0 10 rfl) rfl ?_
        refine go_aload_n (at_of tX10_listFault 0 11 rfl) rfl ?_
        refine go_iload_n (at_of tX10_listFault 0 12 rfl) rfl ?_
        refine go_cV (me) lk_X10_197 rfl G_109 (at_of tX10_listFault 0 13 rfl) rfl (by decide) rfl (Nat.le_of_ble_eq_true rfl) rfl (by first | decide | exact ⟨Nat.zero_le _, Nat.zero_le _⟩) ?_
        refine go_bipush (at_of tX10_listFault 0 14 rfl) (by decide) ?_
        refine go_cV (m7) lk_X10_106 rfl G_109 (at_of tX10_listFault 0 15 rfl) rfl (by decide) rfl (Nat.le_of_ble_eq_true rfl) rfl (by first | decide | exact ⟨Nat.zero_le _, Nat.zero_le _⟩) ?_
        refine go_iconst (at_of tX10_listFault 1 0 rfl) (by unfold in32; omega) ?_
        refine go_icmp_ne (tgt := 39) (at_of tX10_listFault 1 1 rfl) (by decide) (fun h32 => ?_) (fun h32 => ?_)
        rotate_left
        · exfalso; omega
        refine go_iconst (at_of tX10_listFault 1 4 rfl) (by unfold in32; omega) ?_
        first | exact go_reti (at_of tX10_listFault 1 5 rfl) rfl | exact go_reti (at_of tX10_listFault 1 5 rfl) (le_i (by omega)) | exact go_reti (at_of tX10_listFault 1 5 rfl) (le_i (by first | exact bI_t (by omega) | exact bI_f (by omega)))
  · rw [if_pos h]
    refine con_of_go mfX10_listFault.1 trivial (Nat.le_of_ble_eq_true rfl) rfl (by decide) ?_
    show Go _ _ _ _ 0 [vA _, vI _, vI _] [] _ _
    refine go_aload_n (at_of tX10_listFault 0 0 rfl) rfl ?_
    refine go_iload_n (at_of tX10_listFault 0 1 rfl) rfl ?_
    refine go_cV (m_isParagraph hS hN.1 hE hSg) lk_X10_203 rfl G_109 (at_of tX10_listFault 0 2 rfl) rfl (by decide) rfl (Nat.le_of_ble_eq_true rfl) rfl (by first | decide | exact ⟨Nat.zero_le _, Nat.zero_le _⟩) ?_
    refine go_if_ne (tgt := 12) (at_of tX10_listFault 0 3 rfl) (by decide) (fun h5 => ?_) (fun h5 => ?_)
    · exfalso; exact h (bI_1.mp h5)
    refine go_iconst (at_of tX10_listFault 0 4 rfl) (by unfold in32; omega) ?_
    refine go_goto (tgt := 40) (at_of tX10_listFault 0 5 rfl) (by decide) ?_
    first | exact go_reti (at_of tX10_listFault 1 5 rfl) rfl | exact go_reti (at_of tX10_listFault 1 5 rfl) (le_i (by omega)) | exact go_reti (at_of tX10_listFault 1 5 rfl) (le_i (by first | exact bI_t (by omega) | exact bI_f (by omega)))
theorem m_restart_no (hS : Str σ.2.1) {A : PastD} (hM : PastM σ A) (hW : WfB (A.1 A.2.1)) {p z : Int} (h : lfE (A.1 A.2.1) p (decide (0 ≤ z ∧ z ≤ 99)) ≠ 0) : Con 5 mX10_restart 0 0 [vA 109, vI p, vI z] σ (vI 0, P1 σ 109 0 (lfE (A.1 A.2.1) p (decide (0 ≤ z ∧ z ≤ 99)))) := by
  obtain ⟨hWm, hl2, h4⟩ := id hW
  obtain ⟨hE, hSg, hMk, hRw⟩ := id hWm
  obtain ⟨e1, e2, e3, e4⟩ := id hE
  have hN := hM.2.2.2.1
  obtain ⟨b1, b2, b3, b4⟩ := id hN.2.2.2
  have hl := hN.2.1.2
  have hcc : σ.1 110 (3011 : Int).toNat = (A.1 A.2.1).2.1.1 := hN.2.1.1
  have lf := m_listFault hS hM hW (p := p) (fine := (decide (0 ≤ z ∧ z ≤ 99)))
  rw [show bI ((decide (0 ≤ z ∧ z ≤ 99)) = true) = bI (0 ≤ z ∧ z ≤ 99) from bI_congr decide_eq_true_iff] at lf
  refine con_of_go mfX10_restart.1 trivial (Nat.le_of_ble_eq_true rfl) rfl (by decide) ?_
  show Go _ _ _ _ 0 [vA _, vI _, vI _, vT 9 0, vT 9 0] [] _ _
  refine go_aload_n (at_of tX10_restart 0 0 rfl) rfl ?_
  refine go_aload_n (at_of tX10_restart 0 1 rfl) rfl ?_
  refine go_iload_n (at_of tX10_restart 0 2 rfl) rfl ?_
  refine go_iload_n (at_of tX10_restart 0 3 rfl) rfl ?_
  refine go_iconst (at_of tX10_restart 0 4 rfl) (by unfold in32; omega) ?_
  refine go_bipush (at_of tX10_restart 0 5 rfl) (by decide) ?_
  refine go_cS (m_in) lk_X10_124 rfl (at_of tX10_restart 0 6 rfl) rfl (by decide) rfl (Nat.le_of_ble_eq_true rfl) rfl (by first | decide | exact ⟨Nat.zero_le _, Nat.zero_le _⟩) ?_
  refine go_cV (lf) lk_X10_232 rfl G_109 (at_of tX10_restart 0 7 rfl) rfl (by decide) rfl (Nat.le_of_ble_eq_true rfl) rfl (by first | decide | exact ⟨Nat.zero_le _, Nat.zero_le _⟩) ?_
  refine go_cV (m_goesOn) lk_X10_141 rfl G_109 (at_of tX10_restart 0 8 rfl) rfl (by decide) rfl (Nat.le_of_ble_eq_true rfl) rfl (by first | decide | exact ⟨Nat.zero_le _, Nat.zero_le _⟩) ?_
  refine go_if_ne (tgt := 21) (at_of tX10_restart 0 9 rfl) (by decide) (fun h16 => ?_) (fun h16 => ?_)
  · exfalso; exact h (bI_1.mp h16)
  refine go_iconst (at_of tX10_restart 0 10 rfl) (by unfold in32; omega) ?_
  first | exact go_reti (at_of tX10_restart 0 11 rfl) rfl | exact go_reti (at_of tX10_restart 0 11 rfl) (le_i (by omega)) | exact go_reti (at_of tX10_restart 0 11 rfl) (le_i (by first | exact bI_t (by omega) | exact bI_f (by omega)))
theorem m_restart (hS : Str σ.2.1) {A : PastD} (hM : PastM σ A) (hW : WfB (A.1 A.2.1)) {p z : Int} (h0 : lfE (A.1 A.2.1) p (decide (0 ≤ z ∧ z ≤ 99)) = 0) : ∃ σ', Con 5 mX10_restart 0 0 [vA 109, vI p, vI z] σ (vI ((A.1 A.2.1).1.1 9 (ixEnd (A.1 A.2.1).1.1 (A.1 A.2.1).1.2.1 p)), σ') ∧ PastM σ' (edA (begA A) (setR (A.1 A.2.1).1 9 (ixEnd (A.1 A.2.1).1.1 (A.1 A.2.1).1.2.1 p) z, (A.1 A.2.1).2)) ∧ FrE σ σ' ∧ σ'.1 109 0 = 0 := by
  obtain ⟨hWm, hl2, h4⟩ := id hW
  obtain ⟨hE, hSg, hMk, hRw⟩ := id hWm
  obtain ⟨e1, e2, e3, e4⟩ := id hE
  have hN := hM.2.2.2.1
  obtain ⟨b1, b2, b3, b4⟩ := id hN.2.2.2
  have hl := hN.2.1.2
  have hcc : σ.1 110 (3011 : Int).toNat = (A.1 A.2.1).2.1.1 := hN.2.1.1
  have lf := m_listFault hS hM hW (p := p) (fine := (decide (0 ≤ z ∧ z ≤ 99)))
  rw [show bI ((decide (0 ≤ z ∧ z ≤ 99)) = true) = bI (0 ≤ z ∧ z ≤ 99) from bI_congr decide_eq_true_iff] at lf
  have hSt : Str (P1 σ 109 0 0).2.1 := hS
  have hMt : PastM (P1 σ 109 0 0) A := hM.th
  obtain ⟨σ1, x1, x2, x3, x4, x5⟩ := m_edits hSt hMt
  have hS1 : Str σ1.2.1 := by rw [x3.1]; exact hS
  have hN1 : RepN (cN σ1) (A.1 A.2.1) := by
    have := x2.2.2.2.1
    rw [cur_beg] at this; exact this
  have x50 : σ1.1 109 0 = 0 := x5.trans P1_eq
  have fin : ∀ {σ' : St} {D' : PapD}, FrN σ1 σ' → RepN (cN σ') D' → PastM σ' (edA (begA A) D') ∧ FrE σ σ' ∧ σ'.1 109 0 = 0 := fun {σ' D'} hF hD => ⟨hF.past x2 hD, (FrE.th.trans x3).trans hF.e, (hF.2 109 0 (by omega)).trans x50⟩
  have h := (lfE_0 h0).1
  rw [h0] at lf
  obtain ⟨u1, u2, u3, h47⟩ := ixEnd_end e1 ((ixEnd_iff hE).mpr h)
  have me := m_endOfParagraph hS1 hN1.1 hE hSg h.1 h.2
  have m6 := m_at6 hS1 hN1.1 (u := (ixEnd (A.1 A.2.1).1.1 (A.1 A.2.1).1.2.1 p)) ⟨u1, u2, b2⟩ h47
  have N2 := rN_set6 (z := z) hN1.1 (u := (ixEnd (A.1 A.2.1).1.1 (A.1 A.2.1).1.2.1 p)) ⟨u1, u2⟩ b2
  have RN := hN1.set ⟨by omega, by omega⟩ N2 ⟨b1, b2⟩
  refine ⟨_, ?_, fin FrN.m1 RN⟩
  refine con_of_go mfX10_restart.1 trivial (Nat.le_of_ble_eq_true rfl) rfl (by decide) ?_
  show Go _ _ _ _ 0 [vA _, vI _, vI _, vT 9 0, vT 9 0] [] _ _
  refine go_aload_n (at_of tX10_restart 0 0 rfl) rfl ?_
  refine go_aload_n (at_of tX10_restart 0 1 rfl) rfl ?_
  refine go_iload_n (at_of tX10_restart 0 2 rfl) rfl ?_
  refine go_iload_n (at_of tX10_restart 0 3 rfl) rfl ?_
  refine go_iconst (at_of tX10_restart 0 4 rfl) (by unfold in32; omega) ?_
  refine go_bipush (at_of tX10_restart 0 5 rfl) (by decide) ?_
  refine go_cS (m_in) lk_X10_124 rfl (at_of tX10_restart 0 6 rfl) rfl (by decide) rfl (Nat.le_of_ble_eq_true rfl) rfl (by first | decide | exact ⟨Nat.zero_le _, Nat.zero_le _⟩) ?_
  refine go_cV (lf) lk_X10_232 rfl G_109 (at_of tX10_restart 0 7 rfl) rfl (by decide) rfl (Nat.le_of_ble_eq_true rfl) rfl (by first | decide | exact ⟨Nat.zero_le _, Nat.zero_le _⟩) ?_
  refine go_cV (m_goesOn) lk_X10_141 rfl G_109 (at_of tX10_restart 0 8 rfl) rfl (by decide) rfl (Nat.le_of_ble_eq_true rfl) rfl (by first | decide | exact ⟨Nat.zero_le _, Nat.zero_le _⟩) ?_
  refine go_if_ne (tgt := 21) (at_of tX10_restart 0 9 rfl) (by decide) (fun h16 => ?_) (fun h16 => ?_)
  rotate_left
  · exfalso; exact absurd h16 (by rw [bI_t rfl]; decide)
  refine go_aload_n (at_of tX10_restart 0 12 rfl) rfl ?_
  refine go_cV (x1) lk_X10_166 rfl G_109 (at_of tX10_restart 0 13 rfl) rfl (by decide) rfl (Nat.le_of_ble_eq_true rfl) rfl (by first | decide | exact ⟨Nat.zero_le _, Nat.zero_le _⟩) ?_
  refine go_aload_n (at_of tX10_restart 0 14 rfl) rfl ?_
  refine go_iload_n (at_of tX10_restart 0 15 rfl) rfl ?_
  refine go_cV (me) lk_X10_197 rfl G_109 (at_of tX10_restart 1 0 rfl) rfl (by decide) rfl (Nat.le_of_ble_eq_true rfl) rfl (by first | decide | exact ⟨Nat.zero_le _, Nat.zero_le _⟩) ?_
  refine go_istore_n (at_of tX10_restart 1 1 rfl) rfl rfl ?_
  refine go_aload_n (at_of tX10_restart 1 2 rfl) rfl ?_
  refine go_iload_n (at_of tX10_restart 1 3 rfl) rfl ?_
  refine go_bipush (at_of tX10_restart 1 4 rfl) (by decide) ?_
  refine go_cV (m6) lk_X10_106 rfl G_109 (at_of tX10_restart 1 5 rfl) rfl (by decide) rfl (Nat.le_of_ble_eq_true rfl) rfl (by first | decide | exact ⟨Nat.zero_le _, Nat.zero_le _⟩) ?_
  refine go_istore (at_of tX10_restart 1 6 rfl) rfl rfl ?_
  refine go_aload_n (at_of tX10_restart 1 7 rfl) rfl ?_
  refine go_iload_n (at_of tX10_restart 1 8 rfl) rfl ?_
  refine go_bipush (at_of tX10_restart 1 9 rfl) (by decide) ?_
  refine go_iload_n (at_of tX10_restart 1 10 rfl) rfl ?_
  refine go_cV (m_setAt hS1 (by omega)) lk_X10_99 rfl G_109 (at_of tX10_restart 1 11 rfl) rfl (by decide) rfl (Nat.le_of_ble_eq_true rfl) rfl (by first | decide | exact ⟨Nat.zero_le _, Nat.zero_le _⟩) ?_
  refine go_iload (at_of tX10_restart 1 12 rfl) rfl rfl ?_
  first | exact go_reti (at_of tX10_restart 1 13 rfl) rfl | exact go_reti (at_of tX10_restart 1 13 rfl) (le_i (by omega)) | exact go_reti (at_of tX10_restart 1 13 rfl) (le_i (by first | exact bI_t (by omega) | exact bI_f (by omega)))
theorem m_setList_no (hS : Str σ.2.1) {A : PastD} (hM : PastM σ A) (hW : WfB (A.1 A.2.1)) {p l v : Int} (h : lfE (A.1 A.2.1) p (decide (l = -1 ∨ ((0 ≤ l ∧ l ≤ 2) ∧ 0 ≤ v ∧ v ≤ 2))) ≠ 0) : Con 5 mX10_setList 0 0 [vA 109, vI p, vI l, vI v] σ (vI 0, P1 σ 109 0 (lfE (A.1 A.2.1) p (decide (l = -1 ∨ ((0 ≤ l ∧ l ≤ 2) ∧ 0 ≤ v ∧ v ≤ 2))))) := by
  obtain ⟨hWm, hl2, h4⟩ := id hW
  obtain ⟨hE, hSg, hMk, hRw⟩ := id hWm
  obtain ⟨e1, e2, e3, e4⟩ := id hE
  have hN := hM.2.2.2.1
  obtain ⟨b1, b2, b3, b4⟩ := id hN.2.2.2
  have hl := hN.2.1.2
  have hcc : σ.1 110 (3011 : Int).toNat = (A.1 A.2.1).2.1.1 := hN.2.1.1
  have lf := m_listFault hS hM hW (p := p) (fine := (decide (l = -1 ∨ ((0 ≤ l ∧ l ≤ 2) ∧ 0 ≤ v ∧ v ≤ 2))))
  have lf1 : l = -1 ∨ ((0 ≤ l ∧ l ≤ 2) ∧ 0 ≤ v ∧ v ≤ 2) → Con 4 mX10_listFault 0 0 [vA 109, vI p, vI 1] σ (vI (lfE (A.1 A.2.1) p (decide (l = -1 ∨ ((0 ≤ l ∧ l ≤ 2) ∧ 0 ≤ v ∧ v ≤ 2)))), σ) := fun q => by
    have z := lf
    rw [bI_t (decide_eq_true q)] at z; exact z
  have lf0 : ¬ (l = -1 ∨ ((0 ≤ l ∧ l ≤ 2) ∧ 0 ≤ v ∧ v ≤ 2)) → Con 4 mX10_listFault 0 0 [vA 109, vI p, vI 0] σ (vI (lfE (A.1 A.2.1) p (decide (l = -1 ∨ ((0 ≤ l ∧ l ≤ 2) ∧ 0 ≤ v ∧ v ≤ 2)))), σ) := fun q => by
    have z := lf
    rw [bI_f (fun y => q (of_decide_eq_true y))] at z; exact z
  by_cases q1 : l = -1
  · skip
    refine con_of_go mfX10_setList.1 trivial (Nat.le_of_ble_eq_true rfl) rfl (by decide) ?_
    show Go _ _ _ _ 0 [vA _, vI _, vI _, vI _, vT 9 0, vT 9 0, vT 9 0] [] _ _
    refine go_iload_n (at_of tX10_setList 0 0 rfl) rfl ?_
    refine go_iconst (at_of tX10_setList 0 1 rfl) (by unfold in32; omega) ?_
    refine go_icmp_eq (tgt := 23) (at_of tX10_setList 0 2 rfl) (by decide) (fun h2 => ?_) (fun h2 => ?_)
    rotate_left
    · exfalso; omega
    refine go_iconst (at_of tX10_setList 0 13 rfl) (by unfold in32; omega) ?_
    refine go_goto (tgt := 28) (at_of tX10_setList 0 14 rfl) (by decide) ?_
    refine go_istore (at_of tX10_setList 1 0 rfl) rfl rfl ?_
    refine go_aload_n (at_of tX10_setList 1 1 rfl) rfl ?_
    refine go_aload_n (at_of tX10_setList 1 2 rfl) rfl ?_
    refine go_iload_n (at_of tX10_setList 1 3 rfl) rfl ?_
    refine go_iload (at_of tX10_setList 1 4 rfl) rfl rfl ?_
    refine go_cV (lf1 (Or.inl q1)) lk_X10_232 rfl G_109 (at_of tX10_setList 1 5 rfl) rfl (by decide) rfl (Nat.le_of_ble_eq_true rfl) rfl (by first | decide | exact ⟨Nat.zero_le _, Nat.zero_le _⟩) ?_
    refine go_cV (m_goesOn) lk_X10_141 rfl G_109 (at_of tX10_setList 1 6 rfl) rfl (by decide) rfl (Nat.le_of_ble_eq_true rfl) rfl (by first | decide | exact ⟨Nat.zero_le _, Nat.zero_le _⟩) ?_
    refine go_if_ne (tgt := 46) (at_of tX10_setList 1 7 rfl) (by decide) (fun h41 => ?_) (fun h41 => ?_)
    · exfalso; exact h (bI_1.mp h41)
    refine go_iconst (at_of tX10_setList 1 8 rfl) (by unfold in32; omega) ?_
    first | exact go_reti (at_of tX10_setList 1 9 rfl) rfl | exact go_reti (at_of tX10_setList 1 9 rfl) (le_i (by omega)) | exact go_reti (at_of tX10_setList 1 9 rfl) (le_i (by first | exact bI_t (by omega) | exact bI_f (by omega)))
  · by_cases q2 : 0 ≤ l ∧ l ≤ 2
    · by_cases q3 : 0 ≤ v ∧ v ≤ 2
      · skip
        refine con_of_go mfX10_setList.1 trivial (Nat.le_of_ble_eq_true rfl) rfl (by decide) ?_
        show Go _ _ _ _ 0 [vA _, vI _, vI _, vI _, vT 9 0, vT 9 0, vT 9 0] [] _ _
        refine go_iload_n (at_of tX10_setList 0 0 rfl) rfl ?_
        refine go_iconst (at_of tX10_setList 0 1 rfl) (by unfold in32; omega) ?_
        refine go_icmp_eq (tgt := 23) (at_of tX10_setList 0 2 rfl) (by decide) (fun h2 => ?_) (fun h2 => ?_)
        · exfalso; omega
        refine go_iload_n (at_of tX10_setList 0 3 rfl) rfl ?_
        refine go_iconst (at_of tX10_setList 0 4 rfl) (by unfold in32; omega) ?_
        refine go_iconst (at_of tX10_setList 0 5 rfl) (by unfold in32; omega) ?_
        refine go_cS (m_in) lk_X10_124 rfl (at_of tX10_setList 0 6 rfl) rfl (by decide) rfl (Nat.le_of_ble_eq_true rfl) rfl (by first | decide | exact ⟨Nat.zero_le _, Nat.zero_le _⟩) ?_
        refine go_if_eq (tgt := 27) (at_of tX10_setList 0 7 rfl) (by decide) (fun h11 => ?_) (fun h11 => ?_)
        · exfalso; exact bI_0.mp h11 q2
        refine go_iload_n (at_of tX10_setList 0 8 rfl) rfl ?_
        refine go_iconst (at_of tX10_setList 0 9 rfl) (by unfold in32; omega) ?_
        refine go_iconst (at_of tX10_setList 0 10 rfl) (by unfold in32; omega) ?_
        refine go_cS (m_in) lk_X10_124 rfl (at_of tX10_setList 0 11 rfl) rfl (by decide) rfl (Nat.le_of_ble_eq_true rfl) rfl (by first | decide | exact ⟨Nat.zero_le _, Nat.zero_le _⟩) ?_
        refine go_if_eq (tgt := 27) (at_of tX10_setList 0 12 rfl) (by decide) (fun h20 => ?_) (fun h20 => ?_)
        · exfalso; exact bI_0.mp h20 q3
        refine go_iconst (at_of tX10_setList 0 13 rfl) (by unfold in32; omega) ?_
        refine go_goto (tgt := 28) (at_of tX10_setList 0 14 rfl) (by decide) ?_
        refine go_istore (at_of tX10_setList 1 0 rfl) rfl rfl ?_
        refine go_aload_n (at_of tX10_setList 1 1 rfl) rfl ?_
        refine go_aload_n (at_of tX10_setList 1 2 rfl) rfl ?_
        refine go_iload_n (at_of tX10_setList 1 3 rfl) rfl ?_
        refine go_iload (at_of tX10_setList 1 4 rfl) rfl rfl ?_
        refine go_cV (lf1 (Or.inr ⟨q2, q3⟩)) lk_X10_232 rfl G_109 (at_of tX10_setList 1 5 rfl) rfl (by decide) rfl (Nat.le_of_ble_eq_true rfl) rfl (by first | decide | exact ⟨Nat.zero_le _, Nat.zero_le _⟩) ?_
        refine go_cV (m_goesOn) lk_X10_141 rfl G_109 (at_of tX10_setList 1 6 rfl) rfl (by decide) rfl (Nat.le_of_ble_eq_true rfl) rfl (by first | decide | exact ⟨Nat.zero_le _, Nat.zero_le _⟩) ?_
        refine go_if_ne (tgt := 46) (at_of tX10_setList 1 7 rfl) (by decide) (fun h41 => ?_) (fun h41 => ?_)
        · exfalso; exact h (bI_1.mp h41)
        refine go_iconst (at_of tX10_setList 1 8 rfl) (by unfold in32; omega) ?_
        first | exact go_reti (at_of tX10_setList 1 9 rfl) rfl | exact go_reti (at_of tX10_setList 1 9 rfl) (le_i (by omega)) | exact go_reti (at_of tX10_setList 1 9 rfl) (le_i (by first | exact bI_t (by omega) | exact bI_f (by omega)))
      · skip
        refine con_of_go mfX10_setList.1 trivial (Nat.le_of_ble_eq_true rfl) rfl (by decide) ?_
        show Go _ _ _ _ 0 [vA _, vI _, vI _, vI _, vT 9 0, vT 9 0, vT 9 0] [] _ _
        refine go_iload_n (at_of tX10_setList 0 0 rfl) rfl ?_
        refine go_iconst (at_of tX10_setList 0 1 rfl) (by unfold in32; omega) ?_
        refine go_icmp_eq (tgt := 23) (at_of tX10_setList 0 2 rfl) (by decide) (fun h2 => ?_) (fun h2 => ?_)
        · exfalso; omega
        refine go_iload_n (at_of tX10_setList 0 3 rfl) rfl ?_
        refine go_iconst (at_of tX10_setList 0 4 rfl) (by unfold in32; omega) ?_
        refine go_iconst (at_of tX10_setList 0 5 rfl) (by unfold in32; omega) ?_
        refine go_cS (m_in) lk_X10_124 rfl (at_of tX10_setList 0 6 rfl) rfl (by decide) rfl (Nat.le_of_ble_eq_true rfl) rfl (by first | decide | exact ⟨Nat.zero_le _, Nat.zero_le _⟩) ?_
        refine go_if_eq (tgt := 27) (at_of tX10_setList 0 7 rfl) (by decide) (fun h11 => ?_) (fun h11 => ?_)
        · exfalso; exact bI_0.mp h11 q2
        refine go_iload_n (at_of tX10_setList 0 8 rfl) rfl ?_
        refine go_iconst (at_of tX10_setList 0 9 rfl) (by unfold in32; omega) ?_
        refine go_iconst (at_of tX10_setList 0 10 rfl) (by unfold in32; omega) ?_
        refine go_cS (m_in) lk_X10_124 rfl (at_of tX10_setList 0 11 rfl) rfl (by decide) rfl (Nat.le_of_ble_eq_true rfl) rfl (by first | decide | exact ⟨Nat.zero_le _, Nat.zero_le _⟩) ?_
        refine go_if_eq (tgt := 27) (at_of tX10_setList 0 12 rfl) (by decide) (fun h20 => ?_) (fun h20 => ?_)
        rotate_left
        · exfalso; exact q3 (bI_1.mp h20)
        refine go_iconst (at_of tX10_setList 0 15 rfl) (by unfold in32; omega) ?_
        refine go_istore (at_of tX10_setList 1 0 rfl) rfl rfl ?_
        refine go_aload_n (at_of tX10_setList 1 1 rfl) rfl ?_
        refine go_aload_n (at_of tX10_setList 1 2 rfl) rfl ?_
        refine go_iload_n (at_of tX10_setList 1 3 rfl) rfl ?_
        refine go_iload (at_of tX10_setList 1 4 rfl) rfl rfl ?_
        refine go_cV (lf0 (by omega)) lk_X10_232 rfl G_109 (at_of tX10_setList 1 5 rfl) rfl (by decide) rfl (Nat.le_of_ble_eq_true rfl) rfl (by first | decide | exact ⟨Nat.zero_le _, Nat.zero_le _⟩) ?_
        refine go_cV (m_goesOn) lk_X10_141 rfl G_109 (at_of tX10_setList 1 6 rfl) rfl (by decide) rfl (Nat.le_of_ble_eq_true rfl) rfl (by first | decide | exact ⟨Nat.zero_le _, Nat.zero_le _⟩) ?_
        refine go_if_ne (tgt := 46) (at_of tX10_setList 1 7 rfl) (by decide) (fun h41 => ?_) (fun h41 => ?_)
        · exfalso; exact h (bI_1.mp h41)
        refine go_iconst (at_of tX10_setList 1 8 rfl) (by unfold in32; omega) ?_
        first | exact go_reti (at_of tX10_setList 1 9 rfl) rfl | exact go_reti (at_of tX10_setList 1 9 rfl) (le_i (by omega)) | exact go_reti (at_of tX10_setList 1 9 rfl) (le_i (by first | exact bI_t (by omega) | exact bI_f (by omega)))
    · skip
      refine con_of_go mfX10_setList.1 trivial (Nat.le_of_ble_eq_true rfl) rfl (by decide) ?_
      show Go _ _ _ _ 0 [vA _, vI _, vI _, vI _, vT 9 0, vT 9 0, vT 9 0] [] _ _
      refine go_iload_n (at_of tX10_setList 0 0 rfl) rfl ?_
      refine go_iconst (at_of tX10_setList 0 1 rfl) (by unfold in32; omega) ?_
      refine go_icmp_eq (tgt := 23) (at_of tX10_setList 0 2 rfl) (by decide) (fun h2 => ?_) (fun h2 => ?_)
      · exfalso; omega
      refine go_iload_n (at_of tX10_setList 0 3 rfl) rfl ?_
      refine go_iconst (at_of tX10_setList 0 4 rfl) (by unfold in32; omega) ?_
      refine go_iconst (at_of tX10_setList 0 5 rfl) (by unfold in32; omega) ?_
      refine go_cS (m_in) lk_X10_124 rfl (at_of tX10_setList 0 6 rfl) rfl (by decide) rfl (Nat.le_of_ble_eq_true rfl) rfl (by first | decide | exact ⟨Nat.zero_le _, Nat.zero_le _⟩) ?_
      refine go_if_eq (tgt := 27) (at_of tX10_setList 0 7 rfl) (by decide) (fun h11 => ?_) (fun h11 => ?_)
      rotate_left
      · exfalso; exact q2 (bI_1.mp h11)
      refine go_iconst (at_of tX10_setList 0 15 rfl) (by unfold in32; omega) ?_
      refine go_istore (at_of tX10_setList 1 0 rfl) rfl rfl ?_
      refine go_aload_n (at_of tX10_setList 1 1 rfl) rfl ?_
      refine go_aload_n (at_of tX10_setList 1 2 rfl) rfl ?_
      refine go_iload_n (at_of tX10_setList 1 3 rfl) rfl ?_
      refine go_iload (at_of tX10_setList 1 4 rfl) rfl rfl ?_
      refine go_cV (lf0 (by omega)) lk_X10_232 rfl G_109 (at_of tX10_setList 1 5 rfl) rfl (by decide) rfl (Nat.le_of_ble_eq_true rfl) rfl (by first | decide | exact ⟨Nat.zero_le _, Nat.zero_le _⟩) ?_
      refine go_cV (m_goesOn) lk_X10_141 rfl G_109 (at_of tX10_setList 1 6 rfl) rfl (by decide) rfl (Nat.le_of_ble_eq_true rfl) rfl (by first | decide | exact ⟨Nat.zero_le _, Nat.zero_le _⟩) ?_
      refine go_if_ne (tgt := 46) (at_of tX10_setList 1 7 rfl) (by decide) (fun h41 => ?_) (fun h41 => ?_)
      · exfalso; exact h (bI_1.mp h41)
      refine go_iconst (at_of tX10_setList 1 8 rfl) (by unfold in32; omega) ?_
      first | exact go_reti (at_of tX10_setList 1 9 rfl) rfl | exact go_reti (at_of tX10_setList 1 9 rfl) (le_i (by omega)) | exact go_reti (at_of tX10_setList 1 9 rfl) (le_i (by first | exact bI_t (by omega) | exact bI_f (by omega)))
theorem m_setList (hS : Str σ.2.1) {A : PastD} (hM : PastM σ A) (hW : WfB (A.1 A.2.1)) {p l v : Int} (h0 : lfE (A.1 A.2.1) p (decide (l = -1 ∨ ((0 ≤ l ∧ l ≤ 2) ∧ 0 ≤ v ∧ v ≤ 2))) = 0) : ∃ σ', Con 5 mX10_setList 0 0 [vA 109, vI p, vI l, vI v] σ (vI ((A.1 A.2.1).1.1 7 (ixEnd (A.1 A.2.1).1.1 (A.1 A.2.1).1.2.1 p)), σ') ∧ PastM σ' (edA (begA A) (setR (setR (A.1 A.2.1).1 7 (ixEnd (A.1 A.2.1).1.1 (A.1 A.2.1).1.2.1 p) l) 8 (ixEnd (A.1 A.2.1).1.1 (A.1 A.2.1).1.2.1 p) (if l = -1 then 0 else v), (A.1 A.2.1).2)) ∧ FrE σ σ' ∧ σ'.1 109 0 = 0 := by
  obtain ⟨hWm, hl2, h4⟩ := id hW
  obtain ⟨hE, hSg, hMk, hRw⟩ := id hWm
  obtain ⟨e1, e2, e3, e4⟩ := id hE
  have hN := hM.2.2.2.1
  obtain ⟨b1, b2, b3, b4⟩ := id hN.2.2.2
  have hl := hN.2.1.2
  have hcc : σ.1 110 (3011 : Int).toNat = (A.1 A.2.1).2.1.1 := hN.2.1.1
  have lf := m_listFault hS hM hW (p := p) (fine := (decide (l = -1 ∨ ((0 ≤ l ∧ l ≤ 2) ∧ 0 ≤ v ∧ v ≤ 2))))
  have lf1 : l = -1 ∨ ((0 ≤ l ∧ l ≤ 2) ∧ 0 ≤ v ∧ v ≤ 2) → Con 4 mX10_listFault 0 0 [vA 109, vI p, vI 1] σ (vI (lfE (A.1 A.2.1) p (decide (l = -1 ∨ ((0 ≤ l ∧ l ≤ 2) ∧ 0 ≤ v ∧ v ≤ 2)))), σ) := fun q => by
    have z := lf
    rw [bI_t (decide_eq_true q)] at z; exact z
  have lf0 : ¬ (l = -1 ∨ ((0 ≤ l ∧ l ≤ 2) ∧ 0 ≤ v ∧ v ≤ 2)) → Con 4 mX10_listFault 0 0 [vA 109, vI p, vI 0] σ (vI (lfE (A.1 A.2.1) p (decide (l = -1 ∨ ((0 ≤ l ∧ l ≤ 2) ∧ 0 ≤ v ∧ v ≤ 2)))), σ) := fun q => by
    have z := lf
    rw [bI_f (fun y => q (of_decide_eq_true y))] at z; exact z
  have hSt : Str (P1 σ 109 0 0).2.1 := hS
  have hMt : PastM (P1 σ 109 0 0) A := hM.th
  obtain ⟨σ1, x1, x2, x3, x4, x5⟩ := m_edits hSt hMt
  have hS1 : Str σ1.2.1 := by rw [x3.1]; exact hS
  have hN1 : RepN (cN σ1) (A.1 A.2.1) := by
    have := x2.2.2.2.1
    rw [cur_beg] at this; exact this
  have x50 : σ1.1 109 0 = 0 := x5.trans P1_eq
  have fin : ∀ {σ' : St} {D' : PapD}, FrN σ1 σ' → RepN (cN σ') D' → PastM σ' (edA (begA A) D') ∧ FrE σ σ' ∧ σ'.1 109 0 = 0 := fun {σ' D'} hF hD => ⟨hF.past x2 hD, (FrE.th.trans x3).trans hF.e, (hF.2 109 0 (by omega)).trans x50⟩
  have h := (lfE_0 h0).1
  have hfine := of_decide_eq_true (lfE_0 h0).2.1
  rw [h0] at lf1
  obtain ⟨u1, u2, u3, h47⟩ := ixEnd_end e1 ((ixEnd_iff hE).mpr h)
  have me := m_endOfParagraph hS1 hN1.1 hE hSg h.1 h.2
  have m4 := m_at4 hS1 hN1.1 (u := (ixEnd (A.1 A.2.1).1.1 (A.1 A.2.1).1.2.1 p)) ⟨u1, u2, b2⟩ h47
  have N2 := rN_set4 (z := l) hN1.1 (u := (ixEnd (A.1 A.2.1).1.1 (A.1 A.2.1).1.2.1 p)) ⟨u1, u2⟩ b2
  have N3 := rN_set5 (z := if l = -1 then 0 else v) N2 (u := (ixEnd (A.1 A.2.1).1.1 (A.1 A.2.1).1.2.1 p)) ⟨u1, u2⟩ b2
  have RN := (hN1.set ⟨by omega, by omega⟩ N2 ⟨b1, b2⟩).set (j := 10 * (ixEnd (A.1 A.2.1).1.1 (A.1 A.2.1).1.2.1 p) + 5) ⟨by omega, by omega⟩ N3 ⟨b1, b2⟩
  refine ⟨_, ?_, fin (FrN.m1.trans FrN.m1) RN⟩
  by_cases q1 : l = -1
  · rw [if_pos q1]
    refine con_of_go mfX10_setList.1 trivial (Nat.le_of_ble_eq_true rfl) rfl (by decide) ?_
    show Go _ _ _ _ 0 [vA _, vI _, vI _, vI _, vT 9 0, vT 9 0, vT 9 0] [] _ _
    refine go_iload_n (at_of tX10_setList 0 0 rfl) rfl ?_
    refine go_iconst (at_of tX10_setList 0 1 rfl) (by unfold in32; omega) ?_
    refine go_icmp_eq (tgt := 23) (at_of tX10_setList 0 2 rfl) (by decide) (fun h2 => ?_) (fun h2 => ?_)
    rotate_left
    · exfalso; omega
    refine go_iconst (at_of tX10_setList 0 13 rfl) (by unfold in32; omega) ?_
    refine go_goto (tgt := 28) (at_of tX10_setList 0 14 rfl) (by decide) ?_
    refine go_istore (at_of tX10_setList 1 0 rfl) rfl rfl ?_
    refine go_aload_n (at_of tX10_setList 1 1 rfl) rfl ?_
    refine go_aload_n (at_of tX10_setList 1 2 rfl) rfl ?_
    refine go_iload_n (at_of tX10_setList 1 3 rfl) rfl ?_
    refine go_iload (at_of tX10_setList 1 4 rfl) rfl rfl ?_
    refine go_cV (lf1 hfine) lk_X10_232 rfl G_109 (at_of tX10_setList 1 5 rfl) rfl (by decide) rfl (Nat.le_of_ble_eq_true rfl) rfl (by first | decide | exact ⟨Nat.zero_le _, Nat.zero_le _⟩) ?_
    refine go_cV (m_goesOn) lk_X10_141 rfl G_109 (at_of tX10_setList 1 6 rfl) rfl (by decide) rfl (Nat.le_of_ble_eq_true rfl) rfl (by first | decide | exact ⟨Nat.zero_le _, Nat.zero_le _⟩) ?_
    refine go_if_ne (tgt := 46) (at_of tX10_setList 1 7 rfl) (by decide) (fun h41 => ?_) (fun h41 => ?_)
    rotate_left
    · exfalso; exact absurd h41 (by rw [bI_t rfl]; decide)
    refine go_aload_n (at_of tX10_setList 1 10 rfl) rfl ?_
    refine go_cV (x1) lk_X10_166 rfl G_109 (at_of tX10_setList 1 11 rfl) rfl (by decide) rfl (Nat.le_of_ble_eq_true rfl) rfl (by first | decide | exact ⟨Nat.zero_le _, Nat.zero_le _⟩) ?_
    refine go_aload_n (at_of tX10_setList 1 12 rfl) rfl ?_
    refine go_iload_n (at_of tX10_setList 1 13 rfl) rfl ?_
    refine go_cV (me) lk_X10_197 rfl G_109 (at_of tX10_setList 1 14 rfl) rfl (by decide) rfl (Nat.le_of_ble_eq_true rfl) rfl (by first | decide | exact ⟨Nat.zero_le _, Nat.zero_le _⟩) ?_
    refine go_istore (at_of tX10_setList 1 15 rfl) rfl rfl ?_
    refine go_aload_n (at_of tX10_setList 2 0 rfl) rfl ?_
    refine go_iload (at_of tX10_setList 2 1 rfl) rfl rfl ?_
    refine go_iconst (at_of tX10_setList 2 2 rfl) (by unfold in32; omega) ?_
    refine go_cV (m4) lk_X10_106 rfl G_109 (at_of tX10_setList 2 3 rfl) rfl (by decide) rfl (Nat.le_of_ble_eq_true rfl) rfl (by first | decide | exact ⟨Nat.zero_le _, Nat.zero_le _⟩) ?_
    refine go_istore (at_of tX10_setList 2 4 rfl) rfl rfl ?_
    refine go_aload_n (at_of tX10_setList 2 5 rfl) rfl ?_
    refine go_iload (at_of tX10_setList 2 6 rfl) rfl rfl ?_
    refine go_iconst (at_of tX10_setList 2 7 rfl) (by unfold in32; omega) ?_
    refine go_iload_n (at_of tX10_setList 2 8 rfl) rfl ?_
    refine go_cV (m_setAt hS1 (by omega)) lk_X10_99 rfl G_109 (at_of tX10_setList 2 9 rfl) rfl (by decide) rfl (Nat.le_of_ble_eq_true rfl) rfl (by first | decide | exact ⟨Nat.zero_le _, Nat.zero_le _⟩) ?_
    refine go_aload_n (at_of tX10_setList 2 10 rfl) rfl ?_
    refine go_iload (at_of tX10_setList 2 11 rfl) rfl rfl ?_
    refine go_iconst (at_of tX10_setList 2 12 rfl) (by unfold in32; omega) ?_
    refine go_iload_n (at_of tX10_setList 2 13 rfl) rfl ?_
    refine go_iconst (at_of tX10_setList 2 14 rfl) (by unfold in32; omega) ?_
    refine go_icmp_ne (tgt := 87) (at_of tX10_setList 2 15 rfl) (by decide) (fun h80 => ?_) (fun h80 => ?_)
    · exfalso; omega
    refine go_iconst (at_of tX10_setList 3 0 rfl) (by unfold in32; omega) ?_
    refine go_goto (tgt := 88) (at_of tX10_setList 3 1 rfl) (by decide) ?_
    refine go_cV (m_setAt (by exact hS1) (by omega)) lk_X10_99 rfl G_109 (at_of tX10_setList 3 3 rfl) rfl (by decide) rfl (Nat.le_of_ble_eq_true rfl) rfl (by first | decide | exact ⟨Nat.zero_le _, Nat.zero_le _⟩) ?_
    refine go_iload (at_of tX10_setList 3 4 rfl) rfl rfl ?_
    first | exact go_reti (at_of tX10_setList 3 5 rfl) rfl | exact go_reti (at_of tX10_setList 3 5 rfl) (le_i (by omega)) | exact go_reti (at_of tX10_setList 3 5 rfl) (le_i (by first | exact bI_t (by omega) | exact bI_f (by omega)))
  · rw [if_neg q1]
    have q2 := (hfine.resolve_left q1)
    refine con_of_go mfX10_setList.1 trivial (Nat.le_of_ble_eq_true rfl) rfl (by decide) ?_
    show Go _ _ _ _ 0 [vA _, vI _, vI _, vI _, vT 9 0, vT 9 0, vT 9 0] [] _ _
    refine go_iload_n (at_of tX10_setList 0 0 rfl) rfl ?_
    refine go_iconst (at_of tX10_setList 0 1 rfl) (by unfold in32; omega) ?_
    refine go_icmp_eq (tgt := 23) (at_of tX10_setList 0 2 rfl) (by decide) (fun h2 => ?_) (fun h2 => ?_)
    · exfalso; omega
    refine go_iload_n (at_of tX10_setList 0 3 rfl) rfl ?_
    refine go_iconst (at_of tX10_setList 0 4 rfl) (by unfold in32; omega) ?_
    refine go_iconst (at_of tX10_setList 0 5 rfl) (by unfold in32; omega) ?_
    refine go_cS (m_in) lk_X10_124 rfl (at_of tX10_setList 0 6 rfl) rfl (by decide) rfl (Nat.le_of_ble_eq_true rfl) rfl (by first | decide | exact ⟨Nat.zero_le _, Nat.zero_le _⟩) ?_
    refine go_if_eq (tgt := 27) (at_of tX10_setList 0 7 rfl) (by decide) (fun h11 => ?_) (fun h11 => ?_)
    · exfalso; exact bI_0.mp h11 q2.1
    refine go_iload_n (at_of tX10_setList 0 8 rfl) rfl ?_
    refine go_iconst (at_of tX10_setList 0 9 rfl) (by unfold in32; omega) ?_
    refine go_iconst (at_of tX10_setList 0 10 rfl) (by unfold in32; omega) ?_
    refine go_cS (m_in) lk_X10_124 rfl (at_of tX10_setList 0 11 rfl) rfl (by decide) rfl (Nat.le_of_ble_eq_true rfl) rfl (by first | decide | exact ⟨Nat.zero_le _, Nat.zero_le _⟩) ?_
    refine go_if_eq (tgt := 27) (at_of tX10_setList 0 12 rfl) (by decide) (fun h20 => ?_) (fun h20 => ?_)
    · exfalso; exact bI_0.mp h20 q2.2
    refine go_iconst (at_of tX10_setList 0 13 rfl) (by unfold in32; omega) ?_
    refine go_goto (tgt := 28) (at_of tX10_setList 0 14 rfl) (by decide) ?_
    refine go_istore (at_of tX10_setList 1 0 rfl) rfl rfl ?_
    refine go_aload_n (at_of tX10_setList 1 1 rfl) rfl ?_
    refine go_aload_n (at_of tX10_setList 1 2 rfl) rfl ?_
    refine go_iload_n (at_of tX10_setList 1 3 rfl) rfl ?_
    refine go_iload (at_of tX10_setList 1 4 rfl) rfl rfl ?_
    refine go_cV (lf1 hfine) lk_X10_232 rfl G_109 (at_of tX10_setList 1 5 rfl) rfl (by decide) rfl (Nat.le_of_ble_eq_true rfl) rfl (by first | decide | exact ⟨Nat.zero_le _, Nat.zero_le _⟩) ?_
    refine go_cV (m_goesOn) lk_X10_141 rfl G_109 (at_of tX10_setList 1 6 rfl) rfl (by decide) rfl (Nat.le_of_ble_eq_true rfl) rfl (by first | decide | exact ⟨Nat.zero_le _, Nat.zero_le _⟩) ?_
    refine go_if_ne (tgt := 46) (at_of tX10_setList 1 7 rfl) (by decide) (fun h41 => ?_) (fun h41 => ?_)
    rotate_left
    · exfalso; exact absurd h41 (by rw [bI_t rfl]; decide)
    refine go_aload_n (at_of tX10_setList 1 10 rfl) rfl ?_
    refine go_cV (x1) lk_X10_166 rfl G_109 (at_of tX10_setList 1 11 rfl) rfl (by decide) rfl (Nat.le_of_ble_eq_true rfl) rfl (by first | decide | exact ⟨Nat.zero_le _, Nat.zero_le _⟩) ?_
    refine go_aload_n (at_of tX10_setList 1 12 rfl) rfl ?_
    refine go_iload_n (at_of tX10_setList 1 13 rfl) rfl ?_
    refine go_cV (me) lk_X10_197 rfl G_109 (at_of tX10_setList 1 14 rfl) rfl (by decide) rfl (Nat.le_of_ble_eq_true rfl) rfl (by first | decide | exact ⟨Nat.zero_le _, Nat.zero_le _⟩) ?_
    refine go_istore (at_of tX10_setList 1 15 rfl) rfl rfl ?_
    refine go_aload_n (at_of tX10_setList 2 0 rfl) rfl ?_
    refine go_iload (at_of tX10_setList 2 1 rfl) rfl rfl ?_
    refine go_iconst (at_of tX10_setList 2 2 rfl) (by unfold in32; omega) ?_
    refine go_cV (m4) lk_X10_106 rfl G_109 (at_of tX10_setList 2 3 rfl) rfl (by decide) rfl (Nat.le_of_ble_eq_true rfl) rfl (by first | decide | exact ⟨Nat.zero_le _, Nat.zero_le _⟩) ?_
    refine go_istore (at_of tX10_setList 2 4 rfl) rfl rfl ?_
    refine go_aload_n (at_of tX10_setList 2 5 rfl) rfl ?_
    refine go_iload (at_of tX10_setList 2 6 rfl) rfl rfl ?_
    refine go_iconst (at_of tX10_setList 2 7 rfl) (by unfold in32; omega) ?_
    refine go_iload_n (at_of tX10_setList 2 8 rfl) rfl ?_
    refine go_cV (m_setAt hS1 (by omega)) lk_X10_99 rfl G_109 (at_of tX10_setList 2 9 rfl) rfl (by decide) rfl (Nat.le_of_ble_eq_true rfl) rfl (by first | decide | exact ⟨Nat.zero_le _, Nat.zero_le _⟩) ?_
    refine go_aload_n (at_of tX10_setList 2 10 rfl) rfl ?_
    refine go_iload (at_of tX10_setList 2 11 rfl) rfl rfl ?_
    refine go_iconst (at_of tX10_setList 2 12 rfl) (by unfold in32; omega) ?_
    refine go_iload_n (at_of tX10_setList 2 13 rfl) rfl ?_
    refine go_iconst (at_of tX10_setList 2 14 rfl) (by unfold in32; omega) ?_
    refine go_icmp_ne (tgt := 87) (at_of tX10_setList 2 15 rfl) (by decide) (fun h80 => ?_) (fun h80 => ?_)
    rotate_left
    · exfalso; omega
    refine go_iload_n (at_of tX10_setList 3 2 rfl) rfl ?_
    refine go_cV (m_setAt (by exact hS1) (by omega)) lk_X10_99 rfl G_109 (at_of tX10_setList 3 3 rfl) rfl (by decide) rfl (Nat.le_of_ble_eq_true rfl) rfl (by first | decide | exact ⟨Nat.zero_le _, Nat.zero_le _⟩) ?_
    refine go_iload (at_of tX10_setList 3 4 rfl) rfl rfl ?_
    first | exact go_reti (at_of tX10_setList 3 5 rfl) rfl | exact go_reti (at_of tX10_setList 3 5 rfl) (le_i (by omega)) | exact go_reti (at_of tX10_setList 3 5 rfl) (le_i (by first | exact bI_t (by omega) | exact bI_f (by omega)))
theorem m_setBookmark_1 (hS : Str σ.2.1) {A : PastD} (hM : PastM σ A) (hW : WfB (A.1 A.2.1)) {b p z : Int} (h : ¬ ((0 ≤ b ∧ b ≤ 5) ∧ (0 ≤ p ∧ p ≤ plOf (A.1 A.2.1).1.1 (A.1 A.2.1).1.2.1 (A.1 A.2.1).1.2.1) ∧ (0 ≤ z ∧ z ≤ plOf (A.1 A.2.1).1.1 (A.1 A.2.1).1.2.1 (A.1 A.2.1).1.2.1))) : Con 4 mX10_setBookmark 0 0 [vA 109, vI b, vI p, vI z] σ (vI 0, P1 σ 109 0 1) := by
  obtain ⟨hWm, hl2, h4⟩ := id hW
  obtain ⟨hE, hSg, hMk, hRw⟩ := id hWm
  obtain ⟨e1, e2, e3, e4⟩ := id hE
  have hN := hM.2.2.2.1
  obtain ⟨b1, b2, b3, b4⟩ := id hN.2.2.2
  have hl := hN.2.1.2
  have hcc : σ.1 110 (3011 : Int).toNat = (A.1 A.2.1).2.1.1 := hN.2.1.1
  by_cases q1 : 0 ≤ b ∧ b ≤ 5
  · by_cases q2 : 0 ≤ p ∧ p ≤ plOf (A.1 A.2.1).1.1 (A.1 A.2.1).1.2.1 (A.1 A.2.1).1.2.1
    · have q3 : ¬ (0 ≤ z ∧ z ≤ plOf (A.1 A.2.1).1.1 (A.1 A.2.1).1.2.1 (A.1 A.2.1).1.2.1) := fun q => h ⟨q1, q2, q⟩
      refine con_of_go mfX10_setBookmark.1 trivial (Nat.le_of_ble_eq_true rfl) rfl (by decide) ?_
      show Go _ _ _ _ 0 [vA _, vI _, vI _, vI _] [] _ _
      refine go_aload_n (at_of tX10_setBookmark 0 0 rfl) rfl ?_
      refine go_iload_n (at_of tX10_setBookmark 0 1 rfl) rfl ?_
      refine go_cS (m_isBookmark) lk_X10_184 rfl (at_of tX10_setBookmark 0 2 rfl) rfl (by decide) rfl (Nat.le_of_ble_eq_true rfl) rfl (by first | decide | exact ⟨Nat.zero_le _, Nat.zero_le _⟩) ?_
      refine go_if_eq (tgt := 24) (at_of tX10_setBookmark 0 3 rfl) (by decide) (fun h5 => ?_) (fun h5 => ?_)
      · exfalso; exact bI_0.mp h5 q1
      refine go_aload_n (at_of tX10_setBookmark 0 4 rfl) rfl ?_
      refine go_iload_n (at_of tX10_setBookmark 0 5 rfl) rfl ?_
      refine go_cV (m_isPlace hS hN.1 hE hSg) lk_X10_154 rfl G_109 (at_of tX10_setBookmark 0 6 rfl) rfl (by decide) rfl (Nat.le_of_ble_eq_true rfl) rfl (by first | decide | exact ⟨Nat.zero_le _, Nat.zero_le _⟩) ?_
      refine go_if_eq (tgt := 24) (at_of tX10_setBookmark 0 7 rfl) (by decide) (fun h13 => ?_) (fun h13 => ?_)
      · exfalso; exact bI_0.mp h13 q2
      refine go_aload_n (at_of tX10_setBookmark 0 8 rfl) rfl ?_
      refine go_iload_n (at_of tX10_setBookmark 0 9 rfl) rfl ?_
      refine go_cV (m_isPlace hS hN.1 hE hSg) lk_X10_154 rfl G_109 (at_of tX10_setBookmark 0 10 rfl) rfl (by decide) rfl (Nat.le_of_ble_eq_true rfl) rfl (by first | decide | exact ⟨Nat.zero_le _, Nat.zero_le _⟩) ?_
      refine go_if_ne (tgt := 28) (at_of tX10_setBookmark 0 11 rfl) (by decide) (fun h21 => ?_) (fun h21 => ?_)
      · exfalso; exact q3 (bI_1.mp h21)
      refine go_iconst (at_of tX10_setBookmark 0 12 rfl) (by unfold in32; omega) ?_
      refine go_goto (tgt := 38) (at_of tX10_setBookmark 0 13 rfl) (by decide) ?_
      refine go_cV (m_goesOn) lk_X10_141 rfl G_109 (at_of tX10_setBookmark 1 4 rfl) rfl (by decide) rfl (Nat.le_of_ble_eq_true rfl) rfl (by first | decide | exact ⟨Nat.zero_le _, Nat.zero_le _⟩) ?_
      refine go_if_ne (tgt := 46) (at_of tX10_setBookmark 1 5 rfl) (by decide) (fun h41 => ?_) (fun h41 => ?_)
      · exfalso; exact h41 (bI_f (by decide))
      refine go_iconst (at_of tX10_setBookmark 1 6 rfl) (by unfold in32; omega) ?_
      first | exact go_reti (at_of tX10_setBookmark 1 7 rfl) rfl | exact go_reti (at_of tX10_setBookmark 1 7 rfl) (le_i (by omega)) | exact go_reti (at_of tX10_setBookmark 1 7 rfl) (le_i (by first | exact bI_t (by omega) | exact bI_f (by omega)))
    · skip
      refine con_of_go mfX10_setBookmark.1 trivial (Nat.le_of_ble_eq_true rfl) rfl (by decide) ?_
      show Go _ _ _ _ 0 [vA _, vI _, vI _, vI _] [] _ _
      refine go_aload_n (at_of tX10_setBookmark 0 0 rfl) rfl ?_
      refine go_iload_n (at_of tX10_setBookmark 0 1 rfl) rfl ?_
      refine go_cS (m_isBookmark) lk_X10_184 rfl (at_of tX10_setBookmark 0 2 rfl) rfl (by decide) rfl (Nat.le_of_ble_eq_true rfl) rfl (by first | decide | exact ⟨Nat.zero_le _, Nat.zero_le _⟩) ?_
      refine go_if_eq (tgt := 24) (at_of tX10_setBookmark 0 3 rfl) (by decide) (fun h5 => ?_) (fun h5 => ?_)
      · exfalso; exact bI_0.mp h5 q1
      refine go_aload_n (at_of tX10_setBookmark 0 4 rfl) rfl ?_
      refine go_iload_n (at_of tX10_setBookmark 0 5 rfl) rfl ?_
      refine go_cV (m_isPlace hS hN.1 hE hSg) lk_X10_154 rfl G_109 (at_of tX10_setBookmark 0 6 rfl) rfl (by decide) rfl (Nat.le_of_ble_eq_true rfl) rfl (by first | decide | exact ⟨Nat.zero_le _, Nat.zero_le _⟩) ?_
      refine go_if_eq (tgt := 24) (at_of tX10_setBookmark 0 7 rfl) (by decide) (fun h13 => ?_) (fun h13 => ?_)
      rotate_left
      · exfalso; exact q2 (bI_1.mp h13)
      refine go_iconst (at_of tX10_setBookmark 0 12 rfl) (by unfold in32; omega) ?_
      refine go_goto (tgt := 38) (at_of tX10_setBookmark 0 13 rfl) (by decide) ?_
      refine go_cV (m_goesOn) lk_X10_141 rfl G_109 (at_of tX10_setBookmark 1 4 rfl) rfl (by decide) rfl (Nat.le_of_ble_eq_true rfl) rfl (by first | decide | exact ⟨Nat.zero_le _, Nat.zero_le _⟩) ?_
      refine go_if_ne (tgt := 46) (at_of tX10_setBookmark 1 5 rfl) (by decide) (fun h41 => ?_) (fun h41 => ?_)
      · exfalso; exact h41 (bI_f (by decide))
      refine go_iconst (at_of tX10_setBookmark 1 6 rfl) (by unfold in32; omega) ?_
      first | exact go_reti (at_of tX10_setBookmark 1 7 rfl) rfl | exact go_reti (at_of tX10_setBookmark 1 7 rfl) (le_i (by omega)) | exact go_reti (at_of tX10_setBookmark 1 7 rfl) (le_i (by first | exact bI_t (by omega) | exact bI_f (by omega)))
  · skip
    refine con_of_go mfX10_setBookmark.1 trivial (Nat.le_of_ble_eq_true rfl) rfl (by decide) ?_
    show Go _ _ _ _ 0 [vA _, vI _, vI _, vI _] [] _ _
    refine go_aload_n (at_of tX10_setBookmark 0 0 rfl) rfl ?_
    refine go_iload_n (at_of tX10_setBookmark 0 1 rfl) rfl ?_
    refine go_cS (m_isBookmark) lk_X10_184 rfl (at_of tX10_setBookmark 0 2 rfl) rfl (by decide) rfl (Nat.le_of_ble_eq_true rfl) rfl (by first | decide | exact ⟨Nat.zero_le _, Nat.zero_le _⟩) ?_
    refine go_if_eq (tgt := 24) (at_of tX10_setBookmark 0 3 rfl) (by decide) (fun h5 => ?_) (fun h5 => ?_)
    rotate_left
    · exfalso; exact q1 (bI_1.mp h5)
    refine go_iconst (at_of tX10_setBookmark 0 12 rfl) (by unfold in32; omega) ?_
    refine go_goto (tgt := 38) (at_of tX10_setBookmark 0 13 rfl) (by decide) ?_
    refine go_cV (m_goesOn) lk_X10_141 rfl G_109 (at_of tX10_setBookmark 1 4 rfl) rfl (by decide) rfl (Nat.le_of_ble_eq_true rfl) rfl (by first | decide | exact ⟨Nat.zero_le _, Nat.zero_le _⟩) ?_
    refine go_if_ne (tgt := 46) (at_of tX10_setBookmark 1 5 rfl) (by decide) (fun h41 => ?_) (fun h41 => ?_)
    · exfalso; exact h41 (bI_f (by decide))
    refine go_iconst (at_of tX10_setBookmark 1 6 rfl) (by unfold in32; omega) ?_
    first | exact go_reti (at_of tX10_setBookmark 1 7 rfl) rfl | exact go_reti (at_of tX10_setBookmark 1 7 rfl) (le_i (by omega)) | exact go_reti (at_of tX10_setBookmark 1 7 rfl) (le_i (by first | exact bI_t (by omega) | exact bI_f (by omega)))
theorem m_setBookmark_2 (hS : Str σ.2.1) {A : PastD} (hM : PastM σ A) (hW : WfB (A.1 A.2.1)) {b p z : Int} (h : (0 ≤ b ∧ b ≤ 5) ∧ (0 ≤ p ∧ p ≤ plOf (A.1 A.2.1).1.1 (A.1 A.2.1).1.2.1 (A.1 A.2.1).1.2.1) ∧ (0 ≤ z ∧ z ≤ plOf (A.1 A.2.1).1.1 (A.1 A.2.1).1.2.1 (A.1 A.2.1).1.2.1)) (h2 : z < p) : Con 4 mX10_setBookmark 0 0 [vA 109, vI b, vI p, vI z] σ (vI 0, P1 σ 109 0 2) := by
  obtain ⟨hWm, hl2, h4⟩ := id hW
  obtain ⟨hE, hSg, hMk, hRw⟩ := id hWm
  obtain ⟨e1, e2, e3, e4⟩ := id hE
  have hN := hM.2.2.2.1
  obtain ⟨b1, b2, b3, b4⟩ := id hN.2.2.2
  have hl := hN.2.1.2
  have hcc : σ.1 110 (3011 : Int).toNat = (A.1 A.2.1).2.1.1 := hN.2.1.1
  refine con_of_go mfX10_setBookmark.1 trivial (Nat.le_of_ble_eq_true rfl) rfl (by decide) ?_
  show Go _ _ _ _ 0 [vA _, vI _, vI _, vI _] [] _ _
  refine go_aload_n (at_of tX10_setBookmark 0 0 rfl) rfl ?_
  refine go_iload_n (at_of tX10_setBookmark 0 1 rfl) rfl ?_
  refine go_cS (m_isBookmark) lk_X10_184 rfl (at_of tX10_setBookmark 0 2 rfl) rfl (by decide) rfl (Nat.le_of_ble_eq_true rfl) rfl (by first | decide | exact ⟨Nat.zero_le _, Nat.zero_le _⟩) ?_
  refine go_if_eq (tgt := 24) (at_of tX10_setBookmark 0 3 rfl) (by decide) (fun h5 => ?_) (fun h5 => ?_)
  · exfalso; exact bI_0.mp h5 h.1
  refine go_aload_n (at_of tX10_setBookmark 0 4 rfl) rfl ?_
  refine go_iload_n (at_of tX10_setBookmark 0 5 rfl) rfl ?_
  refine go_cV (m_isPlace hS hN.1 hE hSg) lk_X10_154 rfl G_109 (at_of tX10_setBookmark 0 6 rfl) rfl (by decide) rfl (Nat.le_of_ble_eq_true rfl) rfl (by first | decide | exact ⟨Nat.zero_le _, Nat.zero_le _⟩) ?_
  refine go_if_eq (tgt := 24) (at_of tX10_setBookmark 0 7 rfl) (by decide) (fun h13 => ?_) (fun h13 => ?_)
  · exfalso; exact bI_0.mp h13 h.2.1
  refine go_aload_n (at_of tX10_setBookmark 0 8 rfl) rfl ?_
  refine go_iload_n (at_of tX10_setBookmark 0 9 rfl) rfl ?_
  refine go_cV (m_isPlace hS hN.1 hE hSg) lk_X10_154 rfl G_109 (at_of tX10_setBookmark 0 10 rfl) rfl (by decide) rfl (Nat.le_of_ble_eq_true rfl) rfl (by first | decide | exact ⟨Nat.zero_le _, Nat.zero_le _⟩) ?_
  refine go_if_ne (tgt := 28) (at_of tX10_setBookmark 0 11 rfl) (by decide) (fun h21 => ?_) (fun h21 => ?_)
  rotate_left
  · exfalso; exact bI_0.mp h21 h.2.2
  refine go_iload_n (at_of tX10_setBookmark 0 14 rfl) rfl ?_
  refine go_iload_n (at_of tX10_setBookmark 0 15 rfl) rfl ?_
  refine go_icmp_ge (tgt := 37) (at_of tX10_setBookmark 1 0 rfl) (by decide) (fun h30 => ?_) (fun h30 => ?_)
  · exfalso; omega
  refine go_iconst (at_of tX10_setBookmark 1 1 rfl) (by unfold in32; omega) ?_
  refine go_goto (tgt := 38) (at_of tX10_setBookmark 1 2 rfl) (by decide) ?_
  refine go_cV (m_goesOn) lk_X10_141 rfl G_109 (at_of tX10_setBookmark 1 4 rfl) rfl (by decide) rfl (Nat.le_of_ble_eq_true rfl) rfl (by first | decide | exact ⟨Nat.zero_le _, Nat.zero_le _⟩) ?_
  refine go_if_ne (tgt := 46) (at_of tX10_setBookmark 1 5 rfl) (by decide) (fun h41 => ?_) (fun h41 => ?_)
  · exfalso; exact h41 (bI_f (by decide))
  refine go_iconst (at_of tX10_setBookmark 1 6 rfl) (by unfold in32; omega) ?_
  first | exact go_reti (at_of tX10_setBookmark 1 7 rfl) rfl | exact go_reti (at_of tX10_setBookmark 1 7 rfl) (le_i (by omega)) | exact go_reti (at_of tX10_setBookmark 1 7 rfl) (le_i (by first | exact bI_t (by omega) | exact bI_f (by omega)))
theorem m_setBookmark (hS : Str σ.2.1) {A : PastD} (hM : PastM σ A) (hW : WfB (A.1 A.2.1)) {b p z : Int} (h : (0 ≤ b ∧ b ≤ 5) ∧ (0 ≤ p ∧ p ≤ plOf (A.1 A.2.1).1.1 (A.1 A.2.1).1.2.1 (A.1 A.2.1).1.2.1) ∧ (0 ≤ z ∧ z ≤ plOf (A.1 A.2.1).1.1 (A.1 A.2.1).1.2.1 (A.1 A.2.1).1.2.1)) (h2 : p ≤ z) : ∃ σ', Con 4 mX10_setBookmark 0 0 [vA 109, vI b, vI p, vI z] σ (vI (z - p), σ') ∧ PastM σ' (edA (begA A) (bmkR (A.1 A.2.1).1 b (ixOf (A.1 A.2.1).1.1 (A.1 A.2.1).1.2.1 p) (ixOf (A.1 A.2.1).1.1 (A.1 A.2.1).1.2.1 z), (A.1 A.2.1).2)) ∧ FrE σ σ' ∧ σ'.1 109 0 = 0 := by
  obtain ⟨hWm, hl2, h4⟩ := id hW
  obtain ⟨hE, hSg, hMk, hRw⟩ := id hWm
  obtain ⟨e1, e2, e3, e4⟩ := id hE
  have hN := hM.2.2.2.1
  obtain ⟨b1, b2, b3, b4⟩ := id hN.2.2.2
  have hl := hN.2.1.2
  have hcc : σ.1 110 (3011 : Int).toNat = (A.1 A.2.1).2.1.1 := hN.2.1.1
  have hSt : Str (P1 σ 109 0 0).2.1 := hS
  have hMt : PastM (P1 σ 109 0 0) A := hM.th
  obtain ⟨σ1, x1, x2, x3, x4, x5⟩ := m_edits hSt hMt
  have hS1 : Str σ1.2.1 := by rw [x3.1]; exact hS
  have hN1 : RepN (cN σ1) (A.1 A.2.1) := by
    have := x2.2.2.2.1
    rw [cur_beg] at this; exact this
  have x50 : σ1.1 109 0 = 0 := x5.trans P1_eq
  have fin : ∀ {σ' : St} {D' : PapD}, FrN σ1 σ' → RepN (cN σ') D' → PastM σ' (edA (begA A) D') ∧ FrE σ σ' ∧ σ'.1 109 0 = 0 := fun {σ' D'} hF hD => ⟨hF.past x2 hD, (FrE.th.trans x3).trans hF.e, (hF.2 109 0 (by omega)).trans x50⟩
  have pl := (plOf_le (F := (A.1 A.2.1).1.1) (n := (A.1 A.2.1).1.2.1) (i := (A.1 A.2.1).1.2.1)).2 e1
  obtain ⟨u1, u2, u3, u4⟩ := place_ix hE h.2.1.1 h.2.1.2
  obtain ⟨v1, v2, v3, v4⟩ := place_ix hE h.2.2.1 h.2.2.2
  have mu := m_unitOf hS1 hN1.1 hE hSg h.2.1.1 h.2.1.2
  have N2 : RepNr (cN (M1 (M1 σ1 110 (3193 + b) (ixOf (A.1 A.2.1).1.1 (A.1 A.2.1).1.2.1 p)) 110 (3199 + b) (ixOf (A.1 A.2.1).1.1 (A.1 A.2.1).1.2.1 z))) (bmkR (A.1 A.2.1).1 b (ixOf (A.1 A.2.1).1.1 (A.1 A.2.1).1.2.1 p) (ixOf (A.1 A.2.1).1.1 (A.1 A.2.1).1.2.1 z)) := by
    have cm : ∀ x, 0 ≤ x → cN (M1 (M1 σ1 110 (3193 + b) (ixOf (A.1 A.2.1).1.1 (A.1 A.2.1).1.2.1 p)) 110 (3199 + b) (ixOf (A.1 A.2.1).1.1 (A.1 A.2.1).1.2.1 z)) x = if x = 3199 + b then (ixOf (A.1 A.2.1).1.1 (A.1 A.2.1).1.2.1 z) else if x = 3193 + b then (ixOf (A.1 A.2.1).1.1 (A.1 A.2.1).1.2.1 p) else cN σ1 x := fun x hx => by
      rw [cN_M1 (by omega) hx, cN_M1 (by omega) hx]
    obtain ⟨r1, r2, r3, r4⟩ := hN1.1
    refine ⟨by rw [cm _ (by omega), if_neg (by omega), if_neg (by omega)]; exact r1, fun i i0 i1 => ?_, fun i i0 i1 i2 => ?_, fun x x0 x1 => ?_⟩
    · have i1 : i ≤ (A.1 A.2.1).1.2.1 := i1
      rw [cm _ (by omega), cm _ (by omega), cm _ (by omega), cm _ (by omega), if_neg (by omega), if_neg (by omega), if_neg (by omega), if_neg (by omega), if_neg (by omega), if_neg (by omega), if_neg (by omega), if_neg (by omega)]
      exact r2 i i0 i1
    · have i1 : i ≤ (A.1 A.2.1).1.2.1 := i1
      rw [cm _ (by omega), cm _ (by omega), cm _ (by omega), cm _ (by omega), cm _ (by omega), cm _ (by omega), if_neg (by omega), if_neg (by omega), if_neg (by omega), if_neg (by omega), if_neg (by omega), if_neg (by omega), if_neg (by omega), if_neg (by omega), if_neg (by omega), if_neg (by omega), if_neg (by omega), if_neg (by omega)]
      exact r3 i i0 i1 i2
    · rw [cm _ (by omega), cm _ (by omega)]
      show _ = (if x = b then _ else _) ∧ _ = (if x = b then _ else _)
      by_cases hx : x = b
      · rw [if_pos hx, if_pos hx, if_neg (by omega), if_pos (by omega), if_pos (by omega)]; exact ⟨rfl, rfl⟩
      · rw [if_neg hx, if_neg hx, if_neg (by omega), if_neg (by omega), if_neg (by omega), if_neg (by omega)]; exact r4 x x0 x1
  have N3 : RepNr (cN (M1 σ1 110 (3193 + b) (ixOf (A.1 A.2.1).1.1 (A.1 A.2.1).1.2.1 p))) ((A.1 A.2.1).1.1, (A.1 A.2.1).1.2.1, updZ (A.1 A.2.1).1.2.2.1 b (ixOf (A.1 A.2.1).1.1 (A.1 A.2.1).1.2.1 p), (A.1 A.2.1).1.2.2.2) := by
    have cm : ∀ x, 0 ≤ x → cN (M1 σ1 110 (3193 + b) (ixOf (A.1 A.2.1).1.1 (A.1 A.2.1).1.2.1 p)) x = if x = 3193 + b then (ixOf (A.1 A.2.1).1.1 (A.1 A.2.1).1.2.1 p) else cN σ1 x := fun x hx => cN_M1 (by omega) hx
    obtain ⟨r1, r2, r3, r4⟩ := hN1.1
    refine ⟨by rw [cm _ (by omega), if_neg (by omega)]; exact r1, fun i i0 i1 => ?_, fun i i0 i1 i2 => ?_, fun x x0 x1 => ?_⟩
    · have i1 : i ≤ (A.1 A.2.1).1.2.1 := i1
      rw [cm _ (by omega), cm _ (by omega), cm _ (by omega), cm _ (by omega), if_neg (by omega), if_neg (by omega), if_neg (by omega), if_neg (by omega)]
      exact r2 i i0 i1
    · have i1 : i ≤ (A.1 A.2.1).1.2.1 := i1
      rw [cm _ (by omega), cm _ (by omega), cm _ (by omega), cm _ (by omega), cm _ (by omega), cm _ (by omega), if_neg (by omega), if_neg (by omega), if_neg (by omega), if_neg (by omega), if_neg (by omega), if_neg (by omega)]
      exact r3 i i0 i1 i2
    · rw [cm _ (by omega), cm _ (by omega)]
      show _ = (if x = b then _ else _) ∧ _ = _
      by_cases hx : x = b
      · rw [if_pos hx, if_pos (by omega), if_neg (by omega)]; exact ⟨rfl, (r4 x x0 x1).2⟩
      · rw [if_neg hx, if_neg (by omega), if_neg (by omega)]; exact r4 x x0 x1
  have mv := m_unitOf (σ := M1 σ1 110 (3193 + b) (ixOf (A.1 A.2.1).1.1 (A.1 A.2.1).1.2.1 p)) hS1 N3 hE hSg (p := z) h.2.2.1 h.2.2.2
  have RN := hN1.row N2 ⟨b1, b2⟩ (fun x hx => by rw [cN_M1 (by omega) (by omega), if_neg (by omega), cN_M1 (by omega) (by omega), if_neg (by omega)])
  refine ⟨_, ?_, fin (FrN.m1.trans FrN.m1) RN⟩
  refine con_of_go mfX10_setBookmark.1 trivial (Nat.le_of_ble_eq_true rfl) rfl (by decide) ?_
  show Go _ _ _ _ 0 [vA _, vI _, vI _, vI _] [] _ _
  refine go_aload_n (at_of tX10_setBookmark 0 0 rfl) rfl ?_
  refine go_iload_n (at_of tX10_setBookmark 0 1 rfl) rfl ?_
  refine go_cS (m_isBookmark) lk_X10_184 rfl (at_of tX10_setBookmark 0 2 rfl) rfl (by decide) rfl (Nat.le_of_ble_eq_true rfl) rfl (by first | decide | exact ⟨Nat.zero_le _, Nat.zero_le _⟩) ?_
  refine go_if_eq (tgt := 24) (at_of tX10_setBookmark 0 3 rfl) (by decide) (fun h5 => ?_) (fun h5 => ?_)
  · exfalso; exact bI_0.mp h5 h.1
  refine go_aload_n (at_of tX10_setBookmark 0 4 rfl) rfl ?_
  refine go_iload_n (at_of tX10_setBookmark 0 5 rfl) rfl ?_
  refine go_cV (m_isPlace hS hN.1 hE hSg) lk_X10_154 rfl G_109 (at_of tX10_setBookmark 0 6 rfl) rfl (by decide) rfl (Nat.le_of_ble_eq_true rfl) rfl (by first | decide | exact ⟨Nat.zero_le _, Nat.zero_le _⟩) ?_
  refine go_if_eq (tgt := 24) (at_of tX10_setBookmark 0 7 rfl) (by decide) (fun h13 => ?_) (fun h13 => ?_)
  · exfalso; exact bI_0.mp h13 h.2.1
  refine go_aload_n (at_of tX10_setBookmark 0 8 rfl) rfl ?_
  refine go_iload_n (at_of tX10_setBookmark 0 9 rfl) rfl ?_
  refine go_cV (m_isPlace hS hN.1 hE hSg) lk_X10_154 rfl G_109 (at_of tX10_setBookmark 0 10 rfl) rfl (by decide) rfl (Nat.le_of_ble_eq_true rfl) rfl (by first | decide | exact ⟨Nat.zero_le _, Nat.zero_le _⟩) ?_
  refine go_if_ne (tgt := 28) (at_of tX10_setBookmark 0 11 rfl) (by decide) (fun h21 => ?_) (fun h21 => ?_)
  rotate_left
  · exfalso; exact bI_0.mp h21 h.2.2
  refine go_iload_n (at_of tX10_setBookmark 0 14 rfl) rfl ?_
  refine go_iload_n (at_of tX10_setBookmark 0 15 rfl) rfl ?_
  refine go_icmp_ge (tgt := 37) (at_of tX10_setBookmark 1 0 rfl) (by decide) (fun h30 => ?_) (fun h30 => ?_)
  rotate_left
  · exfalso; omega
  refine go_iconst (at_of tX10_setBookmark 1 3 rfl) (by unfold in32; omega) ?_
  refine go_cV (m_goesOn) lk_X10_141 rfl G_109 (at_of tX10_setBookmark 1 4 rfl) rfl (by decide) rfl (Nat.le_of_ble_eq_true rfl) rfl (by first | decide | exact ⟨Nat.zero_le _, Nat.zero_le _⟩) ?_
  refine go_if_ne (tgt := 46) (at_of tX10_setBookmark 1 5 rfl) (by decide) (fun h41 => ?_) (fun h41 => ?_)
  rotate_left
  · exfalso; exact absurd h41 (by rw [bI_t rfl]; decide)
  refine go_aload_n (at_of tX10_setBookmark 1 8 rfl) rfl ?_
  refine go_cV (x1) lk_X10_166 rfl G_109 (at_of tX10_setBookmark 1 9 rfl) rfl (by decide) rfl (Nat.le_of_ble_eq_true rfl) rfl (by first | decide | exact ⟨Nat.zero_le _, Nat.zero_le _⟩) ?_
  refine go_aload_n (at_of tX10_setBookmark 1 10 rfl) rfl ?_
  refine go_getr (q := 110) fl_X10_7 rfl G_109 (by first | exact (hS _ _ rfl).trans rfl | exact (hS1 _ _ rfl).trans rfl | exact (hS2 _ _ rfl).trans rfl | exact (hS3 _ _ rfl).trans rfl | exact (hS4 _ _ rfl).trans rfl) (at_of tX10_setBookmark 1 11 rfl) ?_
  refine go_sipush (at_of tX10_setBookmark 1 12 rfl) (by decide) ?_
  refine go_iload_n (at_of tX10_setBookmark 1 13 rfl) rfl ?_
  refine go_iadd (at_of tX10_setBookmark 1 14 rfl) (by unfold in32; omega) ?_
  refine go_aload_n (at_of tX10_setBookmark 1 15 rfl) rfl ?_
  refine go_iload_n (at_of tX10_setBookmark 2 0 rfl) rfl ?_
  refine go_cV (mu) lk_X10_157 rfl G_109 (at_of tX10_setBookmark 2 1 rfl) rfl (by decide) rfl (Nat.le_of_ble_eq_true rfl) rfl (by first | decide | exact ⟨Nat.zero_le _, Nat.zero_le _⟩) ?_
  refine go_iast1 G_110 (by omega) (by omega) (at_of tX10_setBookmark 2 2 rfl) ?_
  refine go_aload_n (at_of tX10_setBookmark 2 3 rfl) rfl ?_
  refine go_getr (q := 110) fl_X10_7 rfl G_109 (by first | exact (hS _ _ rfl).trans rfl | exact (hS1 _ _ rfl).trans rfl | exact (hS2 _ _ rfl).trans rfl | exact (hS3 _ _ rfl).trans rfl | exact (hS4 _ _ rfl).trans rfl) (at_of tX10_setBookmark 2 4 rfl) ?_
  refine go_sipush (at_of tX10_setBookmark 2 5 rfl) (by decide) ?_
  refine go_iload_n (at_of tX10_setBookmark 2 6 rfl) rfl ?_
  refine go_iadd (at_of tX10_setBookmark 2 7 rfl) (by unfold in32; omega) ?_
  refine go_aload_n (at_of tX10_setBookmark 2 8 rfl) rfl ?_
  refine go_iload_n (at_of tX10_setBookmark 2 9 rfl) rfl ?_
  refine go_cV (mv) lk_X10_157 rfl G_109 (at_of tX10_setBookmark 2 10 rfl) rfl (by decide) rfl (Nat.le_of_ble_eq_true rfl) rfl (by first | decide | exact ⟨Nat.zero_le _, Nat.zero_le _⟩) ?_
  refine go_iast1 G_110 (by omega) (by omega) (at_of tX10_setBookmark 2 11 rfl) ?_
  refine go_iload_n (at_of tX10_setBookmark 2 12 rfl) rfl ?_
  refine go_iload_n (at_of tX10_setBookmark 2 13 rfl) rfl ?_
  refine go_isub (at_of tX10_setBookmark 2 14 rfl) (by unfold in32; omega) ?_
  first | exact go_reti (at_of tX10_setBookmark 2 15 rfl) rfl | exact go_reti (at_of tX10_setBookmark 2 15 rfl) (le_i (by omega)) | exact go_reti (at_of tX10_setBookmark 2 15 rfl) (le_i (by first | exact bI_t (by omega) | exact bI_f (by omega)))
theorem m_judged_1 (hS : Str σ.2.1) {A : PastD} (hM : PastM σ A) (hW : WfB (A.1 A.2.1)) {c : Int} {acc : Bool} (h : ¬ (0 ≤ c ∧ c < (A.1 A.2.1).2.1.1)) : Con 3 mX10_judged 0 0 [vA 109, vI c, vI (bI (acc = true))] σ (vI 0, P1 σ 109 0 1) := by
  obtain ⟨hWm, hl2, h4⟩ := id hW
  obtain ⟨hE, hSg, hMk, hRw⟩ := id hWm
  obtain ⟨e1, e2, e3, e4⟩ := id hE
  have hN := hM.2.2.2.1
  obtain ⟨b1, b2, b3, b4⟩ := id hN.2.2.2
  have hl := hN.2.1.2
  have hcc : σ.1 110 (3011 : Int).toNat = (A.1 A.2.1).2.1.1 := hN.2.1.1
  refine con_of_go mfX10_judged.1 trivial (Nat.le_of_ble_eq_true rfl) rfl (by decide) ?_
  show Go _ _ _ _ 0 [vA _, vI _, vI _] [] _ _
  refine go_aload_n (at_of tX10_judged 0 0 rfl) rfl ?_
  refine go_aload_n (at_of tX10_judged 0 1 rfl) rfl ?_
  refine go_iload_n (at_of tX10_judged 0 2 rfl) rfl ?_
  refine go_cV (m_isChange hS hN hWm) lk_X10_219 rfl G_109 (at_of tX10_judged 0 3 rfl) rfl (by decide) rfl (Nat.le_of_ble_eq_true rfl) rfl (by first | decide | exact ⟨Nat.zero_le _, Nat.zero_le _⟩) ?_
  refine go_if_ne (tgt := 13) (at_of tX10_judged 0 4 rfl) (by decide) (fun h6 => ?_) (fun h6 => ?_)
  · exfalso; exact h (bI_1.mp h6)
  refine go_iconst (at_of tX10_judged 0 5 rfl) (by unfold in32; omega) ?_
  refine go_goto (tgt := 33) (at_of tX10_judged 0 6 rfl) (by decide) ?_
  refine go_cV (m_goesOn) lk_X10_141 rfl G_109 (at_of tX10_judged 1 2 rfl) rfl (by decide) rfl (Nat.le_of_ble_eq_true rfl) rfl (by first | decide | exact ⟨Nat.zero_le _, Nat.zero_le _⟩) ?_
  refine go_if_ne (tgt := 41) (at_of tX10_judged 1 3 rfl) (by decide) (fun h36 => ?_) (fun h36 => ?_)
  · exfalso; exact h36 (bI_f (by decide))
  refine go_iconst (at_of tX10_judged 1 4 rfl) (by unfold in32; omega) ?_
  first | exact go_reti (at_of tX10_judged 1 5 rfl) rfl | exact go_reti (at_of tX10_judged 1 5 rfl) (le_i (by omega)) | exact go_reti (at_of tX10_judged 1 5 rfl) (le_i (by first | exact bI_t (by omega) | exact bI_f (by omega)))
theorem m_judged_2 (hS : Str σ.2.1) {A : PastD} (hM : PastM σ A) (hW : WfB (A.1 A.2.1)) {c : Int} {acc : Bool} (h : 0 ≤ c ∧ c < (A.1 A.2.1).2.1.1) (h2 : (A.1 A.2.1).2.1.2.2.2 c ≠ 119) : Con 3 mX10_judged 0 0 [vA 109, vI c, vI (bI (acc = true))] σ (vI 0, P1 σ 109 0 2) := by
  obtain ⟨hWm, hl2, h4⟩ := id hW
  obtain ⟨hE, hSg, hMk, hRw⟩ := id hWm
  obtain ⟨e1, e2, e3, e4⟩ := id hE
  have hN := hM.2.2.2.1
  obtain ⟨b1, b2, b3, b4⟩ := id hN.2.2.2
  have hl := hN.2.1.2
  have hcc : σ.1 110 (3011 : Int).toNat = (A.1 A.2.1).2.1.1 := hN.2.1.1
  have st : σ.1 110 (3073 + c).toNat = (A.1 A.2.1).2.1.2.2.2 c := (hl c h.1 h.2).2.1
  refine con_of_go mfX10_judged.1 trivial (Nat.le_of_ble_eq_true rfl) rfl (by decide) ?_
  show Go _ _ _ _ 0 [vA _, vI _, vI _] [] _ _
  refine go_aload_n (at_of tX10_judged 0 0 rfl) rfl ?_
  refine go_aload_n (at_of tX10_judged 0 1 rfl) rfl ?_
  refine go_iload_n (at_of tX10_judged 0 2 rfl) rfl ?_
  refine go_cV (m_isChange hS hN hWm) lk_X10_219 rfl G_109 (at_of tX10_judged 0 3 rfl) rfl (by decide) rfl (Nat.le_of_ble_eq_true rfl) rfl (by first | decide | exact ⟨Nat.zero_le _, Nat.zero_le _⟩) ?_
  refine go_if_ne (tgt := 13) (at_of tX10_judged 0 4 rfl) (by decide) (fun h6 => ?_) (fun h6 => ?_)
  rotate_left
  · exfalso; exact bI_0.mp h6 h
  refine go_aload_n (at_of tX10_judged 0 7 rfl) rfl ?_
  refine go_getr (q := 110) fl_X10_7 rfl G_109 (by first | exact (hS _ _ rfl).trans rfl | exact (hS1 _ _ rfl).trans rfl | exact (hS2 _ _ rfl).trans rfl | exact (hS3 _ _ rfl).trans rfl | exact (hS4 _ _ rfl).trans rfl) (at_of tX10_judged 0 8 rfl) ?_
  refine go_sipush (at_of tX10_judged 0 9 rfl) (by decide) ?_
  refine go_iload_n (at_of tX10_judged 0 10 rfl) rfl ?_
  refine go_iadd (at_of tX10_judged 0 11 rfl) (by unfold in32; omega) ?_
  refine go_iald G_110 (by omega) (by omega) (at_of tX10_judged 0 12 rfl) ?_
  refine go_bipush (at_of tX10_judged 0 13 rfl) (by decide) ?_
  refine go_icmp_eq (tgt := 32) (at_of tX10_judged 0 14 rfl) (by decide) (fun h25 => ?_) (fun h25 => ?_)
  · exfalso; omega
  refine go_iconst (at_of tX10_judged 0 15 rfl) (by unfold in32; omega) ?_
  refine go_goto (tgt := 33) (at_of tX10_judged 1 0 rfl) (by decide) ?_
  refine go_cV (m_goesOn) lk_X10_141 rfl G_109 (at_of tX10_judged 1 2 rfl) rfl (by decide) rfl (Nat.le_of_ble_eq_true rfl) rfl (by first | decide | exact ⟨Nat.zero_le _, Nat.zero_le _⟩) ?_
  refine go_if_ne (tgt := 41) (at_of tX10_judged 1 3 rfl) (by decide) (fun h36 => ?_) (fun h36 => ?_)
  · exfalso; exact h36 (bI_f (by decide))
  refine go_iconst (at_of tX10_judged 1 4 rfl) (by unfold in32; omega) ?_
  first | exact go_reti (at_of tX10_judged 1 5 rfl) rfl | exact go_reti (at_of tX10_judged 1 5 rfl) (le_i (by omega)) | exact go_reti (at_of tX10_judged 1 5 rfl) (le_i (by first | exact bI_t (by omega) | exact bI_f (by omega)))
theorem m_judged (hS : Str σ.2.1) {A : PastD} (hM : PastM σ A) (hW : WfB (A.1 A.2.1)) {c : Int} {acc : Bool} (h : 0 ≤ c ∧ c < (A.1 A.2.1).2.1.1) (h2 : (A.1 A.2.1).2.1.2.2.2 c = 119) : ∃ σ', Con 3 mX10_judged 0 0 [vA 109, vI c, vI (bI (acc = true))] σ (vI (concN (A.1 A.2.1).1.1 (A.1 A.2.1).1.2.1 c), σ') ∧ PastM σ' (edA (begA A) (jdgD (A.1 A.2.1) c acc)) ∧ FrE σ σ' ∧ σ'.1 109 0 = 0 := by
  obtain ⟨hWm, hl2, h4⟩ := id hW
  obtain ⟨hE, hSg, hMk, hRw⟩ := id hWm
  obtain ⟨e1, e2, e3, e4⟩ := id hE
  have hN := hM.2.2.2.1
  obtain ⟨b1, b2, b3, b4⟩ := id hN.2.2.2
  have hl := hN.2.1.2
  have hcc : σ.1 110 (3011 : Int).toNat = (A.1 A.2.1).2.1.1 := hN.2.1.1
  have st : σ.1 110 (3073 + c).toNat = (A.1 A.2.1).2.1.2.2.2 c := (hl c h.1 h.2).2.1
  have hSt : Str (P1 σ 109 0 0).2.1 := hS
  have hMt : PastM (P1 σ 109 0 0) A := hM.th
  obtain ⟨σ1, x1, x2, x3, x4, x5⟩ := m_edits hSt hMt
  have hS1 : Str σ1.2.1 := by rw [x3.1]; exact hS
  have hN1 : RepN (cN σ1) (A.1 A.2.1) := by
    have := x2.2.2.2.1
    rw [cur_beg] at this; exact this
  have x50 : σ1.1 109 0 = 0 := x5.trans P1_eq
  have fin : ∀ {σ' : St} {D' : PapD}, FrN σ1 σ' → RepN (cN σ') D' → PastM σ' (edA (begA A) D') ∧ FrE σ σ' ∧ σ'.1 109 0 = 0 := fun {σ' D'} hF hD => ⟨hF.past x2 hD, (FrE.th.trans x3).trans hF.e, (hF.2 109 0 (by omega)).trans x50⟩
  obtain ⟨σ2, y1, y2, y3⟩ := m_judges hS1 hN1 hRw ⟨hl2, e3⟩ h4 (c := c) (acc := acc) h
  refine ⟨σ2, ?_, fin y3 y2⟩
  refine con_of_go mfX10_judged.1 trivial (Nat.le_of_ble_eq_true rfl) rfl (by decide) ?_
  show Go _ _ _ _ 0 [vA _, vI _, vI _] [] _ _
  refine go_aload_n (at_of tX10_judged 0 0 rfl) rfl ?_
  refine go_aload_n (at_of tX10_judged 0 1 rfl) rfl ?_
  refine go_iload_n (at_of tX10_judged 0 2 rfl) rfl ?_
  refine go_cV (m_isChange hS hN hWm) lk_X10_219 rfl G_109 (at_of tX10_judged 0 3 rfl) rfl (by decide) rfl (Nat.le_of_ble_eq_true rfl) rfl (by first | decide | exact ⟨Nat.zero_le _, Nat.zero_le _⟩) ?_
  refine go_if_ne (tgt := 13) (at_of tX10_judged 0 4 rfl) (by decide) (fun h6 => ?_) (fun h6 => ?_)
  rotate_left
  · exfalso; exact bI_0.mp h6 h
  refine go_aload_n (at_of tX10_judged 0 7 rfl) rfl ?_
  refine go_getr (q := 110) fl_X10_7 rfl G_109 (by first | exact (hS _ _ rfl).trans rfl | exact (hS1 _ _ rfl).trans rfl | exact (hS2 _ _ rfl).trans rfl | exact (hS3 _ _ rfl).trans rfl | exact (hS4 _ _ rfl).trans rfl) (at_of tX10_judged 0 8 rfl) ?_
  refine go_sipush (at_of tX10_judged 0 9 rfl) (by decide) ?_
  refine go_iload_n (at_of tX10_judged 0 10 rfl) rfl ?_
  refine go_iadd (at_of tX10_judged 0 11 rfl) (by unfold in32; omega) ?_
  refine go_iald G_110 (by omega) (by omega) (at_of tX10_judged 0 12 rfl) ?_
  refine go_bipush (at_of tX10_judged 0 13 rfl) (by decide) ?_
  refine go_icmp_eq (tgt := 32) (at_of tX10_judged 0 14 rfl) (by decide) (fun h25 => ?_) (fun h25 => ?_)
  rotate_left
  · exfalso; omega
  refine go_iconst (at_of tX10_judged 1 1 rfl) (by unfold in32; omega) ?_
  refine go_cV (m_goesOn) lk_X10_141 rfl G_109 (at_of tX10_judged 1 2 rfl) rfl (by decide) rfl (Nat.le_of_ble_eq_true rfl) rfl (by first | decide | exact ⟨Nat.zero_le _, Nat.zero_le _⟩) ?_
  refine go_if_ne (tgt := 41) (at_of tX10_judged 1 3 rfl) (by decide) (fun h36 => ?_) (fun h36 => ?_)
  rotate_left
  · exfalso; exact absurd h36 (by rw [bI_t rfl]; decide)
  refine go_aload_n (at_of tX10_judged 1 6 rfl) rfl ?_
  refine go_cV (x1) lk_X10_166 rfl G_109 (at_of tX10_judged 1 7 rfl) rfl (by decide) rfl (Nat.le_of_ble_eq_true rfl) rfl (by first | decide | exact ⟨Nat.zero_le _, Nat.zero_le _⟩) ?_
  refine go_aload_n (at_of tX10_judged 1 8 rfl) rfl ?_
  refine go_iload_n (at_of tX10_judged 1 9 rfl) rfl ?_
  refine go_iload_n (at_of tX10_judged 1 10 rfl) rfl ?_
  refine go_cV (y1) lk_X10_225 rfl G_109 (at_of tX10_judged 1 11 rfl) rfl (by decide) rfl (Nat.le_of_ble_eq_true rfl) rfl (by first | decide | exact ⟨Nat.zero_le _, Nat.zero_le _⟩) ?_
  first | exact go_reti (at_of tX10_judged 1 12 rfl) rfl | exact go_reti (at_of tX10_judged 1 12 rfl) (le_i (by omega)) | exact go_reti (at_of tX10_judged 1 12 rfl) (le_i (by first | exact bI_t (by omega) | exact bI_f (by omega)))
theorem m_accept_1 (hS : Str σ.2.1) {A : PastD} (hM : PastM σ A) (hW : WfB (A.1 A.2.1)) {c : Int} (h : ¬ (0 ≤ c ∧ c < (A.1 A.2.1).2.1.1)) : Con 4 mX10_accept 0 0 [vA 109, vI c] σ (vI 0, P1 σ 109 0 1) := by
  have j : Con 3 mX10_judged 0 0 [vA 109, vI c, vI 1] σ (vI 0, P1 σ 109 0 1) := m_judged_1 (acc := true) hS hM hW h
  refine con_of_go mfX10_accept.1 trivial (Nat.le_of_ble_eq_true rfl) rfl (by decide) ?_
  show Go _ _ _ _ 0 [vA _, vI _] [] _ _
  refine go_aload_n (at_of tX10_accept 0 0 rfl) rfl ?_
  refine go_iload_n (at_of tX10_accept 0 1 rfl) rfl ?_
  refine go_iconst (at_of tX10_accept 0 2 rfl) (by unfold in32; omega) ?_
  refine go_cV (j) lk_X10_229 rfl G_109 (at_of tX10_accept 0 3 rfl) rfl (by decide) rfl (Nat.le_of_ble_eq_true rfl) rfl (by first | decide | exact ⟨Nat.zero_le _, Nat.zero_le _⟩) ?_
  first | exact go_reti (at_of tX10_accept 0 4 rfl) rfl | exact go_reti (at_of tX10_accept 0 4 rfl) (le_i (by omega)) | exact go_reti (at_of tX10_accept 0 4 rfl) (le_i (by first | exact bI_t (by omega) | exact bI_f (by omega)))
theorem m_accept_2 (hS : Str σ.2.1) {A : PastD} (hM : PastM σ A) (hW : WfB (A.1 A.2.1)) {c : Int} (h : 0 ≤ c ∧ c < (A.1 A.2.1).2.1.1) (h2 : (A.1 A.2.1).2.1.2.2.2 c ≠ 119) : Con 4 mX10_accept 0 0 [vA 109, vI c] σ (vI 0, P1 σ 109 0 2) := by
  have j : Con 3 mX10_judged 0 0 [vA 109, vI c, vI 1] σ (vI 0, P1 σ 109 0 2) := m_judged_2 (acc := true) hS hM hW h h2
  refine con_of_go mfX10_accept.1 trivial (Nat.le_of_ble_eq_true rfl) rfl (by decide) ?_
  show Go _ _ _ _ 0 [vA _, vI _] [] _ _
  refine go_aload_n (at_of tX10_accept 0 0 rfl) rfl ?_
  refine go_iload_n (at_of tX10_accept 0 1 rfl) rfl ?_
  refine go_iconst (at_of tX10_accept 0 2 rfl) (by unfold in32; omega) ?_
  refine go_cV (j) lk_X10_229 rfl G_109 (at_of tX10_accept 0 3 rfl) rfl (by decide) rfl (Nat.le_of_ble_eq_true rfl) rfl (by first | decide | exact ⟨Nat.zero_le _, Nat.zero_le _⟩) ?_
  first | exact go_reti (at_of tX10_accept 0 4 rfl) rfl | exact go_reti (at_of tX10_accept 0 4 rfl) (le_i (by omega)) | exact go_reti (at_of tX10_accept 0 4 rfl) (le_i (by first | exact bI_t (by omega) | exact bI_f (by omega)))
theorem m_accept (hS : Str σ.2.1) {A : PastD} (hM : PastM σ A) (hW : WfB (A.1 A.2.1)) {c : Int} (h : 0 ≤ c ∧ c < (A.1 A.2.1).2.1.1) (h2 : (A.1 A.2.1).2.1.2.2.2 c = 119) : ∃ σ', Con 4 mX10_accept 0 0 [vA 109, vI c] σ (vI (concN (A.1 A.2.1).1.1 (A.1 A.2.1).1.2.1 c), σ') ∧ PastM σ' (edA (begA A) (jdgD (A.1 A.2.1) c true)) ∧ FrE σ σ' ∧ σ'.1 109 0 = 0 := by
  obtain ⟨σ2, j, y2⟩ := m_judged (acc := true) hS hM hW h h2
  have j : Con 3 mX10_judged 0 0 [vA 109, vI c, vI 1] σ (vI (concN (A.1 A.2.1).1.1 (A.1 A.2.1).1.2.1 c), σ2) := j
  refine ⟨σ2, ?_, y2⟩
  refine con_of_go mfX10_accept.1 trivial (Nat.le_of_ble_eq_true rfl) rfl (by decide) ?_
  show Go _ _ _ _ 0 [vA _, vI _] [] _ _
  refine go_aload_n (at_of tX10_accept 0 0 rfl) rfl ?_
  refine go_iload_n (at_of tX10_accept 0 1 rfl) rfl ?_
  refine go_iconst (at_of tX10_accept 0 2 rfl) (by unfold in32; omega) ?_
  refine go_cV (j) lk_X10_229 rfl G_109 (at_of tX10_accept 0 3 rfl) rfl (by decide) rfl (Nat.le_of_ble_eq_true rfl) rfl (by first | decide | exact ⟨Nat.zero_le _, Nat.zero_le _⟩) ?_
  first | exact go_reti (at_of tX10_accept 0 4 rfl) rfl | exact go_reti (at_of tX10_accept 0 4 rfl) (le_i (by omega)) | exact go_reti (at_of tX10_accept 0 4 rfl) (le_i (by first | exact bI_t (by omega) | exact bI_f (by omega)))
theorem m_refuse_1 (hS : Str σ.2.1) {A : PastD} (hM : PastM σ A) (hW : WfB (A.1 A.2.1)) {c : Int} (h : ¬ (0 ≤ c ∧ c < (A.1 A.2.1).2.1.1)) : Con 4 mX10_refuse 0 0 [vA 109, vI c] σ (vI 0, P1 σ 109 0 1) := by
  have j : Con 3 mX10_judged 0 0 [vA 109, vI c, vI 0] σ (vI 0, P1 σ 109 0 1) := m_judged_1 (acc := false) hS hM hW h
  refine con_of_go mfX10_refuse.1 trivial (Nat.le_of_ble_eq_true rfl) rfl (by decide) ?_
  show Go _ _ _ _ 0 [vA _, vI _] [] _ _
  refine go_aload_n (at_of tX10_refuse 0 0 rfl) rfl ?_
  refine go_iload_n (at_of tX10_refuse 0 1 rfl) rfl ?_
  refine go_iconst (at_of tX10_refuse 0 2 rfl) (by unfold in32; omega) ?_
  refine go_cV (j) lk_X10_229 rfl G_109 (at_of tX10_refuse 0 3 rfl) rfl (by decide) rfl (Nat.le_of_ble_eq_true rfl) rfl (by first | decide | exact ⟨Nat.zero_le _, Nat.zero_le _⟩) ?_
  first | exact go_reti (at_of tX10_refuse 0 4 rfl) rfl | exact go_reti (at_of tX10_refuse 0 4 rfl) (le_i (by omega)) | exact go_reti (at_of tX10_refuse 0 4 rfl) (le_i (by first | exact bI_t (by omega) | exact bI_f (by omega)))
theorem m_refuse_2 (hS : Str σ.2.1) {A : PastD} (hM : PastM σ A) (hW : WfB (A.1 A.2.1)) {c : Int} (h : 0 ≤ c ∧ c < (A.1 A.2.1).2.1.1) (h2 : (A.1 A.2.1).2.1.2.2.2 c ≠ 119) : Con 4 mX10_refuse 0 0 [vA 109, vI c] σ (vI 0, P1 σ 109 0 2) := by
  have j : Con 3 mX10_judged 0 0 [vA 109, vI c, vI 0] σ (vI 0, P1 σ 109 0 2) := m_judged_2 (acc := false) hS hM hW h h2
  refine con_of_go mfX10_refuse.1 trivial (Nat.le_of_ble_eq_true rfl) rfl (by decide) ?_
  show Go _ _ _ _ 0 [vA _, vI _] [] _ _
  refine go_aload_n (at_of tX10_refuse 0 0 rfl) rfl ?_
  refine go_iload_n (at_of tX10_refuse 0 1 rfl) rfl ?_
  refine go_iconst (at_of tX10_refuse 0 2 rfl) (by unfold in32; omega) ?_
  refine go_cV (j) lk_X10_229 rfl G_109 (at_of tX10_refuse 0 3 rfl) rfl (by decide) rfl (Nat.le_of_ble_eq_true rfl) rfl (by first | decide | exact ⟨Nat.zero_le _, Nat.zero_le _⟩) ?_
  first | exact go_reti (at_of tX10_refuse 0 4 rfl) rfl | exact go_reti (at_of tX10_refuse 0 4 rfl) (le_i (by omega)) | exact go_reti (at_of tX10_refuse 0 4 rfl) (le_i (by first | exact bI_t (by omega) | exact bI_f (by omega)))
theorem m_refuse (hS : Str σ.2.1) {A : PastD} (hM : PastM σ A) (hW : WfB (A.1 A.2.1)) {c : Int} (h : 0 ≤ c ∧ c < (A.1 A.2.1).2.1.1) (h2 : (A.1 A.2.1).2.1.2.2.2 c = 119) : ∃ σ', Con 4 mX10_refuse 0 0 [vA 109, vI c] σ (vI (concN (A.1 A.2.1).1.1 (A.1 A.2.1).1.2.1 c), σ') ∧ PastM σ' (edA (begA A) (jdgD (A.1 A.2.1) c false)) ∧ FrE σ σ' ∧ σ'.1 109 0 = 0 := by
  obtain ⟨σ2, j, y2⟩ := m_judged (acc := false) hS hM hW h h2
  have j : Con 3 mX10_judged 0 0 [vA 109, vI c, vI 0] σ (vI (concN (A.1 A.2.1).1.1 (A.1 A.2.1).1.2.1 c), σ2) := j
  refine ⟨σ2, ?_, y2⟩
  refine con_of_go mfX10_refuse.1 trivial (Nat.le_of_ble_eq_true rfl) rfl (by decide) ?_
  show Go _ _ _ _ 0 [vA _, vI _] [] _ _
  refine go_aload_n (at_of tX10_refuse 0 0 rfl) rfl ?_
  refine go_iload_n (at_of tX10_refuse 0 1 rfl) rfl ?_
  refine go_iconst (at_of tX10_refuse 0 2 rfl) (by unfold in32; omega) ?_
  refine go_cV (j) lk_X10_229 rfl G_109 (at_of tX10_refuse 0 3 rfl) rfl (by decide) rfl (Nat.le_of_ble_eq_true rfl) rfl (by first | decide | exact ⟨Nat.zero_le _, Nat.zero_le _⟩) ?_
  first | exact go_reti (at_of tX10_refuse 0 4 rfl) rfl | exact go_reti (at_of tX10_refuse 0 4 rfl) (le_i (by omega)) | exact go_reti (at_of tX10_refuse 0 4 rfl) (le_i (by first | exact bI_t (by omega) | exact bI_f (by omega)))
end Mod9
