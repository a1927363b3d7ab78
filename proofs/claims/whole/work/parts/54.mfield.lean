/-! The reference: fields written. -/
section Mod13
variable {σ : St}
theorem M1_id {a : Nat} {j z : Int} (h : σ.1 a j.toNat = z) : M1 σ a j z = σ := by
  unfold M1 upd2
  refine Prod.ext (funext fun a' => funext fun i => ?_) rfl
  dsimp only
  by_cases q : a' = a ∧ i = j.toNat
  · rw [if_pos q, q.1, q.2, h]
  · rw [if_neg q]
def enM (σ : St) (d o : Int) : St := M1 (M1 (M1 (P1 σ 109 13 (σ.1 109 13 + 1)) 118 (σ.1 109 13) d) 119 (σ.1 109 13) o) 120 (σ.1 109 13) 0
theorem wrD_q {D : PapD} {tr : Bool} {a u l fd : Int} : (wrD D tr a u l fd).2.2 = D.2.2 := by
  rfl
theorem m_addField_no (hS : Str σ.2.1) {A : PastD} (hM : PastM σ A) (hWf : WfM (A.1 A.2.1)) (h20 : 0 ≤ σ.1 109 13 ∧ σ.1 109 13 ≤ 20) {tr : Bool} (htr : σ.1 109 6 = bI (tr = true)) {a p d o : Int} (hf : wfE (A.1 A.2.1) tr a p (decide (d = 99 ∨ (d = 114 ∧ 0 ≤ o ∧ o ≤ 2) ∨ ((d = 110 ∨ d = 112 ∨ d = 108) ∧ 0 ≤ o ∧ o ≤ 5))) (decide (σ.1 109 13 = 20)) ≠ 0) : Con 5 mX10_addField 0 0 [vA 109, vI a, vI p, vI d, vI o] σ (vI 0, P1 σ 109 0 (wfE (A.1 A.2.1) tr a p (decide (d = 99 ∨ (d = 114 ∧ 0 ≤ o ∧ o ≤ 2) ∨ ((d = 110 ∨ d = 112 ∨ d = 108) ∧ 0 ≤ o ∧ o ≤ 5))) (decide (σ.1 109 13 = 20)))) := by
  obtain ⟨hE, hSg, hMk, hRw⟩ := id hWf
  have wf := m_writeFault hS hM.2.2.2.1 hE hSg hMk htr (a := a) (p := p) (fine := decide (d = 99 ∨ (d = 114 ∧ 0 ≤ o ∧ o ≤ 2) ∨ ((d = 110 ∨ d = 112 ∨ d = 108) ∧ 0 ≤ o ∧ o ≤ 5))) (full := decide (σ.1 109 13 = 20))
  obtain ⟨w, hw⟩ : ∃ w, w = wfE (A.1 A.2.1) tr a p (decide (d = 99 ∨ (d = 114 ∧ 0 ≤ o ∧ o ≤ 2) ∨ ((d = 110 ∨ d = 112 ∨ d = 108) ∧ 0 ≤ o ∧ o ≤ 5))) (decide (σ.1 109 13 = 20)) := ⟨_, rfl⟩
  rw [← hw] at wf hf
  obtain ⟨x, hx⟩ : ∃ x : Int, x = bI (decide (d = 99 ∨ (d = 114 ∧ 0 ≤ o ∧ o ≤ 2) ∨ ((d = 110 ∨ d = 112 ∨ d = 108) ∧ 0 ≤ o ∧ o ≤ 5)) = true) := ⟨_, rfl⟩
  obtain ⟨y, hy⟩ : ∃ y : Int, y = bI (decide (σ.1 109 13 = 20) = true) := ⟨_, rfl⟩
  have x1 : d = 99 ∨ (d = 114 ∧ 0 ≤ o ∧ o ≤ 2) ∨ ((d = 110 ∨ d = 112 ∨ d = 108) ∧ 0 ≤ o ∧ o ≤ 5) → x = 1 := fun q => by rw [hx]; exact bI_t (decide_eq_true q)
  have x0 : ¬ (d = 99 ∨ (d = 114 ∧ 0 ≤ o ∧ o ≤ 2) ∨ ((d = 110 ∨ d = 112 ∨ d = 108) ∧ 0 ≤ o ∧ o ≤ 5)) → x = 0 := fun q => by rw [hx]; exact bI_f (fun y => q (of_decide_eq_true y))
  have y1 : σ.1 109 13 = 20 → y = 1 := fun q => by rw [hy]; exact bI_t (decide_eq_true q)
  have y0 : ¬ σ.1 109 13 = 20 → y = 0 := fun q => by rw [hy]; exact bI_f (fun y => q (of_decide_eq_true y))
  rw [← hx, ← hy] at wf
  rw [← hw]
  by_cases c : d = 99 ∨ (d = 114 ∧ 0 ≤ o ∧ o ≤ 2) ∨ ((d = 110 ∨ d = 112 ∨ d = 108) ∧ 0 ≤ o ∧ o ≤ 5)
  · have x1 := x1 c
    rcases c with c | ⟨c, c2⟩ | ⟨c | c | c, c2⟩
    · skip
      rw [x1] at wf
      by_cases q20 : σ.1 109 13 = 20
      · rw [y1 q20] at wf
        refine con_of_go mfX10_addField.1 trivial (Nat.le_of_ble_eq_true rfl) rfl (by decide) ?_
        show Go _ _ _ _ 0 [vA _, vI _, vI _, vI _, vI _, vT 9 0, vT 9 0, vT 9 0] [] _ _
        refine go_iload_n (at_of tX10_addField 0 0 rfl) rfl ?_
        refine go_bipush (at_of tX10_addField 0 1 rfl) (by decide) ?_
        refine go_icmp_eq (tgt := 48) (at_of tX10_addField 0 2 rfl) (by decide) (fun h3 => ?_) (fun h3 => ?_)
        rotate_left
        · exfalso; omega
        refine go_iconst (at_of tX10_addField 1 7 rfl) (by unfold in32; omega) ?_
        refine go_goto (tgt := 53) (at_of tX10_addField 1 8 rfl) (by decide) ?_
        refine go_istore (at_of tX10_addField 1 10 rfl) rfl rfl ?_
        refine go_aload_n (at_of tX10_addField 1 11 rfl) rfl ?_
        refine go_aload_n (at_of tX10_addField 1 12 rfl) rfl ?_
        refine go_iload_n (at_of tX10_addField 1 13 rfl) rfl ?_
        refine go_iload_n (at_of tX10_addField 1 14 rfl) rfl ?_
        refine go_iload (at_of tX10_addField 1 15 rfl) rfl rfl ?_
        refine go_aload_n (at_of tX10_addField 2 0 rfl) rfl ?_
        refine go_getf fl_X10_187 rfl G_109 (at_of tX10_addField 2 1 rfl) ?_
        refine go_bipush (at_of tX10_addField 2 2 rfl) (by decide) ?_
        refine go_icmp_ne (tgt := 74) (at_of tX10_addField 2 3 rfl) (by decide) (fun h67 => ?_) (fun h67 => ?_)
        · exfalso; omega
        refine go_iconst (at_of tX10_addField 2 4 rfl) (by unfold in32; omega) ?_
        refine go_goto (tgt := 75) (at_of tX10_addField 2 5 rfl) (by decide) ?_
        refine go_cV (wf) lk_X10_176 rfl G_109 (at_of tX10_addField 2 7 rfl) rfl (by decide) rfl (Nat.le_of_ble_eq_true rfl) rfl (by first | decide | exact ⟨Nat.zero_le _, Nat.zero_le _⟩) ?_
        refine go_cV (m_goesOn) lk_X10_141 rfl G_109 (at_of tX10_addField 2 8 rfl) rfl (by decide) rfl (Nat.le_of_ble_eq_true rfl) rfl (by first | decide | exact ⟨Nat.zero_le _, Nat.zero_le _⟩) ?_
        refine go_if_ne (tgt := 86) (at_of tX10_addField 2 9 rfl) (by decide) (fun h81 => ?_) (fun h81 => ?_)
        · exfalso; exact h81 (bI_f hf)
        refine go_iconst (at_of tX10_addField 2 10 rfl) (by unfold in32; omega) ?_
        first | exact go_reti (at_of tX10_addField 2 11 rfl) rfl | exact go_reti (at_of tX10_addField 2 11 rfl) (le_i (by omega)) | exact go_reti (at_of tX10_addField 2 11 rfl) (le_i (by first | exact bI_t (by omega) | exact bI_f (by omega)))
      · rw [y0 q20] at wf
        refine con_of_go mfX10_addField.1 trivial (Nat.le_of_ble_eq_true rfl) rfl (by decide) ?_
        show Go _ _ _ _ 0 [vA _, vI _, vI _, vI _, vI _, vT 9 0, vT 9 0, vT 9 0] [] _ _
        refine go_iload_n (at_of tX10_addField 0 0 rfl) rfl ?_
        refine go_bipush (at_of tX10_addField 0 1 rfl) (by decide) ?_
        refine go_icmp_eq (tgt := 48) (at_of tX10_addField 0 2 rfl) (by decide) (fun h3 => ?_) (fun h3 => ?_)
        rotate_left
        · exfalso; omega
        refine go_iconst (at_of tX10_addField 1 7 rfl) (by unfold in32; omega) ?_
        refine go_goto (tgt := 53) (at_of tX10_addField 1 8 rfl) (by decide) ?_
        refine go_istore (at_of tX10_addField 1 10 rfl) rfl rfl ?_
        refine go_aload_n (at_of tX10_addField 1 11 rfl) rfl ?_
        refine go_aload_n (at_of tX10_addField 1 12 rfl) rfl ?_
        refine go_iload_n (at_of tX10_addField 1 13 rfl) rfl ?_
        refine go_iload_n (at_of tX10_addField 1 14 rfl) rfl ?_
        refine go_iload (at_of tX10_addField 1 15 rfl) rfl rfl ?_
        refine go_aload_n (at_of tX10_addField 2 0 rfl) rfl ?_
        refine go_getf fl_X10_187 rfl G_109 (at_of tX10_addField 2 1 rfl) ?_
        refine go_bipush (at_of tX10_addField 2 2 rfl) (by decide) ?_
        refine go_icmp_ne (tgt := 74) (at_of tX10_addField 2 3 rfl) (by decide) (fun h67 => ?_) (fun h67 => ?_)
        rotate_left
        · exfalso; omega
        refine go_iconst (at_of tX10_addField 2 6 rfl) (by unfold in32; omega) ?_
        refine go_cV (wf) lk_X10_176 rfl G_109 (at_of tX10_addField 2 7 rfl) rfl (by decide) rfl (Nat.le_of_ble_eq_true rfl) rfl (by first | decide | exact ⟨Nat.zero_le _, Nat.zero_le _⟩) ?_
        refine go_cV (m_goesOn) lk_X10_141 rfl G_109 (at_of tX10_addField 2 8 rfl) rfl (by decide) rfl (Nat.le_of_ble_eq_true rfl) rfl (by first | decide | exact ⟨Nat.zero_le _, Nat.zero_le _⟩) ?_
        refine go_if_ne (tgt := 86) (at_of tX10_addField 2 9 rfl) (by decide) (fun h81 => ?_) (fun h81 => ?_)
        · exfalso; exact h81 (bI_f hf)
        refine go_iconst (at_of tX10_addField 2 10 rfl) (by unfold in32; omega) ?_
        first | exact go_reti (at_of tX10_addField 2 11 rfl) rfl | exact go_reti (at_of tX10_addField 2 11 rfl) (le_i (by omega)) | exact go_reti (at_of tX10_addField 2 11 rfl) (le_i (by first | exact bI_t (by omega) | exact bI_f (by omega)))
    · skip
      rw [x1] at wf
      by_cases q20 : σ.1 109 13 = 20
      · rw [y1 q20] at wf
        refine con_of_go mfX10_addField.1 trivial (Nat.le_of_ble_eq_true rfl) rfl (by decide) ?_
        show Go _ _ _ _ 0 [vA _, vI _, vI _, vI _, vI _, vT 9 0, vT 9 0, vT 9 0] [] _ _
        refine go_iload_n (at_of tX10_addField 0 0 rfl) rfl ?_
        refine go_bipush (at_of tX10_addField 0 1 rfl) (by decide) ?_
        refine go_icmp_eq (tgt := 48) (at_of tX10_addField 0 2 rfl) (by decide) (fun h3 => ?_) (fun h3 => ?_)
        · exfalso; omega
        refine go_iload_n (at_of tX10_addField 0 3 rfl) rfl ?_
        refine go_bipush (at_of tX10_addField 0 4 rfl) (by decide) ?_
        refine go_icmp_ne (tgt := 22) (at_of tX10_addField 0 5 rfl) (by decide) (fun h9 => ?_) (fun h9 => ?_)
        · exfalso; omega
        refine go_iload (at_of tX10_addField 0 6 rfl) rfl rfl ?_
        refine go_iconst (at_of tX10_addField 0 7 rfl) (by unfold in32; omega) ?_
        refine go_iconst (at_of tX10_addField 0 8 rfl) (by unfold in32; omega) ?_
        refine go_cS (m_in) lk_X10_124 rfl (at_of tX10_addField 0 9 rfl) rfl (by decide) rfl (Nat.le_of_ble_eq_true rfl) rfl (by first | decide | exact ⟨Nat.zero_le _, Nat.zero_le _⟩) ?_
        refine go_if_ne (tgt := 48) (at_of tX10_addField 0 10 rfl) (by decide) (fun h19 => ?_) (fun h19 => ?_)
        rotate_left
        · exfalso; exact bI_0.mp h19 c2
        refine go_iconst (at_of tX10_addField 1 7 rfl) (by unfold in32; omega) ?_
        refine go_goto (tgt := 53) (at_of tX10_addField 1 8 rfl) (by decide) ?_
        refine go_istore (at_of tX10_addField 1 10 rfl) rfl rfl ?_
        refine go_aload_n (at_of tX10_addField 1 11 rfl) rfl ?_
        refine go_aload_n (at_of tX10_addField 1 12 rfl) rfl ?_
        refine go_iload_n (at_of tX10_addField 1 13 rfl) rfl ?_
        refine go_iload_n (at_of tX10_addField 1 14 rfl) rfl ?_
        refine go_iload (at_of tX10_addField 1 15 rfl) rfl rfl ?_
        refine go_aload_n (at_of tX10_addField 2 0 rfl) rfl ?_
        refine go_getf fl_X10_187 rfl G_109 (at_of tX10_addField 2 1 rfl) ?_
        refine go_bipush (at_of tX10_addField 2 2 rfl) (by decide) ?_
        refine go_icmp_ne (tgt := 74) (at_of tX10_addField 2 3 rfl) (by decide) (fun h67 => ?_) (fun h67 => ?_)
        · exfalso; omega
        refine go_iconst (at_of tX10_addField 2 4 rfl) (by unfold in32; omega) ?_
        refine go_goto (tgt := 75) (at_of tX10_addField 2 5 rfl) (by decide) ?_
        refine go_cV (wf) lk_X10_176 rfl G_109 (at_of tX10_addField 2 7 rfl) rfl (by decide) rfl (Nat.le_of_ble_eq_true rfl) rfl (by first | decide | exact ⟨Nat.zero_le _, Nat.zero_le _⟩) ?_
        refine go_cV (m_goesOn) lk_X10_141 rfl G_109 (at_of tX10_addField 2 8 rfl) rfl (by decide) rfl (Nat.le_of_ble_eq_true rfl) rfl (by first | decide | exact ⟨Nat.zero_le _, Nat.zero_le _⟩) ?_
        refine go_if_ne (tgt := 86) (at_of tX10_addField 2 9 rfl) (by decide) (fun h81 => ?_) (fun h81 => ?_)
        · exfalso; exact h81 (bI_f hf)
        refine go_iconst (at_of tX10_addField 2 10 rfl) (by unfold in32; omega) ?_
        first | exact go_reti (at_of tX10_addField 2 11 rfl) rfl | exact go_reti (at_of tX10_addField 2 11 rfl) (le_i (by omega)) | exact go_reti (at_of tX10_addField 2 11 rfl) (le_i (by first | exact bI_t (by omega) | exact bI_f (by omega)))
      · rw [y0 q20] at wf
        refine con_of_go mfX10_addField.1 trivial (Nat.le_of_ble_eq_true rfl) rfl (by decide) ?_
        show Go _ _ _ _ 0 [vA _, vI _, vI _, vI _, vI _, vT 9 0, vT 9 0, vT 9 0] [] _ _
        refine go_iload_n (at_of tX10_addField 0 0 rfl) rfl ?_
        refine go_bipush (at_of tX10_addField 0 1 rfl) (by decide) ?_
        refine go_icmp_eq (tgt := 48) (at_of tX10_addField 0 2 rfl) (by decide) (fun h3 => ?_) (fun h3 => ?_)
        · exfalso; omega
        refine go_iload_n (at_of tX10_addField 0 3 rfl) rfl ?_
        refine go_bipush (at_of tX10_addField 0 4 rfl) (by decide) ?_
        refine go_icmp_ne (tgt := 22) (at_of tX10_addField 0 5 rfl) (by decide) (fun h9 => ?_) (fun h9 => ?_)
        · exfalso; omega
        refine go_iload (at_of tX10_addField 0 6 rfl) rfl rfl ?_
        refine go_iconst (at_of tX10_addField 0 7 rfl) (by unfold in32; omega) ?_
        refine go_iconst (at_of tX10_addField 0 8 rfl) (by unfold in32; omega) ?_
        refine go_cS (m_in) lk_X10_124 rfl (at_of tX10_addField 0 9 rfl) rfl (by decide) rfl (Nat.le_of_ble_eq_true rfl) rfl (by first | decide | exact ⟨Nat.zero_le _, Nat.zero_le _⟩) ?_
        refine go_if_ne (tgt := 48) (at_of tX10_addField 0 10 rfl) (by decide) (fun h19 => ?_) (fun h19 => ?_)
        rotate_left
        · exfalso; exact bI_0.mp h19 c2
        refine go_iconst (at_of tX10_addField 1 7 rfl) (by unfold in32; omega) ?_
        refine go_goto (tgt := 53) (at_of tX10_addField 1 8 rfl) (by decide) ?_
        refine go_istore (at_of tX10_addField 1 10 rfl) rfl rfl ?_
        refine go_aload_n (at_of tX10_addField 1 11 rfl) rfl ?_
        refine go_aload_n (at_of tX10_addField 1 12 rfl) rfl ?_
        refine go_iload_n (at_of tX10_addField 1 13 rfl) rfl ?_
        refine go_iload_n (at_of tX10_addField 1 14 rfl) rfl ?_
        refine go_iload (at_of tX10_addField 1 15 rfl) rfl rfl ?_
        refine go_aload_n (at_of tX10_addField 2 0 rfl) rfl ?_
        refine go_getf fl_X10_187 rfl G_109 (at_of tX10_addField 2 1 rfl) ?_
        refine go_bipush (at_of tX10_addField 2 2 rfl) (by decide) ?_
        refine go_icmp_ne (tgt := 74) (at_of tX10_addField 2 3 rfl) (by decide) (fun h67 => ?_) (fun h67 => ?_)
        rotate_left
        · exfalso; omega
        refine go_iconst (at_of tX10_addField 2 6 rfl) (by unfold in32; omega) ?_
        refine go_cV (wf) lk_X10_176 rfl G_109 (at_of tX10_addField 2 7 rfl) rfl (by decide) rfl (Nat.le_of_ble_eq_true rfl) rfl (by first | decide | exact ⟨Nat.zero_le _, Nat.zero_le _⟩) ?_
        refine go_cV (m_goesOn) lk_X10_141 rfl G_109 (at_of tX10_addField 2 8 rfl) rfl (by decide) rfl (Nat.le_of_ble_eq_true rfl) rfl (by first | decide | exact ⟨Nat.zero_le _, Nat.zero_le _⟩) ?_
        refine go_if_ne (tgt := 86) (at_of tX10_addField 2 9 rfl) (by decide) (fun h81 => ?_) (fun h81 => ?_)
        · exfalso; exact h81 (bI_f hf)
        refine go_iconst (at_of tX10_addField 2 10 rfl) (by unfold in32; omega) ?_
        first | exact go_reti (at_of tX10_addField 2 11 rfl) rfl | exact go_reti (at_of tX10_addField 2 11 rfl) (le_i (by omega)) | exact go_reti (at_of tX10_addField 2 11 rfl) (le_i (by first | exact bI_t (by omega) | exact bI_f (by omega)))
    · skip
      rw [x1] at wf
      by_cases q20 : σ.1 109 13 = 20
      · rw [y1 q20] at wf
        refine con_of_go mfX10_addField.1 trivial (Nat.le_of_ble_eq_true rfl) rfl (by decide) ?_
        show Go _ _ _ _ 0 [vA _, vI _, vI _, vI _, vI _, vT 9 0, vT 9 0, vT 9 0] [] _ _
        refine go_iload_n (at_of tX10_addField 0 0 rfl) rfl ?_
        refine go_bipush (at_of tX10_addField 0 1 rfl) (by decide) ?_
        refine go_icmp_eq (tgt := 48) (at_of tX10_addField 0 2 rfl) (by decide) (fun h3 => ?_) (fun h3 => ?_)
        · exfalso; omega
        refine go_iload_n (at_of tX10_addField 0 3 rfl) rfl ?_
        refine go_bipush (at_of tX10_addField 0 4 rfl) (by decide) ?_
        refine go_icmp_ne (tgt := 22) (at_of tX10_addField 0 5 rfl) (by decide) (fun h9 => ?_) (fun h9 => ?_)
        rotate_left
        · exfalso; omega
        refine go_iload_n (at_of tX10_addField 0 11 rfl) rfl ?_
        refine go_bipush (at_of tX10_addField 0 12 rfl) (by decide) ?_
        refine go_icmp_eq (tgt := 40) (at_of tX10_addField 0 13 rfl) (by decide) (fun h25 => ?_) (fun h25 => ?_)
        rotate_left
        · exfalso; omega
        refine go_iload (at_of tX10_addField 1 4 rfl) rfl rfl ?_
        refine go_cS (m_isBookmark) lk_X10_184 rfl (at_of tX10_addField 1 5 rfl) rfl (by decide) rfl (Nat.le_of_ble_eq_true rfl) rfl (by first | decide | exact ⟨Nat.zero_le _, Nat.zero_le _⟩) ?_
        refine go_if_eq (tgt := 52) (at_of tX10_addField 1 6 rfl) (by decide) (fun h45 => ?_) (fun h45 => ?_)
        · exfalso; exact bI_0.mp h45 c2
        refine go_iconst (at_of tX10_addField 1 7 rfl) (by unfold in32; omega) ?_
        refine go_goto (tgt := 53) (at_of tX10_addField 1 8 rfl) (by decide) ?_
        refine go_istore (at_of tX10_addField 1 10 rfl) rfl rfl ?_
        refine go_aload_n (at_of tX10_addField 1 11 rfl) rfl ?_
        refine go_aload_n (at_of tX10_addField 1 12 rfl) rfl ?_
        refine go_iload_n (at_of tX10_addField 1 13 rfl) rfl ?_
        refine go_iload_n (at_of tX10_addField 1 14 rfl) rfl ?_
        refine go_iload (at_of tX10_addField 1 15 rfl) rfl rfl ?_
        refine go_aload_n (at_of tX10_addField 2 0 rfl) rfl ?_
        refine go_getf fl_X10_187 rfl G_109 (at_of tX10_addField 2 1 rfl) ?_
        refine go_bipush (at_of tX10_addField 2 2 rfl) (by decide) ?_
        refine go_icmp_ne (tgt := 74) (at_of tX10_addField 2 3 rfl) (by decide) (fun h67 => ?_) (fun h67 => ?_)
        · exfalso; omega
        refine go_iconst (at_of tX10_addField 2 4 rfl) (by unfold in32; omega) ?_
        refine go_goto (tgt := 75) (at_of tX10_addField 2 5 rfl) (by decide) ?_
        refine go_cV (wf) lk_X10_176 rfl G_109 (at_of tX10_addField 2 7 rfl) rfl (by decide) rfl (Nat.le_of_ble_eq_true rfl) rfl (by first | decide | exact ⟨Nat.zero_le _, Nat.zero_le _⟩) ?_
        refine go_cV (m_goesOn) lk_X10_141 rfl G_109 (at_of tX10_addField 2 8 rfl) rfl (by decide) rfl (Nat.le_of_ble_eq_true rfl) rfl (by first | decide | exact ⟨Nat.zero_le _, Nat.zero_le _⟩) ?_
        refine go_if_ne (tgt := 86) (at_of tX10_addField 2 9 rfl) (by decide) (fun h81 => ?_) (fun h81 => ?_)
        · exfalso; exact h81 (bI_f hf)
        refine go_iconst (at_of tX10_addField 2 10 rfl) (by unfold in32; omega) ?_
        first | exact go_reti (at_of tX10_addField 2 11 rfl) rfl | exact go_reti (at_of tX10_addField 2 11 rfl) (le_i (by omega)) | exact go_reti (at_of tX10_addField 2 11 rfl) (le_i (by first | exact bI_t (by omega) | exact bI_f (by omega)))
      · rw [y0 q20] at wf
        refine con_of_go mfX10_addField.1 trivial (Nat.le_of_ble_eq_true rfl) rfl (by decide) ?_
        show Go _ _ _ _ 0 [vA _, vI _, vI _, vI _, vI _, vT 9 0, vT 9 0, vT 9 0] [] _ _
        refine go_iload_n (at_of tX10_addField 0 0 rfl) rfl ?_
        refine go_bipush (at_of tX10_addField 0 1 rfl) (by decide) ?_
        refine go_icmp_eq (tgt := 48) (at_of tX10_addField 0 2 rfl) (by decide) (fun h3 => ?_) (fun h3 => ?_)
        · exfalso; omega
        refine go_iload_n (at_of tX10_addField 0 3 rfl) rfl ?_
        refine go_bipush (at_of tX10_addField 0 4 rfl) (by decide) ?_
        refine go_icmp_ne (tgt := 22) (at_of tX10_addField 0 5 rfl) (by decide) (fun h9 => ?_) (fun h9 => ?_)
        rotate_left
        · exfalso; omega
        refine go_iload_n (at_of tX10_addField 0 11 rfl) rfl ?_
        refine go_bipush (at_of tX10_addField 0 12 rfl) (by decide) ?_
        refine go_icmp_eq (tgt := 40) (at_of tX10_addField 0 13 rfl) (by decide) (fun h25 => ?_) (fun h25 => ?_)
        rotate_left
        · exfalso; omega
        refine go_iload (at_of tX10_addField 1 4 rfl) rfl rfl ?_
        refine go_cS (m_isBookmark) lk_X10_184 rfl (at_of tX10_addField 1 5 rfl) rfl (by decide) rfl (Nat.le_of_ble_eq_true rfl) rfl (by first | decide | exact ⟨Nat.zero_le _, Nat.zero_le _⟩) ?_
        refine go_if_eq (tgt := 52) (at_of tX10_addField 1 6 rfl) (by decide) (fun h45 => ?_) (fun h45 => ?_)
        · exfalso; exact bI_0.mp h45 c2
        refine go_iconst (at_of tX10_addField 1 7 rfl) (by unfold in32; omega) ?_
        refine go_goto (tgt := 53) (at_of tX10_addField 1 8 rfl) (by decide) ?_
        refine go_istore (at_of tX10_addField 1 10 rfl) rfl rfl ?_
        refine go_aload_n (at_of tX10_addField 1 11 rfl) rfl ?_
        refine go_aload_n (at_of tX10_addField 1 12 rfl) rfl ?_
        refine go_iload_n (at_of tX10_addField 1 13 rfl) rfl ?_
        refine go_iload_n (at_of tX10_addField 1 14 rfl) rfl ?_
        refine go_iload (at_of tX10_addField 1 15 rfl) rfl rfl ?_
        refine go_aload_n (at_of tX10_addField 2 0 rfl) rfl ?_
        refine go_getf fl_X10_187 rfl G_109 (at_of tX10_addField 2 1 rfl) ?_
        refine go_bipush (at_of tX10_addField 2 2 rfl) (by decide) ?_
        refine go_icmp_ne (tgt := 74) (at_of tX10_addField 2 3 rfl) (by decide) (fun h67 => ?_) (fun h67 => ?_)
        rotate_left
        · exfalso; omega
        refine go_iconst (at_of tX10_addField 2 6 rfl) (by unfold in32; omega) ?_
        refine go_cV (wf) lk_X10_176 rfl G_109 (at_of tX10_addField 2 7 rfl) rfl (by decide) rfl (Nat.le_of_ble_eq_true rfl) rfl (by first | decide | exact ⟨Nat.zero_le _, Nat.zero_le _⟩) ?_
        refine go_cV (m_goesOn) lk_X10_141 rfl G_109 (at_of tX10_addField 2 8 rfl) rfl (by decide) rfl (Nat.le_of_ble_eq_true rfl) rfl (by first | decide | exact ⟨Nat.zero_le _, Nat.zero_le _⟩) ?_
        refine go_if_ne (tgt := 86) (at_of tX10_addField 2 9 rfl) (by decide) (fun h81 => ?_) (fun h81 => ?_)
        · exfalso; exact h81 (bI_f hf)
        refine go_iconst (at_of tX10_addField 2 10 rfl) (by unfold in32; omega) ?_
        first | exact go_reti (at_of tX10_addField 2 11 rfl) rfl | exact go_reti (at_of tX10_addField 2 11 rfl) (le_i (by omega)) | exact go_reti (at_of tX10_addField 2 11 rfl) (le_i (by first | exact bI_t (by omega) | exact bI_f (by omega)))
    · skip
      rw [x1] at wf
      by_cases q20 : σ.1 109 13 = 20
      · rw [y1 q20] at wf
        refine con_of_go mfX10_addField.1 trivial (Nat.le_of_ble_eq_true rfl) rfl (by decide) ?_
        show Go _ _ _ _ 0 [vA _, vI _, vI _, vI _, vI _, vT 9 0, vT 9 0, vT 9 0] [] _ _
        refine go_iload_n (at_of tX10_addField 0 0 rfl) rfl ?_
        refine go_bipush (at_of tX10_addField 0 1 rfl) (by decide) ?_
        refine go_icmp_eq (tgt := 48) (at_of tX10_addField 0 2 rfl) (by decide) (fun h3 => ?_) (fun h3 => ?_)
        · exfalso; omega
        refine go_iload_n (at_of tX10_addField 0 3 rfl) rfl ?_
        refine go_bipush (at_of tX10_addField 0 4 rfl) (by decide) ?_
        refine go_icmp_ne (tgt := 22) (at_of tX10_addField 0 5 rfl) (by decide) (fun h9 => ?_) (fun h9 => ?_)
        rotate_left
        · exfalso; omega
        refine go_iload_n (at_of tX10_addField 0 11 rfl) rfl ?_
        refine go_bipush (at_of tX10_addField 0 12 rfl) (by decide) ?_
        refine go_icmp_eq (tgt := 40) (at_of tX10_addField 0 13 rfl) (by decide) (fun h25 => ?_) (fun h25 => ?_)
        · exfalso; omega
        refine go_iload_n (at_of tX10_addField 0 14 rfl) rfl ?_
        refine go_bipush (at_of tX10_addField 0 15 rfl) (by decide) ?_
        refine go_icmp_eq (tgt := 40) (at_of tX10_addField 1 0 rfl) (by decide) (fun h31 => ?_) (fun h31 => ?_)
        rotate_left
        · exfalso; omega
        refine go_iload (at_of tX10_addField 1 4 rfl) rfl rfl ?_
        refine go_cS (m_isBookmark) lk_X10_184 rfl (at_of tX10_addField 1 5 rfl) rfl (by decide) rfl (Nat.le_of_ble_eq_true rfl) rfl (by first | decide | exact ⟨Nat.zero_le _, Nat.zero_le _⟩) ?_
        refine go_if_eq (tgt := 52) (at_of tX10_addField 1 6 rfl) (by decide) (fun h45 => ?_) (fun h45 => ?_)
        · exfalso; exact bI_0.mp h45 c2
        refine go_iconst (at_of tX10_addField 1 7 rfl) (by unfold in32; omega) ?_
        refine go_goto (tgt := 53) (at_of tX10_addField 1 8 rfl) (by decide) ?_
        refine go_istore (at_of tX10_addField 1 10 rfl) rfl rfl ?_
        refine go_aload_n (at_of tX10_addField 1 11 rfl) rfl ?_
        refine go_aload_n (at_of tX10_addField 1 12 rfl) rfl ?_
        refine go_iload_n (at_of tX10_addField 1 13 rfl) rfl ?_
        refine go_iload_n (at_of tX10_addField 1 14 rfl) rfl ?_
        refine go_iload (at_of tX10_addField 1 15 rfl) rfl rfl ?_
        refine go_aload_n (at_of tX10_addField 2 0 rfl) rfl ?_
        refine go_getf fl_X10_187 rfl G_109 (at_of tX10_addField 2 1 rfl) ?_
        refine go_bipush (at_of tX10_addField 2 2 rfl) (by decide) ?_
        refine go_icmp_ne (tgt := 74) (at_of tX10_addField 2 3 rfl) (by decide) (fun h67 => ?_) (fun h67 => ?_)
        · exfalso; omega
        refine go_iconst (at_of tX10_addField 2 4 rfl) (by unfold in32; omega) ?_
        refine go_goto (tgt := 75) (at_of tX10_addField 2 5 rfl) (by decide) ?_
        refine go_cV (wf) lk_X10_176 rfl G_109 (at_of tX10_addField 2 7 rfl) rfl (by decide) rfl (Nat.le_of_ble_eq_true rfl) rfl (by first | decide | exact ⟨Nat.zero_le _, Nat.zero_le _⟩) ?_
        refine go_cV (m_goesOn) lk_X10_141 rfl G_109 (at_of tX10_addField 2 8 rfl) rfl (by decide) rfl (Nat.le_of_ble_eq_true rfl) rfl (by first | decide | exact ⟨Nat.zero_le _, Nat.zero_le _⟩) ?_
        refine go_if_ne (tgt := 86) (at_of tX10_addField 2 9 rfl) (by decide) (fun h81 => ?_) (fun h81 => ?_)
        · exfalso; exact h81 (bI_f hf)
        refine go_iconst (at_of tX10_addField 2 10 rfl) (by unfold in32; omega) ?_
        first | exact go_reti (at_of tX10_addField 2 11 rfl) rfl | exact go_reti (at_of tX10_addField 2 11 rfl) (le_i (by omega)) | exact go_reti (at_of tX10_addField 2 11 rfl) (le_i (by first | exact bI_t (by omega) | exact bI_f (by omega)))
      · rw [y0 q20] at wf
        refine con_of_go mfX10_addField.1 trivial (Nat.le_of_ble_eq_true rfl) rfl (by decide) ?_
        show Go _ _ _ _ 0 [vA _, vI _, vI _, vI _, vI _, vT 9 0, vT 9 0, vT 9 0] [] _ _
        refine go_iload_n (at_of tX10_addField 0 0 rfl) rfl ?_
        refine go_bipush (at_of tX10_addField 0 1 rfl) (by decide) ?_
        refine go_icmp_eq (tgt := 48) (at_of tX10_addField 0 2 rfl) (by decide) (fun h3 => ?_) (fun h3 => ?_)
        · exfalso; omega
        refine go_iload_n (at_of tX10_addField 0 3 rfl) rfl ?_
        refine go_bipush (at_of tX10_addField 0 4 rfl) (by decide) ?_
        refine go_icmp_ne (tgt := 22) (at_of tX10_addField 0 5 rfl) (by decide) (fun h9 => ?_) (fun h9 => ?_)
        rotate_left
        · exfalso; omega
        refine go_iload_n (at_of tX10_addField 0 11 rfl) rfl ?_
        refine go_bipush (at_of tX10_addField 0 12 rfl) (by decide) ?_
        refine go_icmp_eq (tgt := 40) (at_of tX10_addField 0 13 rfl) (by decide) (fun h25 => ?_) (fun h25 => ?_)
        · exfalso; omega
        refine go_iload_n (at_of tX10_addField 0 14 rfl) rfl ?_
        refine go_bipush (at_of tX10_addField 0 15 rfl) (by decide) ?_
        refine go_icmp_eq (tgt := 40) (at_of tX10_addField 1 0 rfl) (by decide) (fun h31 => ?_) (fun h31 => ?_)
        rotate_left
        · exfalso; omega
        refine go_iload (at_of tX10_addField 1 4 rfl) rfl rfl ?_
        refine go_cS (m_isBookmark) lk_X10_184 rfl (at_of tX10_addField 1 5 rfl) rfl (by decide) rfl (Nat.le_of_ble_eq_true rfl) rfl (by first | decide | exact ⟨Nat.zero_le _, Nat.zero_le _⟩) ?_
        refine go_if_eq (tgt := 52) (at_of tX10_addField 1 6 rfl) (by decide) (fun h45 => ?_) (fun h45 => ?_)
        · exfalso; exact bI_0.mp h45 c2
        refine go_iconst (at_of tX10_addField 1 7 rfl) (by unfold in32; omega) ?_
        refine go_goto (tgt := 53) (at_of tX10_addField 1 8 rfl) (by decide) ?_
        refine go_istore (at_of tX10_addField 1 10 rfl) rfl rfl ?_
        refine go_aload_n (at_of tX10_addField 1 11 rfl) rfl ?_
        refine go_aload_n (at_of tX10_addField 1 12 rfl) rfl ?_
        refine go_iload_n (at_of tX10_addField 1 13 rfl) rfl ?_
        refine go_iload_n (at_of tX10_addField 1 14 rfl) rfl ?_
        refine go_iload (at_of tX10_addField 1 15 rfl) rfl rfl ?_
        refine go_aload_n (at_of tX10_addField 2 0 rfl) rfl ?_
        refine go_getf fl_X10_187 rfl G_109 (at_of tX10_addField 2 1 rfl) ?_
        refine go_bipush (at_of tX10_addField 2 2 rfl) (by decide) ?_
        refine go_icmp_ne (tgt := 74) (at_of tX10_addField 2 3 rfl) (by decide) (fun h67 => ?_) (fun h67 => ?_)
        rotate_left
        · exfalso; omega
        refine go_iconst (at_of tX10_addField 2 6 rfl) (by unfold in32; omega) ?_
        refine go_cV (wf) lk_X10_176 rfl G_109 (at_of tX10_addField 2 7 rfl) rfl (by decide) rfl (Nat.le_of_ble_eq_true rfl) rfl (by first | decide | exact ⟨Nat.zero_le _, Nat.zero_le _⟩) ?_
        refine go_cV (m_goesOn) lk_X10_141 rfl G_109 (at_of tX10_addField 2 8 rfl) rfl (by decide) rfl (Nat.le_of_ble_eq_true rfl) rfl (by first | decide | exact ⟨Nat.zero_le _, Nat.zero_le _⟩) ?_
        refine go_if_ne (tgt := 86) (at_of tX10_addField 2 9 rfl) (by decide) (fun h81 => ?_) (fun h81 => ?_)
        · exfalso; exact h81 (bI_f hf)
        refine go_iconst (at_of tX10_addField 2 10 rfl) (by unfold in32; omega) ?_
        first | exact go_reti (at_of tX10_addField 2 11 rfl) rfl | exact go_reti (at_of tX10_addField 2 11 rfl) (le_i (by omega)) | exact go_reti (at_of tX10_addField 2 11 rfl) (le_i (by first | exact bI_t (by omega) | exact bI_f (by omega)))
    · skip
      rw [x1] at wf
      by_cases q20 : σ.1 109 13 = 20
      · rw [y1 q20] at wf
        refine con_of_go mfX10_addField.1 trivial (Nat.le_of_ble_eq_true rfl) rfl (by decide) ?_
        show Go _ _ _ _ 0 [vA _, vI _, vI _, vI _, vI _, vT 9 0, vT 9 0, vT 9 0] [] _ _
        refine go_iload_n (at_of tX10_addField 0 0 rfl) rfl ?_
        refine go_bipush (at_of tX10_addField 0 1 rfl) (by decide) ?_
        refine go_icmp_eq (tgt := 48) (at_of tX10_addField 0 2 rfl) (by decide) (fun h3 => ?_) (fun h3 => ?_)
        · exfalso; omega
        refine go_iload_n (at_of tX10_addField 0 3 rfl) rfl ?_
        refine go_bipush (at_of tX10_addField 0 4 rfl) (by decide) ?_
        refine go_icmp_ne (tgt := 22) (at_of tX10_addField 0 5 rfl) (by decide) (fun h9 => ?_) (fun h9 => ?_)
        rotate_left
        · exfalso; omega
        refine go_iload_n (at_of tX10_addField 0 11 rfl) rfl ?_
        refine go_bipush (at_of tX10_addField 0 12 rfl) (by decide) ?_
        refine go_icmp_eq (tgt := 40) (at_of tX10_addField 0 13 rfl) (by decide) (fun h25 => ?_) (fun h25 => ?_)
        · exfalso; omega
        refine go_iload_n (at_of tX10_addField 0 14 rfl) rfl ?_
        refine go_bipush (at_of tX10_addField 0 15 rfl) (by decide) ?_
        refine go_icmp_eq (tgt := 40) (at_of tX10_addField 1 0 rfl) (by decide) (fun h31 => ?_) (fun h31 => ?_)
        · exfalso; omega
        refine go_iload_n (at_of tX10_addField 1 1 rfl) rfl ?_
        refine go_bipush (at_of tX10_addField 1 2 rfl) (by decide) ?_
        refine go_icmp_ne (tgt := 52) (at_of tX10_addField 1 3 rfl) (by decide) (fun h37 => ?_) (fun h37 => ?_)
        · exfalso; omega
        refine go_iload (at_of tX10_addField 1 4 rfl) rfl rfl ?_
        refine go_cS (m_isBookmark) lk_X10_184 rfl (at_of tX10_addField 1 5 rfl) rfl (by decide) rfl (Nat.le_of_ble_eq_true rfl) rfl (by first | decide | exact ⟨Nat.zero_le _, Nat.zero_le _⟩) ?_
        refine go_if_eq (tgt := 52) (at_of tX10_addField 1 6 rfl) (by decide) (fun h45 => ?_) (fun h45 => ?_)
        · exfalso; exact bI_0.mp h45 c2
        refine go_iconst (at_of tX10_addField 1 7 rfl) (by unfold in32; omega) ?_
        refine go_goto (tgt := 53) (at_of tX10_addField 1 8 rfl) (by decide) ?_
        refine go_istore (at_of tX10_addField 1 10 rfl) rfl rfl ?_
        refine go_aload_n (at_of tX10_addField 1 11 rfl) rfl ?_
        refine go_aload_n (at_of tX10_addField 1 12 rfl) rfl ?_
        refine go_iload_n (at_of tX10_addField 1 13 rfl) rfl ?_
        refine go_iload_n (at_of tX10_addField 1 14 rfl) rfl ?_
        refine go_iload (at_of tX10_addField 1 15 rfl) rfl rfl ?_
        refine go_aload_n (at_of tX10_addField 2 0 rfl) rfl ?_
        refine go_getf fl_X10_187 rfl G_109 (at_of tX10_addField 2 1 rfl) ?_
        refine go_bipush (at_of tX10_addField 2 2 rfl) (by decide) ?_
        refine go_icmp_ne (tgt := 74) (at_of tX10_addField 2 3 rfl) (by decide) (fun h67 => ?_) (fun h67 => ?_)
        · exfalso; omega
        refine go_iconst (at_of tX10_addField 2 4 rfl) (by unfold in32; omega) ?_
        refine go_goto (tgt := 75) (at_of tX10_addField 2 5 rfl) (by decide) ?_
        refine go_cV (wf) lk_X10_176 rfl G_109 (at_of tX10_addField 2 7 rfl) rfl (by decide) rfl (Nat.le_of_ble_eq_true rfl) rfl (by first | decide | exact ⟨Nat.zero_le _, Nat.zero_le _⟩) ?_
        refine go_cV (m_goesOn) lk_X10_141 rfl G_109 (at_of tX10_addField 2 8 rfl) rfl (by decide) rfl (Nat.le_of_ble_eq_true rfl) rfl (by first | decide | exact ⟨Nat.zero_le _, Nat.zero_le _⟩) ?_
        refine go_if_ne (tgt := 86) (at_of tX10_addField 2 9 rfl) (by decide) (fun h81 => ?_) (fun h81 => ?_)
        · exfalso; exact h81 (bI_f hf)
        refine go_iconst (at_of tX10_addField 2 10 rfl) (by unfold in32; omega) ?_
        first | exact go_reti (at_of tX10_addField 2 11 rfl) rfl | exact go_reti (at_of tX10_addField 2 11 rfl) (le_i (by omega)) | exact go_reti (at_of tX10_addField 2 11 rfl) (le_i (by first | exact bI_t (by omega) | exact bI_f (by omega)))
      · rw [y0 q20] at wf
        refine con_of_go mfX10_addField.1 trivial (Nat.le_of_ble_eq_true rfl) rfl (by decide) ?_
        show Go _ _ _ _ 0 [vA _, vI _, vI _, vI _, vI _, vT 9 0, vT 9 0, vT 9 0] [] _ _
        refine go_iload_n (at_of tX10_addField 0 0 rfl) rfl ?_
        refine go_bipush (at_of tX10_addField 0 1 rfl) (by decide) ?_
        refine go_icmp_eq (tgt := 48) (at_of tX10_addField 0 2 rfl) (by decide) (fun h3 => ?_) (fun h3 => ?_)
        · exfalso; omega
        refine go_iload_n (at_of tX10_addField 0 3 rfl) rfl ?_
        refine go_bipush (at_of tX10_addField 0 4 rfl) (by decide) ?_
        refine go_icmp_ne (tgt := 22) (at_of tX10_addField 0 5 rfl) (by decide) (fun h9 => ?_) (fun h9 => ?_)
        rotate_left
        · exfalso; omega
        refine go_iload_n (at_of tX10_addField 0 11 rfl) rfl ?_
        refine go_bipush (at_of tX10_addField 0 12 rfl) (by decide) ?_
        refine go_icmp_eq (tgt := 40) (at_of tX10_addField 0 13 rfl) (by decide) (fun h25 => ?_) (fun h25 => ?_)
        · exfalso; omega
        refine go_iload_n (at_of tX10_addField 0 14 rfl) rfl ?_
        refine go_bipush (at_of tX10_addField 0 15 rfl) (by decide) ?_
        refine go_icmp_eq (tgt := 40) (at_of tX10_addField 1 0 rfl) (by decide) (fun h31 => ?_) (fun h31 => ?_)
        · exfalso; omega
        refine go_iload_n (at_of tX10_addField 1 1 rfl) rfl ?_
        refine go_bipush (at_of tX10_addField 1 2 rfl) (by decide) ?_
        refine go_icmp_ne (tgt := 52) (at_of tX10_addField 1 3 rfl) (by decide) (fun h37 => ?_) (fun h37 => ?_)
        · exfalso; omega
        refine go_iload (at_of tX10_addField 1 4 rfl) rfl rfl ?_
        refine go_cS (m_isBookmark) lk_X10_184 rfl (at_of tX10_addField 1 5 rfl) rfl (by decide) rfl (Nat.le_of_ble_eq_true rfl) rfl (by first | decide | exact ⟨Nat.zero_le _, Nat.zero_le _⟩) ?_
        refine go_if_eq (tgt := 52) (at_of tX10_addField 1 6 rfl) (by decide) (fun h45 => ?_) (fun h45 => ?_)
        · exfalso; exact bI_0.mp h45 c2
        refine go_iconst (at_of tX10_addField 1 7 rfl) (by unfold in32; omega) ?_
        refine go_goto (tgt := 53) (at_of tX10_addField 1 8 rfl) (by decide) ?_
        refine go_istore (at_of tX10_addField 1 10 rfl) rfl rfl ?_
        refine go_aload_n (at_of tX10_addField 1 11 rfl) rfl ?_
        refine go_aload_n (at_of tX10_addField 1 12 rfl) rfl ?_
        refine go_iload_n (at_of tX10_addField 1 13 rfl) rfl ?_
        refine go_iload_n (at_of tX10_addField 1 14 rfl) rfl ?_
        refine go_iload (at_of tX10_addField 1 15 rfl) rfl rfl ?_
        refine go_aload_n (at_of tX10_addField 2 0 rfl) rfl ?_
        refine go_getf fl_X10_187 rfl G_109 (at_of tX10_addField 2 1 rfl) ?_
        refine go_bipush (at_of tX10_addField 2 2 rfl) (by decide) ?_
        refine go_icmp_ne (tgt := 74) (at_of tX10_addField 2 3 rfl) (by decide) (fun h67 => ?_) (fun h67 => ?_)
        rotate_left
        · exfalso; omega
        refine go_iconst (at_of tX10_addField 2 6 rfl) (by unfold in32; omega) ?_
        refine go_cV (wf) lk_X10_176 rfl G_109 (at_of tX10_addField 2 7 rfl) rfl (by decide) rfl (Nat.le_of_ble_eq_true rfl) rfl (by first | decide | exact ⟨Nat.zero_le _, Nat.zero_le _⟩) ?_
        refine go_cV (m_goesOn) lk_X10_141 rfl G_109 (at_of tX10_addField 2 8 rfl) rfl (by decide) rfl (Nat.le_of_ble_eq_true rfl) rfl (by first | decide | exact ⟨Nat.zero_le _, Nat.zero_le _⟩) ?_
        refine go_if_ne (tgt := 86) (at_of tX10_addField 2 9 rfl) (by decide) (fun h81 => ?_) (fun h81 => ?_)
        · exfalso; exact h81 (bI_f hf)
        refine go_iconst (at_of tX10_addField 2 10 rfl) (by unfold in32; omega) ?_
        first | exact go_reti (at_of tX10_addField 2 11 rfl) rfl | exact go_reti (at_of tX10_addField 2 11 rfl) (le_i (by omega)) | exact go_reti (at_of tX10_addField 2 11 rfl) (le_i (by first | exact bI_t (by omega) | exact bI_f (by omega)))
  · have x0 := x0 c
    by_cases c114 : d = 114
    · have c2 : ¬ (0 ≤ o ∧ o ≤ 2) := fun q => c (Or.inr (Or.inl ⟨c114, q⟩))
      rw [x0] at wf
      by_cases q20 : σ.1 109 13 = 20
      · rw [y1 q20] at wf
        refine con_of_go mfX10_addField.1 trivial (Nat.le_of_ble_eq_true rfl) rfl (by decide) ?_
        show Go _ _ _ _ 0 [vA _, vI _, vI _, vI _, vI _, vT 9 0, vT 9 0, vT 9 0] [] _ _
        refine go_iload_n (at_of tX10_addField 0 0 rfl) rfl ?_
        refine go_bipush (at_of tX10_addField 0 1 rfl) (by decide) ?_
        refine go_icmp_eq (tgt := 48) (at_of tX10_addField 0 2 rfl) (by decide) (fun h3 => ?_) (fun h3 => ?_)
        · exfalso; omega
        refine go_iload_n (at_of tX10_addField 0 3 rfl) rfl ?_
        refine go_bipush (at_of tX10_addField 0 4 rfl) (by decide) ?_
        refine go_icmp_ne (tgt := 22) (at_of tX10_addField 0 5 rfl) (by decide) (fun h9 => ?_) (fun h9 => ?_)
        · exfalso; omega
        refine go_iload (at_of tX10_addField 0 6 rfl) rfl rfl ?_
        refine go_iconst (at_of tX10_addField 0 7 rfl) (by unfold in32; omega) ?_
        refine go_iconst (at_of tX10_addField 0 8 rfl) (by unfold in32; omega) ?_
        refine go_cS (m_in) lk_X10_124 rfl (at_of tX10_addField 0 9 rfl) rfl (by decide) rfl (Nat.le_of_ble_eq_true rfl) rfl (by first | decide | exact ⟨Nat.zero_le _, Nat.zero_le _⟩) ?_
        refine go_if_ne (tgt := 48) (at_of tX10_addField 0 10 rfl) (by decide) (fun h19 => ?_) (fun h19 => ?_)
        · exfalso; exact h19 (bI_f c2)
        refine go_iload_n (at_of tX10_addField 0 11 rfl) rfl ?_
        refine go_bipush (at_of tX10_addField 0 12 rfl) (by decide) ?_
        refine go_icmp_eq (tgt := 40) (at_of tX10_addField 0 13 rfl) (by decide) (fun h25 => ?_) (fun h25 => ?_)
        · exfalso; omega
        refine go_iload_n (at_of tX10_addField 0 14 rfl) rfl ?_
        refine go_bipush (at_of tX10_addField 0 15 rfl) (by decide) ?_
        refine go_icmp_eq (tgt := 40) (at_of tX10_addField 1 0 rfl) (by decide) (fun h31 => ?_) (fun h31 => ?_)
        · exfalso; omega
        refine go_iload_n (at_of tX10_addField 1 1 rfl) rfl ?_
        refine go_bipush (at_of tX10_addField 1 2 rfl) (by decide) ?_
        refine go_icmp_ne (tgt := 52) (at_of tX10_addField 1 3 rfl) (by decide) (fun h37 => ?_) (fun h37 => ?_)
        rotate_left
        · exfalso; omega
        refine go_iconst (at_of tX10_addField 1 9 rfl) (by unfold in32; omega) ?_
        refine go_istore (at_of tX10_addField 1 10 rfl) rfl rfl ?_
        refine go_aload_n (at_of tX10_addField 1 11 rfl) rfl ?_
        refine go_aload_n (at_of tX10_addField 1 12 rfl) rfl ?_
        refine go_iload_n (at_of tX10_addField 1 13 rfl) rfl ?_
        refine go_iload_n (at_of tX10_addField 1 14 rfl) rfl ?_
        refine go_iload (at_of tX10_addField 1 15 rfl) rfl rfl ?_
        refine go_aload_n (at_of tX10_addField 2 0 rfl) rfl ?_
        refine go_getf fl_X10_187 rfl G_109 (at_of tX10_addField 2 1 rfl) ?_
        refine go_bipush (at_of tX10_addField 2 2 rfl) (by decide) ?_
        refine go_icmp_ne (tgt := 74) (at_of tX10_addField 2 3 rfl) (by decide) (fun h67 => ?_) (fun h67 => ?_)
        · exfalso; omega
        refine go_iconst (at_of tX10_addField 2 4 rfl) (by unfold in32; omega) ?_
        refine go_goto (tgt := 75) (at_of tX10_addField 2 5 rfl) (by decide) ?_
        refine go_cV (wf) lk_X10_176 rfl G_109 (at_of tX10_addField 2 7 rfl) rfl (by decide) rfl (Nat.le_of_ble_eq_true rfl) rfl (by first | decide | exact ⟨Nat.zero_le _, Nat.zero_le _⟩) ?_
        refine go_cV (m_goesOn) lk_X10_141 rfl G_109 (at_of tX10_addField 2 8 rfl) rfl (by decide) rfl (Nat.le_of_ble_eq_true rfl) rfl (by first | decide | exact ⟨Nat.zero_le _, Nat.zero_le _⟩) ?_
        refine go_if_ne (tgt := 86) (at_of tX10_addField 2 9 rfl) (by decide) (fun h81 => ?_) (fun h81 => ?_)
        · exfalso; exact h81 (bI_f hf)
        refine go_iconst (at_of tX10_addField 2 10 rfl) (by unfold in32; omega) ?_
        first | exact go_reti (at_of tX10_addField 2 11 rfl) rfl | exact go_reti (at_of tX10_addField 2 11 rfl) (le_i (by omega)) | exact go_reti (at_of tX10_addField 2 11 rfl) (le_i (by first | exact bI_t (by omega) | exact bI_f (by omega)))
      · rw [y0 q20] at wf
        refine con_of_go mfX10_addField.1 trivial (Nat.le_of_ble_eq_true rfl) rfl (by decide) ?_
        show Go _ _ _ _ 0 [vA _, vI _, vI _, vI _, vI _, vT 9 0, vT 9 0, vT 9 0] [] _ _
        refine go_iload_n (at_of tX10_addField 0 0 rfl) rfl ?_
        refine go_bipush (at_of tX10_addField 0 1 rfl) (by decide) ?_
        refine go_icmp_eq (tgt := 48) (at_of tX10_addField 0 2 rfl) (by decide) (fun h3 => ?_) (fun h3 => ?_)
        · exfalso; omega
        refine go_iload_n (at_of tX10_addField 0 3 rfl) rfl ?_
        refine go_bipush (at_of tX10_addField 0 4 rfl) (by decide) ?_
        refine go_icmp_ne (tgt := 22) (at_of tX10_addField 0 5 rfl) (by decide) (fun h9 => ?_) (fun h9 => ?_)
        · exfalso; omega
        refine go_iload (at_of tX10_addField 0 6 rfl) rfl rfl ?_
        refine go_iconst (at_of tX10_addField 0 7 rfl) (by unfold in32; omega) ?_
        refine go_iconst (at_of tX10_addField 0 8 rfl) (by unfold in32; omega) ?_
        refine go_cS (m_in) lk_X10_124 rfl (at_of tX10_addField 0 9 rfl) rfl (by decide) rfl (Nat.le_of_ble_eq_true rfl) rfl (by first | decide | exact ⟨Nat.zero_le _, Nat.zero_le _⟩) ?_
        refine go_if_ne (tgt := 48) (at_of tX10_addField 0 10 rfl) (by decide) (fun h19 => ?_) (fun h19 => ?_)
        · exfalso; exact h19 (bI_f c2)
        refine go_iload_n (at_of tX10_addField 0 11 rfl) rfl ?_
        refine go_bipush (at_of tX10_addField 0 12 rfl) (by decide) ?_
        refine go_icmp_eq (tgt := 40) (at_of tX10_addField 0 13 rfl) (by decide) (fun h25 => ?_) (fun h25 => ?_)
        · exfalso; omega
        refine go_iload_n (at_of tX10_addField 0 14 rfl) rfl ?_
        refine go_bipush (at_of tX10_addField 0 15 rfl) (by decide) ?_
        refine go_icmp_eq (tgt := 40) (at_of tX10_addField 1 0 rfl) (by decide) (fun h31 => ?_) (fun h31 => ?_)
        · exfalso; omega
        refine go_iload_n (at_of tX10_addField 1 1 rfl) rfl ?_
        refine go_bipush (at_of tX10_addField 1 2 rfl) (by decide) ?_
        refine go_icmp_ne (tgt := 52) (at_of tX10_addField 1 3 rfl) (by decide) (fun h37 => ?_) (fun h37 => ?_)
        rotate_left
        · exfalso; omega
        refine go_iconst (at_of tX10_addField 1 9 rfl) (by unfold in32; omega) ?_
        refine go_istore (at_of tX10_addField 1 10 rfl) rfl rfl ?_
        refine go_aload_n (at_of tX10_addField 1 11 rfl) rfl ?_
        refine go_aload_n (at_of tX10_addField 1 12 rfl) rfl ?_
        refine go_iload_n (at_of tX10_addField 1 13 rfl) rfl ?_
        refine go_iload_n (at_of tX10_addField 1 14 rfl) rfl ?_
        refine go_iload (at_of tX10_addField 1 15 rfl) rfl rfl ?_
        refine go_aload_n (at_of tX10_addField 2 0 rfl) rfl ?_
        refine go_getf fl_X10_187 rfl G_109 (at_of tX10_addField 2 1 rfl) ?_
        refine go_bipush (at_of tX10_addField 2 2 rfl) (by decide) ?_
        refine go_icmp_ne (tgt := 74) (at_of tX10_addField 2 3 rfl) (by decide) (fun h67 => ?_) (fun h67 => ?_)
        rotate_left
        · exfalso; omega
        refine go_iconst (at_of tX10_addField 2 6 rfl) (by unfold in32; omega) ?_
        refine go_cV (wf) lk_X10_176 rfl G_109 (at_of tX10_addField 2 7 rfl) rfl (by decide) rfl (Nat.le_of_ble_eq_true rfl) rfl (by first | decide | exact ⟨Nat.zero_le _, Nat.zero_le _⟩) ?_
        refine go_cV (m_goesOn) lk_X10_141 rfl G_109 (at_of tX10_addField 2 8 rfl) rfl (by decide) rfl (Nat.le_of_ble_eq_true rfl) rfl (by first | decide | exact ⟨Nat.zero_le _, Nat.zero_le _⟩) ?_
        refine go_if_ne (tgt := 86) (at_of tX10_addField 2 9 rfl) (by decide) (fun h81 => ?_) (fun h81 => ?_)
        · exfalso; exact h81 (bI_f hf)
        refine go_iconst (at_of tX10_addField 2 10 rfl) (by unfold in32; omega) ?_
        first | exact go_reti (at_of tX10_addField 2 11 rfl) rfl | exact go_reti (at_of tX10_addField 2 11 rfl) (le_i (by omega)) | exact go_reti (at_of tX10_addField 2 11 rfl) (le_i (by first | exact bI_t (by omega) | exact bI_f (by omega)))
    · by_cases c3 : d = 110 ∨ d = 112 ∨ d = 108
      · have c2 : ¬ (0 ≤ o ∧ o ≤ 5) := fun q => c (Or.inr (Or.inr ⟨c3, q⟩))
        rcases c3 with c3 | c3 | c3
        · skip
          rw [x0] at wf
          by_cases q20 : σ.1 109 13 = 20
          · rw [y1 q20] at wf
            refine con_of_go mfX10_addField.1 trivial (Nat.le_of_ble_eq_true rfl) rfl (by decide) ?_
            show Go _ _ _ _ 0 [vA _, vI _, vI _, vI _, vI _, vT 9 0, vT 9 0, vT 9 0] [] _ _
            refine go_iload_n (at_of tX10_addField 0 0 rfl) rfl ?_
            refine go_bipush (at_of tX10_addField 0 1 rfl) (by decide) ?_
            refine go_icmp_eq (tgt := 48) (at_of tX10_addField 0 2 rfl) (by decide) (fun h3 => ?_) (fun h3 => ?_)
            · exfalso; omega
            refine go_iload_n (at_of tX10_addField 0 3 rfl) rfl ?_
            refine go_bipush (at_of tX10_addField 0 4 rfl) (by decide) ?_
            refine go_icmp_ne (tgt := 22) (at_of tX10_addField 0 5 rfl) (by decide) (fun h9 => ?_) (fun h9 => ?_)
            rotate_left
            · exfalso; omega
            refine go_iload_n (at_of tX10_addField 0 11 rfl) rfl ?_
            refine go_bipush (at_of tX10_addField 0 12 rfl) (by decide) ?_
            refine go_icmp_eq (tgt := 40) (at_of tX10_addField 0 13 rfl) (by decide) (fun h25 => ?_) (fun h25 => ?_)
            rotate_left
            · exfalso; omega
            refine go_iload (at_of tX10_addField 1 4 rfl) rfl rfl ?_
            refine go_cS (m_isBookmark) lk_X10_184 rfl (at_of tX10_addField 1 5 rfl) rfl (by decide) rfl (Nat.le_of_ble_eq_true rfl) rfl (by first | decide | exact ⟨Nat.zero_le _, Nat.zero_le _⟩) ?_
            refine go_if_eq (tgt := 52) (at_of tX10_addField 1 6 rfl) (by decide) (fun h45 => ?_) (fun h45 => ?_)
            rotate_left
            · exfalso; exact c2 (bI_1.mp h45)
            refine go_iconst (at_of tX10_addField 1 9 rfl) (by unfold in32; omega) ?_
            refine go_istore (at_of tX10_addField 1 10 rfl) rfl rfl ?_
            refine go_aload_n (at_of tX10_addField 1 11 rfl) rfl ?_
            refine go_aload_n (at_of tX10_addField 1 12 rfl) rfl ?_
            refine go_iload_n (at_of tX10_addField 1 13 rfl) rfl ?_
            refine go_iload_n (at_of tX10_addField 1 14 rfl) rfl ?_
            refine go_iload (at_of tX10_addField 1 15 rfl) rfl rfl ?_
            refine go_aload_n (at_of tX10_addField 2 0 rfl) rfl ?_
            refine go_getf fl_X10_187 rfl G_109 (at_of tX10_addField 2 1 rfl) ?_
            refine go_bipush (at_of tX10_addField 2 2 rfl) (by decide) ?_
            refine go_icmp_ne (tgt := 74) (at_of tX10_addField 2 3 rfl) (by decide) (fun h67 => ?_) (fun h67 => ?_)
            · exfalso; omega
            refine go_iconst (at_of tX10_addField 2 4 rfl) (by unfold in32; omega) ?_
            refine go_goto (tgt := 75) (at_of tX10_addField 2 5 rfl) (by decide) ?_
            refine go_cV (wf) lk_X10_176 rfl G_109 (at_of tX10_addField 2 7 rfl) rfl (by decide) rfl (Nat.le_of_ble_eq_true rfl) rfl (by first | decide | exact ⟨Nat.zero_le _, Nat.zero_le _⟩) ?_
            refine go_cV (m_goesOn) lk_X10_141 rfl G_109 (at_of tX10_addField 2 8 rfl) rfl (by decide) rfl (Nat.le_of_ble_eq_true rfl) rfl (by first | decide | exact ⟨Nat.zero_le _, Nat.zero_le _⟩) ?_
            refine go_if_ne (tgt := 86) (at_of tX10_addField 2 9 rfl) (by decide) (fun h81 => ?_) (fun h81 => ?_)
            · exfalso; exact h81 (bI_f hf)
            refine go_iconst (at_of tX10_addField 2 10 rfl) (by unfold in32; omega) ?_
            first | exact go_reti (at_of tX10_addField 2 11 rfl) rfl | exact go_reti (at_of tX10_addField 2 11 rfl) (le_i (by omega)) | exact go_reti (at_of tX10_addField 2 11 rfl) (le_i (by first | exact bI_t (by omega) | exact bI_f (by omega)))
          · rw [y0 q20] at wf
            refine con_of_go mfX10_addField.1 trivial (Nat.le_of_ble_eq_true rfl) rfl (by decide) ?_
            show Go _ _ _ _ 0 [vA _, vI _, vI _, vI _, vI _, vT 9 0, vT 9 0, vT 9 0] [] _ _
            refine go_iload_n (at_of tX10_addField 0 0 rfl) rfl ?_
            refine go_bipush (at_of tX10_addField 0 1 rfl) (by decide) ?_
            refine go_icmp_eq (tgt := 48) (at_of tX10_addField 0 2 rfl) (by decide) (fun h3 => ?_) (fun h3 => ?_)
            · exfalso; omega
            refine go_iload_n (at_of tX10_addField 0 3 rfl) rfl ?_
            refine go_bipush (at_of tX10_addField 0 4 rfl) (by decide) ?_
            refine go_icmp_ne (tgt := 22) (at_of tX10_addField 0 5 rfl) (by decide) (fun h9 => ?_) (fun h9 => ?_)
            rotate_left
            · exfalso; omega
            refine go_iload_n (at_of tX10_addField 0 11 rfl) rfl ?_
            refine go_bipush (at_of tX10_addField 0 12 rfl) (by decide) ?_
            refine go_icmp_eq (tgt := 40) (at_of tX10_addField 0 13 rfl) (by decide) (fun h25 => ?_) (fun h25 => ?_)
            rotate_left
            · exfalso; omega
            refine go_iload (at_of tX10_addField 1 4 rfl) rfl rfl ?_
            refine go_cS (m_isBookmark) lk_X10_184 rfl (at_of tX10_addField 1 5 rfl) rfl (by decide) rfl (Nat.le_of_ble_eq_true rfl) rfl (by first | decide | exact ⟨Nat.zero_le _, Nat.zero_le _⟩) ?_
            refine go_if_eq (tgt := 52) (at_of tX10_addField 1 6 rfl) (by decide) (fun h45 => ?_) (fun h45 => ?_)
            rotate_left
            · exfalso; exact c2 (bI_1.mp h45)
            refine go_iconst (at_of tX10_addField 1 9 rfl) (by unfold in32; omega) ?_
            refine go_istore (at_of tX10_addField 1 10 rfl) rfl rfl ?_
            refine go_aload_n (at_of tX10_addField 1 11 rfl) rfl ?_
            refine go_aload_n (at_of tX10_addField 1 12 rfl) rfl ?_
            refine go_iload_n (at_of tX10_addField 1 13 rfl) rfl ?_
            refine go_iload_n (at_of tX10_addField 1 14 rfl) rfl ?_
            refine go_iload (at_of tX10_addField 1 15 rfl) rfl rfl ?_
            refine go_aload_n (at_of tX10_addField 2 0 rfl) rfl ?_
            refine go_getf fl_X10_187 rfl G_109 (at_of tX10_addField 2 1 rfl) ?_
            refine go_bipush (at_of tX10_addField 2 2 rfl) (by decide) ?_
            refine go_icmp_ne (tgt := 74) (at_of tX10_addField 2 3 rfl) (by decide) (fun h67 => ?_) (fun h67 => ?_)
            rotate_left
            · exfalso; omega
            refine go_iconst (at_of tX10_addField 2 6 rfl) (by unfold in32; omega) ?_
            refine go_cV (wf) lk_X10_176 rfl G_109 (at_of tX10_addField 2 7 rfl) rfl (by decide) rfl (Nat.le_of_ble_eq_true rfl) rfl (by first | decide | exact ⟨Nat.zero_le _, Nat.zero_le _⟩) ?_
            refine go_cV (m_goesOn) lk_X10_141 rfl G_109 (at_of tX10_addField 2 8 rfl) rfl (by decide) rfl (Nat.le_of_ble_eq_true rfl) rfl (by first | decide | exact ⟨Nat.zero_le _, Nat.zero_le _⟩) ?_
            refine go_if_ne (tgt := 86) (at_of tX10_addField 2 9 rfl) (by decide) (fun h81 => ?_) (fun h81 => ?_)
            · exfalso; exact h81 (bI_f hf)
            refine go_iconst (at_of tX10_addField 2 10 rfl) (by unfold in32; omega) ?_
            first | exact go_reti (at_of tX10_addField 2 11 rfl) rfl | exact go_reti (at_of tX10_addField 2 11 rfl) (le_i (by omega)) | exact go_reti (at_of tX10_addField 2 11 rfl) (le_i (by first | exact bI_t (by omega) | exact bI_f (by omega)))
        · skip
          rw [x0] at wf
          by_cases q20 : σ.1 109 13 = 20
          · rw [y1 q20] at wf
            refine con_of_go mfX10_addField.1 trivial (Nat.le_of_ble_eq_true rfl) rfl (by decide) ?_
            show Go _ _ _ _ 0 [vA _, vI _, vI _, vI _, vI _, vT 9 0, vT 9 0, vT 9 0] [] _ _
            refine go_iload_n (at_of tX10_addField 0 0 rfl) rfl ?_
            refine go_bipush (at_of tX10_addField 0 1 rfl) (by decide) ?_
            refine go_icmp_eq (tgt := 48) (at_of tX10_addField 0 2 rfl) (by decide) (fun h3 => ?_) (fun h3 => ?_)
            · exfalso; omega
            refine go_iload_n (at_of tX10_addField 0 3 rfl) rfl ?_
            refine go_bipush (at_of tX10_addField 0 4 rfl) (by decide) ?_
            refine go_icmp_ne (tgt := 22) (at_of tX10_addField 0 5 rfl) (by decide) (fun h9 => ?_) (fun h9 => ?_)
            rotate_left
            · exfalso; omega
            refine go_iload_n (at_of tX10_addField 0 11 rfl) rfl ?_
            refine go_bipush (at_of tX10_addField 0 12 rfl) (by decide) ?_
            refine go_icmp_eq (tgt := 40) (at_of tX10_addField 0 13 rfl) (by decide) (fun h25 => ?_) (fun h25 => ?_)
            · exfalso; omega
            refine go_iload_n (at_of tX10_addField 0 14 rfl) rfl ?_
            refine go_bipush (at_of tX10_addField 0 15 rfl) (by decide) ?_
            refine go_icmp_eq (tgt := 40) (at_of tX10_addField 1 0 rfl) (by decide) (fun h31 => ?_) (fun h31 => ?_)
            rotate_left
            · exfalso; omega
            refine go_iload (at_of tX10_addField 1 4 rfl) rfl rfl ?_
            refine go_cS (m_isBookmark) lk_X10_184 rfl (at_of tX10_addField 1 5 rfl) rfl (by decide) rfl (Nat.le_of_ble_eq_true rfl) rfl (by first | decide | exact ⟨Nat.zero_le _, Nat.zero_le _⟩) ?_
            refine go_if_eq (tgt := 52) (at_of tX10_addField 1 6 rfl) (by decide) (fun h45 => ?_) (fun h45 => ?_)
            rotate_left
            · exfalso; exact c2 (bI_1.mp h45)
            refine go_iconst (at_of tX10_addField 1 9 rfl) (by unfold in32; omega) ?_
            refine go_istore (at_of tX10_addField 1 10 rfl) rfl rfl ?_
            refine go_aload_n (at_of tX10_addField 1 11 rfl) rfl ?_
            refine go_aload_n (at_of tX10_addField 1 12 rfl) rfl ?_
            refine go_iload_n (at_of tX10_addField 1 13 rfl) rfl ?_
            refine go_iload_n (at_of tX10_addField 1 14 rfl) rfl ?_
            refine go_iload (at_of tX10_addField 1 15 rfl) rfl rfl ?_
            refine go_aload_n (at_of tX10_addField 2 0 rfl) rfl ?_
            refine go_getf fl_X10_187 rfl G_109 (at_of tX10_addField 2 1 rfl) ?_
            refine go_bipush (at_of tX10_addField 2 2 rfl) (by decide) ?_
            refine go_icmp_ne (tgt := 74) (at_of tX10_addField 2 3 rfl) (by decide) (fun h67 => ?_) (fun h67 => ?_)
            · exfalso; omega
            refine go_iconst (at_of tX10_addField 2 4 rfl) (by unfold in32; omega) ?_
            refine go_goto (tgt := 75) (at_of tX10_addField 2 5 rfl) (by decide) ?_
            refine go_cV (wf) lk_X10_176 rfl G_109 (at_of tX10_addField 2 7 rfl) rfl (by decide) rfl (Nat.le_of_ble_eq_true rfl) rfl (by first | decide | exact ⟨Nat.zero_le _, Nat.zero_le _⟩) ?_
            refine go_cV (m_goesOn) lk_X10_141 rfl G_109 (at_of tX10_addField 2 8 rfl) rfl (by decide) rfl (Nat.le_of_ble_eq_true rfl) rfl (by first | decide | exact ⟨Nat.zero_le _, Nat.zero_le _⟩) ?_
            refine go_if_ne (tgt := 86) (at_of tX10_addField 2 9 rfl) (by decide) (fun h81 => ?_) (fun h81 => ?_)
            · exfalso; exact h81 (bI_f hf)
            refine go_iconst (at_of tX10_addField 2 10 rfl) (by unfold in32; omega) ?_
            first | exact go_reti (at_of tX10_addField 2 11 rfl) rfl | exact go_reti (at_of tX10_addField 2 11 rfl) (le_i (by omega)) | exact go_reti (at_of tX10_addField 2 11 rfl) (le_i (by first | exact bI_t (by omega) | exact bI_f (by omega)))
          · rw [y0 q20] at wf
            refine con_of_go mfX10_addField.1 trivial (Nat.le_of_ble_eq_true rfl) rfl (by decide) ?_
            show Go _ _ _ _ 0 [vA _, vI _, vI _, vI _, vI _, vT 9 0, vT 9 0, vT 9 0] [] _ _
            refine go_iload_n (at_of tX10_addField 0 0 rfl) rfl ?_
            refine go_bipush (at_of tX10_addField 0 1 rfl) (by decide) ?_
            refine go_icmp_eq (tgt := 48) (at_of tX10_addField 0 2 rfl) (by decide) (fun h3 => ?_) (fun h3 => ?_)
            · exfalso; omega
            refine go_iload_n (at_of tX10_addField 0 3 rfl) rfl ?_
            refine go_bipush (at_of tX10_addField 0 4 rfl) (by decide) ?_
            refine go_icmp_ne (tgt := 22) (at_of tX10_addField 0 5 rfl) (by decide) (fun h9 => ?_) (fun h9 => ?_)
            rotate_left
            · exfalso; omega
            refine go_iload_n (at_of tX10_addField 0 11 rfl) rfl ?_
            refine go_bipush (at_of tX10_addField 0 12 rfl) (by decide) ?_
            refine go_icmp_eq (tgt := 40) (at_of tX10_addField 0 13 rfl) (by decide) (fun h25 => ?_) (fun h25 => ?_)
            · exfalso; omega
            refine go_iload_n (at_of tX10_addField 0 14 rfl) rfl ?_
            refine go_bipush (at_of tX10_addField 0 15 rfl) (by decide) ?_
            refine go_icmp_eq (tgt := 40) (at_of tX10_addField 1 0 rfl) (by decide) (fun h31 => ?_) (fun h31 => ?_)
            rotate_left
            · exfalso; omega
            refine go_iload (at_of tX10_addField 1 4 rfl) rfl rfl ?_
            refine go_cS (m_isBookmark) lk_X10_184 rfl (at_of tX10_addField 1 5 rfl) rfl (by decide) rfl (Nat.le_of_ble_eq_true rfl) rfl (by first | decide | exact ⟨Nat.zero_le _, Nat.zero_le _⟩) ?_
            refine go_if_eq (tgt := 52) (at_of tX10_addField 1 6 rfl) (by decide) (fun h45 => ?_) (fun h45 => ?_)
            rotate_left
            · exfalso; exact c2 (bI_1.mp h45)
            refine go_iconst (at_of tX10_addField 1 9 rfl) (by unfold in32; omega) ?_
            refine go_istore (at_of tX10_addField 1 10 rfl) rfl rfl ?_
            refine go_aload_n (at_of tX10_addField 1 11 rfl) rfl ?_
            refine go_aload_n (at_of tX10_addField 1 12 rfl) rfl ?_
            refine go_iload_n (at_of tX10_addField 1 13 rfl) rfl ?_
            refine go_iload_n (at_of tX10_addField 1 14 rfl) rfl ?_
            refine go_iload (at_of tX10_addField 1 15 rfl) rfl rfl ?_
            refine go_aload_n (at_of tX10_addField 2 0 rfl) rfl ?_
            refine go_getf fl_X10_187 rfl G_109 (at_of tX10_addField 2 1 rfl) ?_
            refine go_bipush (at_of tX10_addField 2 2 rfl) (by decide) ?_
            refine go_icmp_ne (tgt := 74) (at_of tX10_addField 2 3 rfl) (by decide) (fun h67 => ?_) (fun h67 => ?_)
            rotate_left
            · exfalso; omega
            refine go_iconst (at_of tX10_addField 2 6 rfl) (by unfold in32; omega) ?_
            refine go_cV (wf) lk_X10_176 rfl G_109 (at_of tX10_addField 2 7 rfl) rfl (by decide) rfl (Nat.le_of_ble_eq_true rfl) rfl (by first | decide | exact ⟨Nat.zero_le _, Nat.zero_le _⟩) ?_
            refine go_cV (m_goesOn) lk_X10_141 rfl G_109 (at_of tX10_addField 2 8 rfl) rfl (by decide) rfl (Nat.le_of_ble_eq_true rfl) rfl (by first | decide | exact ⟨Nat.zero_le _, Nat.zero_le _⟩) ?_
            refine go_if_ne (tgt := 86) (at_of tX10_addField 2 9 rfl) (by decide) (fun h81 => ?_) (fun h81 => ?_)
            · exfalso; exact h81 (bI_f hf)
            refine go_iconst (at_of tX10_addField 2 10 rfl) (by unfold in32; omega) ?_
            first | exact go_reti (at_of tX10_addField 2 11 rfl) rfl | exact go_reti (at_of tX10_addField 2 11 rfl) (le_i (by omega)) | exact go_reti (at_of tX10_addField 2 11 rfl) (le_i (by first | exact bI_t (by omega) | exact bI_f (by omega)))
        · skip
          rw [x0] at wf
          by_cases q20 : σ.1 109 13 = 20
          · rw [y1 q20] at wf
            refine con_of_go mfX10_addField.1 trivial (Nat.le_of_ble_eq_true rfl) rfl (by decide) ?_
            show Go _ _ _ _ 0 [vA _, vI _, vI _, vI _, vI _, vT 9 0, vT 9 0, vT 9 0] [] _ _
            refine go_iload_n (at_of tX10_addField 0 0 rfl) rfl ?_
            refine go_bipush (at_of tX10_addField 0 1 rfl) (by decide) ?_
            refine go_icmp_eq (tgt := 48) (at_of tX10_addField 0 2 rfl) (by decide) (fun h3 => ?_) (fun h3 => ?_)
            · exfalso; omega
            refine go_iload_n (at_of tX10_addField 0 3 rfl) rfl ?_
            refine go_bipush (at_of tX10_addField 0 4 rfl) (by decide) ?_
            refine go_icmp_ne (tgt := 22) (at_of tX10_addField 0 5 rfl) (by decide) (fun h9 => ?_) (fun h9 => ?_)
            rotate_left
            · exfalso; omega
            refine go_iload_n (at_of tX10_addField 0 11 rfl) rfl ?_
            refine go_bipush (at_of tX10_addField 0 12 rfl) (by decide) ?_
            refine go_icmp_eq (tgt := 40) (at_of tX10_addField 0 13 rfl) (by decide) (fun h25 => ?_) (fun h25 => ?_)
            · exfalso; omega
            refine go_iload_n (at_of tX10_addField 0 14 rfl) rfl ?_
            refine go_bipush (at_of tX10_addField 0 15 rfl) (by decide) ?_
            refine go_icmp_eq (tgt := 40) (at_of tX10_addField 1 0 rfl) (by decide) (fun h31 => ?_) (fun h31 => ?_)
            · exfalso; omega
            refine go_iload_n (at_of tX10_addField 1 1 rfl) rfl ?_
            refine go_bipush (at_of tX10_addField 1 2 rfl) (by decide) ?_
            refine go_icmp_ne (tgt := 52) (at_of tX10_addField 1 3 rfl) (by decide) (fun h37 => ?_) (fun h37 => ?_)
            · exfalso; omega
            refine go_iload (at_of tX10_addField 1 4 rfl) rfl rfl ?_
            refine go_cS (m_isBookmark) lk_X10_184 rfl (at_of tX10_addField 1 5 rfl) rfl (by decide) rfl (Nat.le_of_ble_eq_true rfl) rfl (by first | decide | exact ⟨Nat.zero_le _, Nat.zero_le _⟩) ?_
            refine go_if_eq (tgt := 52) (at_of tX10_addField 1 6 rfl) (by decide) (fun h45 => ?_) (fun h45 => ?_)
            rotate_left
            · exfalso; exact c2 (bI_1.mp h45)
            refine go_iconst (at_of tX10_addField 1 9 rfl) (by unfold in32; omega) ?_
            refine go_istore (at_of tX10_addField 1 10 rfl) rfl rfl ?_
            refine go_aload_n (at_of tX10_addField 1 11 rfl) rfl ?_
            refine go_aload_n (at_of tX10_addField 1 12 rfl) rfl ?_
            refine go_iload_n (at_of tX10_addField 1 13 rfl) rfl ?_
            refine go_iload_n (at_of tX10_addField 1 14 rfl) rfl ?_
            refine go_iload (at_of tX10_addField 1 15 rfl) rfl rfl ?_
            refine go_aload_n (at_of tX10_addField 2 0 rfl) rfl ?_
            refine go_getf fl_X10_187 rfl G_109 (at_of tX10_addField 2 1 rfl) ?_
            refine go_bipush (at_of tX10_addField 2 2 rfl) (by decide) ?_
            refine go_icmp_ne (tgt := 74) (at_of tX10_addField 2 3 rfl) (by decide) (fun h67 => ?_) (fun h67 => ?_)
            · exfalso; omega
            refine go_iconst (at_of tX10_addField 2 4 rfl) (by unfold in32; omega) ?_
            refine go_goto (tgt := 75) (at_of tX10_addField 2 5 rfl) (by decide) ?_
            refine go_cV (wf) lk_X10_176 rfl G_109 (at_of tX10_addField 2 7 rfl) rfl (by decide) rfl (Nat.le_of_ble_eq_true rfl) rfl (by first | decide | exact ⟨Nat.zero_le _, Nat.zero_le _⟩) ?_
            refine go_cV (m_goesOn) lk_X10_141 rfl G_109 (at_of tX10_addField 2 8 rfl) rfl (by decide) rfl (Nat.le_of_ble_eq_true rfl) rfl (by first | decide | exact ⟨Nat.zero_le _, Nat.zero_le _⟩) ?_
            refine go_if_ne (tgt := 86) (at_of tX10_addField 2 9 rfl) (by decide) (fun h81 => ?_) (fun h81 => ?_)
            · exfalso; exact h81 (bI_f hf)
            refine go_iconst (at_of tX10_addField 2 10 rfl) (by unfold in32; omega) ?_
            first | exact go_reti (at_of tX10_addField 2 11 rfl) rfl | exact go_reti (at_of tX10_addField 2 11 rfl) (le_i (by omega)) | exact go_reti (at_of tX10_addField 2 11 rfl) (le_i (by first | exact bI_t (by omega) | exact bI_f (by omega)))
          · rw [y0 q20] at wf
            refine con_of_go mfX10_addField.1 trivial (Nat.le_of_ble_eq_true rfl) rfl (by decide) ?_
            show Go _ _ _ _ 0 [vA _, vI _, vI _, vI _, vI _, vT 9 0, vT 9 0, vT 9 0] [] _ _
            refine go_iload_n (at_of tX10_addField 0 0 rfl) rfl ?_
            refine go_bipush (at_of tX10_addField 0 1 rfl) (by decide) ?_
            refine go_icmp_eq (tgt := 48) (at_of tX10_addField 0 2 rfl) (by decide) (fun h3 => ?_) (fun h3 => ?_)
            · exfalso; omega
            refine go_iload_n (at_of tX10_addField 0 3 rfl) rfl ?_
            refine go_bipush (at_of tX10_addField 0 4 rfl) (by decide) ?_
            refine go_icmp_ne (tgt := 22) (at_of tX10_addField 0 5 rfl) (by decide) (fun h9 => ?_) (fun h9 => ?_)
            rotate_left
            · exfalso; omega
            refine go_iload_n (at_of tX10_addField 0 11 rfl) rfl ?_
            refine go_bipush (at_of tX10_addField 0 12 rfl) (by decide) ?_
            refine go_icmp_eq (tgt := 40) (at_of tX10_addField 0 13 rfl) (by decide) (fun h25 => ?_) (fun h25 => ?_)
            · exfalso; omega
            refine go_iload_n (at_of tX10_addField 0 14 rfl) rfl ?_
            refine go_bipush (at_of tX10_addField 0 15 rfl) (by decide) ?_
            refine go_icmp_eq (tgt := 40) (at_of tX10_addField 1 0 rfl) (by decide) (fun h31 => ?_) (fun h31 => ?_)
            · exfalso; omega
            refine go_iload_n (at_of tX10_addField 1 1 rfl) rfl ?_
            refine go_bipush (at_of tX10_addField 1 2 rfl) (by decide) ?_
            refine go_icmp_ne (tgt := 52) (at_of tX10_addField 1 3 rfl) (by decide) (fun h37 => ?_) (fun h37 => ?_)
            · exfalso; omega
            refine go_iload (at_of tX10_addField 1 4 rfl) rfl rfl ?_
            refine go_cS (m_isBookmark) lk_X10_184 rfl (at_of tX10_addField 1 5 rfl) rfl (by decide) rfl (Nat.le_of_ble_eq_true rfl) rfl (by first | decide | exact ⟨Nat.zero_le _, Nat.zero_le _⟩) ?_
            refine go_if_eq (tgt := 52) (at_of tX10_addField 1 6 rfl) (by decide) (fun h45 => ?_) (fun h45 => ?_)
            rotate_left
            · exfalso; exact c2 (bI_1.mp h45)
            refine go_iconst (at_of tX10_addField 1 9 rfl) (by unfold in32; omega) ?_
            refine go_istore (at_of tX10_addField 1 10 rfl) rfl rfl ?_
            refine go_aload_n (at_of tX10_addField 1 11 rfl) rfl ?_
            refine go_aload_n (at_of tX10_addField 1 12 rfl) rfl ?_
            refine go_iload_n (at_of tX10_addField 1 13 rfl) rfl ?_
            refine go_iload_n (at_of tX10_addField 1 14 rfl) rfl ?_
            refine go_iload (at_of tX10_addField 1 15 rfl) rfl rfl ?_
            refine go_aload_n (at_of tX10_addField 2 0 rfl) rfl ?_
            refine go_getf fl_X10_187 rfl G_109 (at_of tX10_addField 2 1 rfl) ?_
            refine go_bipush (at_of tX10_addField 2 2 rfl) (by decide) ?_
            refine go_icmp_ne (tgt := 74) (at_of tX10_addField 2 3 rfl) (by decide) (fun h67 => ?_) (fun h67 => ?_)
            rotate_left
            · exfalso; omega
            refine go_iconst (at_of tX10_addField 2 6 rfl) (by unfold in32; omega) ?_
            refine go_cV (wf) lk_X10_176 rfl G_109 (at_of tX10_addField 2 7 rfl) rfl (by decide) rfl (Nat.le_of_ble_eq_true rfl) rfl (by first | decide | exact ⟨Nat.zero_le _, Nat.zero_le _⟩) ?_
            refine go_cV (m_goesOn) lk_X10_141 rfl G_109 (at_of tX10_addField 2 8 rfl) rfl (by decide) rfl (Nat.le_of_ble_eq_true rfl) rfl (by first | decide | exact ⟨Nat.zero_le _, Nat.zero_le _⟩) ?_
            refine go_if_ne (tgt := 86) (at_of tX10_addField 2 9 rfl) (by decide) (fun h81 => ?_) (fun h81 => ?_)
            · exfalso; exact h81 (bI_f hf)
            refine go_iconst (at_of tX10_addField 2 10 rfl) (by unfold in32; omega) ?_
            first | exact go_reti (at_of tX10_addField 2 11 rfl) rfl | exact go_reti (at_of tX10_addField 2 11 rfl) (le_i (by omega)) | exact go_reti (at_of tX10_addField 2 11 rfl) (le_i (by first | exact bI_t (by omega) | exact bI_f (by omega)))
      · have c99 : d ≠ 99 := fun q => c (Or.inl q)
        rw [x0] at wf
        by_cases q20 : σ.1 109 13 = 20
        · rw [y1 q20] at wf
          refine con_of_go mfX10_addField.1 trivial (Nat.le_of_ble_eq_true rfl) rfl (by decide) ?_
          show Go _ _ _ _ 0 [vA _, vI _, vI _, vI _, vI _, vT 9 0, vT 9 0, vT 9 0] [] _ _
          refine go_iload_n (at_of tX10_addField 0 0 rfl) rfl ?_
          refine go_bipush (at_of tX10_addField 0 1 rfl) (by decide) ?_
          refine go_icmp_eq (tgt := 48) (at_of tX10_addField 0 2 rfl) (by decide) (fun h3 => ?_) (fun h3 => ?_)
          · exfalso; omega
          refine go_iload_n (at_of tX10_addField 0 3 rfl) rfl ?_
          refine go_bipush (at_of tX10_addField 0 4 rfl) (by decide) ?_
          refine go_icmp_ne (tgt := 22) (at_of tX10_addField 0 5 rfl) (by decide) (fun h9 => ?_) (fun h9 => ?_)
          rotate_left
          · exfalso; omega
          refine go_iload_n (at_of tX10_addField 0 11 rfl) rfl ?_
          refine go_bipush (at_of tX10_addField 0 12 rfl) (by decide) ?_
          refine go_icmp_eq (tgt := 40) (at_of tX10_addField 0 13 rfl) (by decide) (fun h25 => ?_) (fun h25 => ?_)
          · exfalso; omega
          refine go_iload_n (at_of tX10_addField 0 14 rfl) rfl ?_
          refine go_bipush (at_of tX10_addField 0 15 rfl) (by decide) ?_
          refine go_icmp_eq (tgt := 40) (at_of tX10_addField 1 0 rfl) (by decide) (fun h31 => ?_) (fun h31 => ?_)
          · exfalso; omega
          refine go_iload_n (at_of tX10_addField 1 1 rfl) rfl ?_
          refine go_bipush (at_of tX10_addField 1 2 rfl) (by decide) ?_
          refine go_icmp_ne (tgt := 52) (at_of tX10_addField 1 3 rfl) (by decide) (fun h37 => ?_) (fun h37 => ?_)
          rotate_left
          · exfalso; omega
          refine go_iconst (at_of tX10_addField 1 9 rfl) (by unfold in32; omega) ?_
          refine go_istore (at_of tX10_addField 1 10 rfl) rfl rfl ?_
          refine go_aload_n (at_of tX10_addField 1 11 rfl) rfl ?_
          refine go_aload_n (at_of tX10_addField 1 12 rfl) rfl ?_
          refine go_iload_n (at_of tX10_addField 1 13 rfl) rfl ?_
          refine go_iload_n (at_of tX10_addField 1 14 rfl) rfl ?_
          refine go_iload (at_of tX10_addField 1 15 rfl) rfl rfl ?_
          refine go_aload_n (at_of tX10_addField 2 0 rfl) rfl ?_
          refine go_getf fl_X10_187 rfl G_109 (at_of tX10_addField 2 1 rfl) ?_
          refine go_bipush (at_of tX10_addField 2 2 rfl) (by decide) ?_
          refine go_icmp_ne (tgt := 74) (at_of tX10_addField 2 3 rfl) (by decide) (fun h67 => ?_) (fun h67 => ?_)
          · exfalso; omega
          refine go_iconst (at_of tX10_addField 2 4 rfl) (by unfold in32; omega) ?_
          refine go_goto (tgt := 75) (at_of tX10_addField 2 5 rfl) (by decide) ?_
          refine go_cV (wf) lk_X10_176 rfl G_109 (at_of tX10_addField 2 7 rfl) rfl (by decide) rfl (Nat.le_of_ble_eq_true rfl) rfl (by first | decide | exact ⟨Nat.zero_le _, Nat.zero_le _⟩) ?_
          refine go_cV (m_goesOn) lk_X10_141 rfl G_109 (at_of tX10_addField 2 8 rfl) rfl (by decide) rfl (Nat.le_of_ble_eq_true rfl) rfl (by first | decide | exact ⟨Nat.zero_le _, Nat.zero_le _⟩) ?_
          refine go_if_ne (tgt := 86) (at_of tX10_addField 2 9 rfl) (by decide) (fun h81 => ?_) (fun h81 => ?_)
          · exfalso; exact h81 (bI_f hf)
          refine go_iconst (at_of tX10_addField 2 10 rfl) (by unfold in32; omega) ?_
          first | exact go_reti (at_of tX10_addField 2 11 rfl) rfl | exact go_reti (at_of tX10_addField 2 11 rfl) (le_i (by omega)) | exact go_reti (at_of tX10_addField 2 11 rfl) (le_i (by first | exact bI_t (by omega) | exact bI_f (by omega)))
        · rw [y0 q20] at wf
          refine con_of_go mfX10_addField.1 trivial (Nat.le_of_ble_eq_true rfl) rfl (by decide) ?_
          show Go _ _ _ _ 0 [vA _, vI _, vI _, vI _, vI _, vT 9 0, vT 9 0, vT 9 0] [] _ _
          refine go_iload_n (at_of tX10_addField 0 0 rfl) rfl ?_
          refine go_bipush (at_of tX10_addField 0 1 rfl) (by decide) ?_
          refine go_icmp_eq (tgt := 48) (at_of tX10_addField 0 2 rfl) (by decide) (fun h3 => ?_) (fun h3 => ?_)
          · exfalso; omega
          refine go_iload_n (at_of tX10_addField 0 3 rfl) rfl ?_
          refine go_bipush (at_of tX10_addField 0 4 rfl) (by decide) ?_
          refine go_icmp_ne (tgt := 22) (at_of tX10_addField 0 5 rfl) (by decide) (fun h9 => ?_) (fun h9 => ?_)
          rotate_left
          · exfalso; omega
          refine go_iload_n (at_of tX10_addField 0 11 rfl) rfl ?_
          refine go_bipush (at_of tX10_addField 0 12 rfl) (by decide) ?_
          refine go_icmp_eq (tgt := 40) (at_of tX10_addField 0 13 rfl) (by decide) (fun h25 => ?_) (fun h25 => ?_)
          · exfalso; omega
          refine go_iload_n (at_of tX10_addField 0 14 rfl) rfl ?_
          refine go_bipush (at_of tX10_addField 0 15 rfl) (by decide) ?_
          refine go_icmp_eq (tgt := 40) (at_of tX10_addField 1 0 rfl) (by decide) (fun h31 => ?_) (fun h31 => ?_)
          · exfalso; omega
          refine go_iload_n (at_of tX10_addField 1 1 rfl) rfl ?_
          refine go_bipush (at_of tX10_addField 1 2 rfl) (by decide) ?_
          refine go_icmp_ne (tgt := 52) (at_of tX10_addField 1 3 rfl) (by decide) (fun h37 => ?_) (fun h37 => ?_)
          rotate_left
          · exfalso; omega
          refine go_iconst (at_of tX10_addField 1 9 rfl) (by unfold in32; omega) ?_
          refine go_istore (at_of tX10_addField 1 10 rfl) rfl rfl ?_
          refine go_aload_n (at_of tX10_addField 1 11 rfl) rfl ?_
          refine go_aload_n (at_of tX10_addField 1 12 rfl) rfl ?_
          refine go_iload_n (at_of tX10_addField 1 13 rfl) rfl ?_
          refine go_iload_n (at_of tX10_addField 1 14 rfl) rfl ?_
          refine go_iload (at_of tX10_addField 1 15 rfl) rfl rfl ?_
          refine go_aload_n (at_of tX10_addField 2 0 rfl) rfl ?_
          refine go_getf fl_X10_187 rfl G_109 (at_of tX10_addField 2 1 rfl) ?_
          refine go_bipush (at_of tX10_addField 2 2 rfl) (by decide) ?_
          refine go_icmp_ne (tgt := 74) (at_of tX10_addField 2 3 rfl) (by decide) (fun h67 => ?_) (fun h67 => ?_)
          rotate_left
          · exfalso; omega
          refine go_iconst (at_of tX10_addField 2 6 rfl) (by unfold in32; omega) ?_
          refine go_cV (wf) lk_X10_176 rfl G_109 (at_of tX10_addField 2 7 rfl) rfl (by decide) rfl (Nat.le_of_ble_eq_true rfl) rfl (by first | decide | exact ⟨Nat.zero_le _, Nat.zero_le _⟩) ?_
          refine go_cV (m_goesOn) lk_X10_141 rfl G_109 (at_of tX10_addField 2 8 rfl) rfl (by decide) rfl (Nat.le_of_ble_eq_true rfl) rfl (by first | decide | exact ⟨Nat.zero_le _, Nat.zero_le _⟩) ?_
          refine go_if_ne (tgt := 86) (at_of tX10_addField 2 9 rfl) (by decide) (fun h81 => ?_) (fun h81 => ?_)
          · exfalso; exact h81 (bI_f hf)
          refine go_iconst (at_of tX10_addField 2 10 rfl) (by unfold in32; omega) ?_
          first | exact go_reti (at_of tX10_addField 2 11 rfl) rfl | exact go_reti (at_of tX10_addField 2 11 rfl) (le_i (by omega)) | exact go_reti (at_of tX10_addField 2 11 rfl) (le_i (by first | exact bI_t (by omega) | exact bI_f (by omega)))
theorem m_addField (hS : Str σ.2.1) {A : PastD} (hM : PastM σ A) (hWf : WfM (A.1 A.2.1)) (h20 : 0 ≤ σ.1 109 13 ∧ σ.1 109 13 < 20) {d : Int} (hd : 0 ≤ d ∧ d < 65536) (hq : (A.1 A.2.1).2.2 (σ.1 109 13) = 0) {tr : Bool} (htr : σ.1 109 6 = bI (tr = true)) {a p o : Int} (hf : wfE (A.1 A.2.1) tr a p (decide (d = 99 ∨ (d = 114 ∧ 0 ≤ o ∧ o ≤ 2) ∨ ((d = 110 ∨ d = 112 ∨ d = 108) ∧ 0 ≤ o ∧ o ≤ 5))) (decide (σ.1 109 13 = 20)) = 0) : ∃ σ', Con 5 mX10_addField 0 0 [vA 109, vI a, vI p, vI d, vI o] σ (vI (σ.1 109 13), enM σ' d o) ∧ PastM σ' (edA (begA A) (wrD (A.1 A.2.1) tr a (ixOf (A.1 A.2.1).1.1 (A.1 A.2.1).1.2.1 p) 64 (σ.1 109 13))) ∧ FrE σ σ' ∧ σ'.1 109 0 = 0 := by
  obtain ⟨w1, w2, w3, w4⟩ := wfE_0 hf
  have hfine := of_decide_eq_true w3
  have hn20 : ¬ σ.1 109 13 = 20 := by omega
  have hb := hM.2.2.2.1.2.2.2
  obtain ⟨hE, hSg, hMk, hRw⟩ := id hWf
  have wf := m_writeFault hS hM.2.2.2.1 hE hSg hMk htr (a := a) (p := p) (fine := decide (d = 99 ∨ (d = 114 ∧ 0 ≤ o ∧ o ≤ 2) ∨ ((d = 110 ∨ d = 112 ∨ d = 108) ∧ 0 ≤ o ∧ o ≤ 5))) (full := decide (σ.1 109 13 = 20))
  obtain ⟨w, hw⟩ : ∃ w, w = wfE (A.1 A.2.1) tr a p (decide (d = 99 ∨ (d = 114 ∧ 0 ≤ o ∧ o ≤ 2) ∨ ((d = 110 ∨ d = 112 ∨ d = 108) ∧ 0 ≤ o ∧ o ≤ 5))) (decide (σ.1 109 13 = 20)) := ⟨_, rfl⟩
  rw [← hw] at wf hf
  obtain ⟨x, hx⟩ : ∃ x : Int, x = bI (decide (d = 99 ∨ (d = 114 ∧ 0 ≤ o ∧ o ≤ 2) ∨ ((d = 110 ∨ d = 112 ∨ d = 108) ∧ 0 ≤ o ∧ o ≤ 5)) = true) := ⟨_, rfl⟩
  obtain ⟨y, hy⟩ : ∃ y : Int, y = bI (decide (σ.1 109 13 = 20) = true) := ⟨_, rfl⟩
  have x1 : d = 99 ∨ (d = 114 ∧ 0 ≤ o ∧ o ≤ 2) ∨ ((d = 110 ∨ d = 112 ∨ d = 108) ∧ 0 ≤ o ∧ o ≤ 5) → x = 1 := fun q => by rw [hx]; exact bI_t (decide_eq_true q)
  have x0 : ¬ (d = 99 ∨ (d = 114 ∧ 0 ≤ o ∧ o ≤ 2) ∨ ((d = 110 ∨ d = 112 ∨ d = 108) ∧ 0 ≤ o ∧ o ≤ 5)) → x = 0 := fun q => by rw [hx]; exact bI_f (fun y => q (of_decide_eq_true y))
  have y1 : σ.1 109 13 = 20 → y = 1 := fun q => by rw [hy]; exact bI_t (decide_eq_true q)
  have y0 : ¬ σ.1 109 13 = 20 → y = 0 := fun q => by rw [hy]; exact bI_f (fun y => q (of_decide_eq_true y))
  rw [← hx, ← hy] at wf
  have hf : w = 0 := hf
  subst hf
  have a13 : (P1 σ 109 0 0).1 109 13 = σ.1 109 13 := P1_nj (by omega)
  obtain ⟨σ', z1, z2, z3, z4⟩ := m_writes (σ := P1 σ 109 0 0) hS hM.th hWf (by rw [P1_nj (by omega)]; exact htr) (a := a) (p := p) (kd := 1000 + σ.1 109 13) (l := 64) (fd := σ.1 109 13) w2 (by have := hb.2.1; rcases Int.lt_or_eq_of_le this with q | q; exact q; exact absurd (Or.inr (Or.inl q)) w4) (fun q1 q2 => by have := hb.2.2.2; rcases Int.lt_or_eq_of_le this with q | q; exact q; exact absurd (Or.inr (Or.inr ⟨q1, q2, q⟩)) w4) (if_neg (by omega)).symm (fun _ => by omega) (by omega)
  have b13 : σ'.1 109 13 = σ.1 109 13 := (z3.2 109 13 (by omega)).trans a13
  refine ⟨σ', ?_, z2, FrE.th.trans z3, z4.trans P1_eq⟩
  have hS2 : Str σ'.2.1 := by rw [z3.1]; exact hS
  have hS1 : Str (P1 σ 109 0 0).2.1 := hS
  have hz0 : σ'.1 110 (3205 + σ.1 109 13).toNat = 0 := by
    have q1 := z2.2.2.2.1.2.2.1 (σ.1 109 13) (by omega) (by omega)
    have q2 : (wrD (A.1 A.2.1) tr a (ixOf (A.1 A.2.1).1.1 (A.1 A.2.1).1.2.1 p) 64 (σ.1 109 13)).2.2 (σ.1 109 13) = 0 := by rw [wrD_q]; exact hq
    have q3 : (edA (begA A) (wrD (A.1 A.2.1) tr a (ixOf (A.1 A.2.1).1.1 (A.1 A.2.1).1.2.1 p) 64 (σ.1 109 13))).1 (begA A).2.1 = wrD (A.1 A.2.1) tr a (ixOf (A.1 A.2.1).1.1 (A.1 A.2.1).1.2.1 p) 64 (σ.1 109 13) := edA_at
    have q4 := congrArg (fun D : PapD => D.2.2 (σ.1 109 13)) q3
    exact q1.trans (q4.trans q2)
  obtain ⟨f, hfd⟩ : ∃ f, f = σ.1 109 13 := ⟨_, rfl⟩
  unfold enM
  rw [b13]
  have hid : M1 (P1 σ' 109 13 (σ.1 109 13 + 1)) 110 (3205 + σ.1 109 13) 0 = P1 σ' 109 13 (σ.1 109 13 + 1) := M1_id (by rw [P1_ne (by omega)]; exact hz0)
  by_cases c : d = 99 ∨ (d = 114 ∧ 0 ≤ o ∧ o ≤ 2) ∨ ((d = 110 ∨ d = 112 ∨ d = 108) ∧ 0 ≤ o ∧ o ≤ 5)
  · have x1 := x1 c
    rcases c with c | ⟨c, c2⟩ | ⟨c | c | c, c2⟩
    · skip
      rw [x1] at wf
      by_cases q20 : σ.1 109 13 = 20
      · exact absurd q20 hn20
      · rw [y0 q20] at wf
        refine con_of_go mfX10_addField.1 trivial (Nat.le_of_ble_eq_true rfl) rfl (by decide) ?_
        show Go _ _ _ _ 0 [vA _, vI _, vI _, vI _, vI _, vT 9 0, vT 9 0, vT 9 0] [] _ _
        refine go_iload_n (at_of tX10_addField 0 0 rfl) rfl ?_
        refine go_bipush (at_of tX10_addField 0 1 rfl) (by decide) ?_
        refine go_icmp_eq (tgt := 48) (at_of tX10_addField 0 2 rfl) (by decide) (fun h3 => ?_) (fun h3 => ?_)
        rotate_left
        · exfalso; omega
        refine go_iconst (at_of tX10_addField 1 7 rfl) (by unfold in32; omega) ?_
        refine go_goto (tgt := 53) (at_of tX10_addField 1 8 rfl) (by decide) ?_
        refine go_istore (at_of tX10_addField 1 10 rfl) rfl rfl ?_
        refine go_aload_n (at_of tX10_addField 1 11 rfl) rfl ?_
        refine go_aload_n (at_of tX10_addField 1 12 rfl) rfl ?_
        refine go_iload_n (at_of tX10_addField 1 13 rfl) rfl ?_
        refine go_iload_n (at_of tX10_addField 1 14 rfl) rfl ?_
        refine go_iload (at_of tX10_addField 1 15 rfl) rfl rfl ?_
        refine go_aload_n (at_of tX10_addField 2 0 rfl) rfl ?_
        refine go_getf fl_X10_187 rfl G_109 (at_of tX10_addField 2 1 rfl) ?_
        refine go_bipush (at_of tX10_addField 2 2 rfl) (by decide) ?_
        refine go_icmp_ne (tgt := 74) (at_of tX10_addField 2 3 rfl) (by decide) (fun h67 => ?_) (fun h67 => ?_)
        rotate_left
        · exfalso; omega
        refine go_iconst (at_of tX10_addField 2 6 rfl) (by unfold in32; omega) ?_
        refine go_cV (wf) lk_X10_176 rfl G_109 (at_of tX10_addField 2 7 rfl) rfl (by decide) rfl (Nat.le_of_ble_eq_true rfl) rfl (by first | decide | exact ⟨Nat.zero_le _, Nat.zero_le _⟩) ?_
        refine go_cV (m_goesOn) lk_X10_141 rfl G_109 (at_of tX10_addField 2 8 rfl) rfl (by decide) rfl (Nat.le_of_ble_eq_true rfl) rfl (by first | decide | exact ⟨Nat.zero_le _, Nat.zero_le _⟩) ?_
        refine go_if_ne (tgt := 86) (at_of tX10_addField 2 9 rfl) (by decide) (fun h81 => ?_) (fun h81 => ?_)
        rotate_left
        · exfalso; exact absurd h81 (by rw [bI_t rfl]; decide)
        refine go_aload_n (at_of tX10_addField 2 12 rfl) rfl ?_
        refine go_getf fl_X10_187 rfl G_109 (at_of tX10_addField 2 13 rfl) ?_
        refine go_istore (at_of tX10_addField 2 14 rfl) rfl rfl ?_
        refine go_aload_n (at_of tX10_addField 2 15 rfl) rfl ?_
        refine go_iload_n (at_of tX10_addField 3 0 rfl) rfl ?_
        refine go_iload_n (at_of tX10_addField 3 1 rfl) rfl ?_
        refine go_sipush (at_of tX10_addField 3 2 rfl) (by decide) ?_
        refine go_iload (at_of tX10_addField 3 3 rfl) rfl rfl ?_
        refine go_iadd (at_of tX10_addField 3 4 rfl) (by unfold in32; omega) ?_
        rw [a13]
        refine go_cV (z1) lk_X10_180 rfl G_109 (at_of tX10_addField 3 5 rfl) rfl (by decide) rfl (Nat.le_of_ble_eq_true rfl) rfl (by first | decide | exact ⟨Nat.zero_le _, Nat.zero_le _⟩) ?_
        refine go_istore (at_of tX10_addField 3 6 rfl) rfl rfl ?_
        refine go_aload_n (at_of tX10_addField 3 7 rfl) rfl ?_
        refine go_dup (at_of tX10_addField 3 8 rfl) rfl ?_
        refine go_getf fl_X10_187 rfl G_109 (at_of tX10_addField 3 9 rfl) ?_
        rw [b13]
        refine go_iconst (at_of tX10_addField 3 10 rfl) (by unfold in32; omega) ?_
        refine go_iadd (at_of tX10_addField 3 11 rfl) (by unfold in32; omega) ?_
        refine go_put1 fp_X10_187 rfl (Or.inl rfl) G_109 (Or.inl rfl) (at_of tX10_addField 3 12 rfl) ?_
        refine go_aload_n (at_of tX10_addField 3 13 rfl) rfl ?_
        refine go_getr (q := 110) fl_X10_7 rfl G_109 (by first | exact (hS _ _ rfl).trans rfl | exact (hS1 _ _ rfl).trans rfl | exact (hS2 _ _ rfl).trans rfl | exact (hS3 _ _ rfl).trans rfl | exact (hS4 _ _ rfl).trans rfl) (at_of tX10_addField 3 14 rfl) ?_
        refine go_sipush (at_of tX10_addField 3 15 rfl) (by decide) ?_
        refine go_iload (at_of tX10_addField 4 0 rfl) rfl rfl ?_
        refine go_iadd (at_of tX10_addField 4 1 rfl) (by unfold in32; omega) ?_
        refine go_iconst (at_of tX10_addField 4 2 rfl) (by unfold in32; omega) ?_
        refine go_iast1 G_110 (by omega) (by omega) (at_of tX10_addField 4 3 rfl) ?_
        rw [hid]
        refine go_aload_n (at_of tX10_addField 4 4 rfl) rfl ?_
        refine go_getr (q := 118) fl_X10_44 rfl G_109 (by first | exact (hS _ _ rfl).trans rfl | exact (hS1 _ _ rfl).trans rfl | exact (hS2 _ _ rfl).trans rfl | exact (hS3 _ _ rfl).trans rfl | exact (hS4 _ _ rfl).trans rfl) (at_of tX10_addField 4 5 rfl) ?_
        refine go_iload (at_of tX10_addField 4 6 rfl) rfl rfl ?_
        refine go_iload_n (at_of tX10_addField 4 7 rfl) rfl ?_
        refine go_cast1 G_118 (by omega) (by omega) hd (at_of tX10_addField 4 8 rfl) ?_
        refine go_aload_n (at_of tX10_addField 4 9 rfl) rfl ?_
        refine go_getr (q := 119) fl_X10_47 rfl G_109 (by first | exact (hS _ _ rfl).trans rfl | exact (hS1 _ _ rfl).trans rfl | exact (hS2 _ _ rfl).trans rfl | exact (hS3 _ _ rfl).trans rfl | exact (hS4 _ _ rfl).trans rfl) (at_of tX10_addField 4 10 rfl) ?_
        refine go_iload (at_of tX10_addField 4 11 rfl) rfl rfl ?_
        refine go_iload (at_of tX10_addField 4 12 rfl) rfl rfl ?_
        refine go_iast1 G_119 (by omega) (by omega) (at_of tX10_addField 4 13 rfl) ?_
        refine go_aload_n (at_of tX10_addField 4 14 rfl) rfl ?_
        refine go_getr (q := 120) fl_X10_50 rfl G_109 (by first | exact (hS _ _ rfl).trans rfl | exact (hS1 _ _ rfl).trans rfl | exact (hS2 _ _ rfl).trans rfl | exact (hS3 _ _ rfl).trans rfl | exact (hS4 _ _ rfl).trans rfl) (at_of tX10_addField 4 15 rfl) ?_
        refine go_iload (at_of tX10_addField 5 0 rfl) rfl rfl ?_
        refine go_iconst (at_of tX10_addField 5 1 rfl) (by unfold in32; omega) ?_
        refine go_bast1 G_120 (by omega) (by omega) (Or.inl rfl) (at_of tX10_addField 5 2 rfl) ?_
        refine go_iload (at_of tX10_addField 5 3 rfl) rfl rfl ?_
        exact go_reti (at_of tX10_addField 5 4 rfl) (le_i a13.symm)
    · skip
      rw [x1] at wf
      by_cases q20 : σ.1 109 13 = 20
      · exact absurd q20 hn20
      · rw [y0 q20] at wf
        refine con_of_go mfX10_addField.1 trivial (Nat.le_of_ble_eq_true rfl) rfl (by decide) ?_
        show Go _ _ _ _ 0 [vA _, vI _, vI _, vI _, vI _, vT 9 0, vT 9 0, vT 9 0] [] _ _
        refine go_iload_n (at_of tX10_addField 0 0 rfl) rfl ?_
        refine go_bipush (at_of tX10_addField 0 1 rfl) (by decide) ?_
        refine go_icmp_eq (tgt := 48) (at_of tX10_addField 0 2 rfl) (by decide) (fun h3 => ?_) (fun h3 => ?_)
        · exfalso; omega
        refine go_iload_n (at_of tX10_addField 0 3 rfl) rfl ?_
        refine go_bipush (at_of tX10_addField 0 4 rfl) (by decide) ?_
        refine go_icmp_ne (tgt := 22) (at_of tX10_addField 0 5 rfl) (by decide) (fun h9 => ?_) (fun h9 => ?_)
        · exfalso; omega
        refine go_iload (at_of tX10_addField 0 6 rfl) rfl rfl ?_
        refine go_iconst (at_of tX10_addField 0 7 rfl) (by unfold in32; omega) ?_
        refine go_iconst (at_of tX10_addField 0 8 rfl) (by unfold in32; omega) ?_
        refine go_cS (m_in) lk_X10_124 rfl (at_of tX10_addField 0 9 rfl) rfl (by decide) rfl (Nat.le_of_ble_eq_true rfl) rfl (by first | decide | exact ⟨Nat.zero_le _, Nat.zero_le _⟩) ?_
        refine go_if_ne (tgt := 48) (at_of tX10_addField 0 10 rfl) (by decide) (fun h19 => ?_) (fun h19 => ?_)
        rotate_left
        · exfalso; exact bI_0.mp h19 c2
        refine go_iconst (at_of tX10_addField 1 7 rfl) (by unfold in32; omega) ?_
        refine go_goto (tgt := 53) (at_of tX10_addField 1 8 rfl) (by decide) ?_
        refine go_istore (at_of tX10_addField 1 10 rfl) rfl rfl ?_
        refine go_aload_n (at_of tX10_addField 1 11 rfl) rfl ?_
        refine go_aload_n (at_of tX10_addField 1 12 rfl) rfl ?_
        refine go_iload_n (at_of tX10_addField 1 13 rfl) rfl ?_
        refine go_iload_n (at_of tX10_addField 1 14 rfl) rfl ?_
        refine go_iload (at_of tX10_addField 1 15 rfl) rfl rfl ?_
        refine go_aload_n (at_of tX10_addField 2 0 rfl) rfl ?_
        refine go_getf fl_X10_187 rfl G_109 (at_of tX10_addField 2 1 rfl) ?_
        refine go_bipush (at_of tX10_addField 2 2 rfl) (by decide) ?_
        refine go_icmp_ne (tgt := 74) (at_of tX10_addField 2 3 rfl) (by decide) (fun h67 => ?_) (fun h67 => ?_)
        rotate_left
        · exfalso; omega
        refine go_iconst (at_of tX10_addField 2 6 rfl) (by unfold in32; omega) ?_
        refine go_cV (wf) lk_X10_176 rfl G_109 (at_of tX10_addField 2 7 rfl) rfl (by decide) rfl (Nat.le_of_ble_eq_true rfl) rfl (by first | decide | exact ⟨Nat.zero_le _, Nat.zero_le _⟩) ?_
        refine go_cV (m_goesOn) lk_X10_141 rfl G_109 (at_of tX10_addField 2 8 rfl) rfl (by decide) rfl (Nat.le_of_ble_eq_true rfl) rfl (by first | decide | exact ⟨Nat.zero_le _, Nat.zero_le _⟩) ?_
        refine go_if_ne (tgt := 86) (at_of tX10_addField 2 9 rfl) (by decide) (fun h81 => ?_) (fun h81 => ?_)
        rotate_left
        · exfalso; exact absurd h81 (by rw [bI_t rfl]; decide)
        refine go_aload_n (at_of tX10_addField 2 12 rfl) rfl ?_
        refine go_getf fl_X10_187 rfl G_109 (at_of tX10_addField 2 13 rfl) ?_
        refine go_istore (at_of tX10_addField 2 14 rfl) rfl rfl ?_
        refine go_aload_n (at_of tX10_addField 2 15 rfl) rfl ?_
        refine go_iload_n (at_of tX10_addField 3 0 rfl) rfl ?_
        refine go_iload_n (at_of tX10_addField 3 1 rfl) rfl ?_
        refine go_sipush (at_of tX10_addField 3 2 rfl) (by decide) ?_
        refine go_iload (at_of tX10_addField 3 3 rfl) rfl rfl ?_
        refine go_iadd (at_of tX10_addField 3 4 rfl) (by unfold in32; omega) ?_
        rw [a13]
        refine go_cV (z1) lk_X10_180 rfl G_109 (at_of tX10_addField 3 5 rfl) rfl (by decide) rfl (Nat.le_of_ble_eq_true rfl) rfl (by first | decide | exact ⟨Nat.zero_le _, Nat.zero_le _⟩) ?_
        refine go_istore (at_of tX10_addField 3 6 rfl) rfl rfl ?_
        refine go_aload_n (at_of tX10_addField 3 7 rfl) rfl ?_
        refine go_dup (at_of tX10_addField 3 8 rfl) rfl ?_
        refine go_getf fl_X10_187 rfl G_109 (at_of tX10_addField 3 9 rfl) ?_
        rw [b13]
        refine go_iconst (at_of tX10_addField 3 10 rfl) (by unfold in32; omega) ?_
        refine go_iadd (at_of tX10_addField 3 11 rfl) (by unfold in32; omega) ?_
        refine go_put1 fp_X10_187 rfl (Or.inl rfl) G_109 (Or.inl rfl) (at_of tX10_addField 3 12 rfl) ?_
        refine go_aload_n (at_of tX10_addField 3 13 rfl) rfl ?_
        refine go_getr (q := 110) fl_X10_7 rfl G_109 (by first | exact (hS _ _ rfl).trans rfl | exact (hS1 _ _ rfl).trans rfl | exact (hS2 _ _ rfl).trans rfl | exact (hS3 _ _ rfl).trans rfl | exact (hS4 _ _ rfl).trans rfl) (at_of tX10_addField 3 14 rfl) ?_
        refine go_sipush (at_of tX10_addField 3 15 rfl) (by decide) ?_
        refine go_iload (at_of tX10_addField 4 0 rfl) rfl rfl ?_
        refine go_iadd (at_of tX10_addField 4 1 rfl) (by unfold in32; omega) ?_
        refine go_iconst (at_of tX10_addField 4 2 rfl) (by unfold in32; omega) ?_
        refine go_iast1 G_110 (by omega) (by omega) (at_of tX10_addField 4 3 rfl) ?_
        rw [hid]
        refine go_aload_n (at_of tX10_addField 4 4 rfl) rfl ?_
        refine go_getr (q := 118) fl_X10_44 rfl G_109 (by first | exact (hS _ _ rfl).trans rfl | exact (hS1 _ _ rfl).trans rfl | exact (hS2 _ _ rfl).trans rfl | exact (hS3 _ _ rfl).trans rfl | exact (hS4 _ _ rfl).trans rfl) (at_of tX10_addField 4 5 rfl) ?_
        refine go_iload (at_of tX10_addField 4 6 rfl) rfl rfl ?_
        refine go_iload_n (at_of tX10_addField 4 7 rfl) rfl ?_
        refine go_cast1 G_118 (by omega) (by omega) hd (at_of tX10_addField 4 8 rfl) ?_
        refine go_aload_n (at_of tX10_addField 4 9 rfl) rfl ?_
        refine go_getr (q := 119) fl_X10_47 rfl G_109 (by first | exact (hS _ _ rfl).trans rfl | exact (hS1 _ _ rfl).trans rfl | exact (hS2 _ _ rfl).trans rfl | exact (hS3 _ _ rfl).trans rfl | exact (hS4 _ _ rfl).trans rfl) (at_of tX10_addField 4 10 rfl) ?_
        refine go_iload (at_of tX10_addField 4 11 rfl) rfl rfl ?_
        refine go_iload (at_of tX10_addField 4 12 rfl) rfl rfl ?_
        refine go_iast1 G_119 (by omega) (by omega) (at_of tX10_addField 4 13 rfl) ?_
        refine go_aload_n (at_of tX10_addField 4 14 rfl) rfl ?_
        refine go_getr (q := 120) fl_X10_50 rfl G_109 (by first | exact (hS _ _ rfl).trans rfl | exact (hS1 _ _ rfl).trans rfl | exact (hS2 _ _ rfl).trans rfl | exact (hS3 _ _ rfl).trans rfl | exact (hS4 _ _ rfl).trans rfl) (at_of tX10_addField 4 15 rfl) ?_
        refine go_iload (at_of tX10_addField 5 0 rfl) rfl rfl ?_
        refine go_iconst (at_of tX10_addField 5 1 rfl) (by unfold in32; omega) ?_
        refine go_bast1 G_120 (by omega) (by omega) (Or.inl rfl) (at_of tX10_addField 5 2 rfl) ?_
        refine go_iload (at_of tX10_addField 5 3 rfl) rfl rfl ?_
        exact go_reti (at_of tX10_addField 5 4 rfl) (le_i a13.symm)
    · skip
      rw [x1] at wf
      by_cases q20 : σ.1 109 13 = 20
      · exact absurd q20 hn20
      · rw [y0 q20] at wf
        refine con_of_go mfX10_addField.1 trivial (Nat.le_of_ble_eq_true rfl) rfl (by decide) ?_
        show Go _ _ _ _ 0 [vA _, vI _, vI _, vI _, vI _, vT 9 0, vT 9 0, vT 9 0] [] _ _
        refine go_iload_n (at_of tX10_addField 0 0 rfl) rfl ?_
        refine go_bipush (at_of tX10_addField 0 1 rfl) (by decide) ?_
        refine go_icmp_eq (tgt := 48) (at_of tX10_addField 0 2 rfl) (by decide) (fun h3 => ?_) (fun h3 => ?_)
        · exfalso; omega
        refine go_iload_n (at_of tX10_addField 0 3 rfl) rfl ?_
        refine go_bipush (at_of tX10_addField 0 4 rfl) (by decide) ?_
        refine go_icmp_ne (tgt := 22) (at_of tX10_addField 0 5 rfl) (by decide) (fun h9 => ?_) (fun h9 => ?_)
        rotate_left
        · exfalso; omega
        refine go_iload_n (at_of tX10_addField 0 11 rfl) rfl ?_
        refine go_bipush (at_of tX10_addField 0 12 rfl) (by decide) ?_
        refine go_icmp_eq (tgt := 40) (at_of tX10_addField 0 13 rfl) (by decide) (fun h25 => ?_) (fun h25 => ?_)
        rotate_left
        · exfalso; omega
        refine go_iload (at_of tX10_addField 1 4 rfl) rfl rfl ?_
        refine go_cS (m_isBookmark) lk_X10_184 rfl (at_of tX10_addField 1 5 rfl) rfl (by decide) rfl (Nat.le_of_ble_eq_true rfl) rfl (by first | decide | exact ⟨Nat.zero_le _, Nat.zero_le _⟩) ?_
        refine go_if_eq (tgt := 52) (at_of tX10_addField 1 6 rfl) (by decide) (fun h45 => ?_) (fun h45 => ?_)
        · exfalso; exact bI_0.mp h45 c2
        refine go_iconst (at_of tX10_addField 1 7 rfl) (by unfold in32; omega) ?_
        refine go_goto (tgt := 53) (at_of tX10_addField 1 8 rfl) (by decide) ?_
        refine go_istore (at_of tX10_addField 1 10 rfl) rfl rfl ?_
        refine go_aload_n (at_of tX10_addField 1 11 rfl) rfl ?_
        refine go_aload_n (at_of tX10_addField 1 12 rfl) rfl ?_
        refine go_iload_n (at_of tX10_addField 1 13 rfl) rfl ?_
        refine go_iload_n (at_of tX10_addField 1 14 rfl) rfl ?_
        refine go_iload (at_of tX10_addField 1 15 rfl) rfl rfl ?_
        refine go_aload_n (at_of tX10_addField 2 0 rfl) rfl ?_
        refine go_getf fl_X10_187 rfl G_109 (at_of tX10_addField 2 1 rfl) ?_
        refine go_bipush (at_of tX10_addField 2 2 rfl) (by decide) ?_
        refine go_icmp_ne (tgt := 74) (at_of tX10_addField 2 3 rfl) (by decide) (fun h67 => ?_) (fun h67 => ?_)
        rotate_left
        · exfalso; omega
        refine go_iconst (at_of tX10_addField 2 6 rfl) (by unfold in32; omega) ?_
        refine go_cV (wf) lk_X10_176 rfl G_109 (at_of tX10_addField 2 7 rfl) rfl (by decide) rfl (Nat.le_of_ble_eq_true rfl) rfl (by first | decide | exact ⟨Nat.zero_le _, Nat.zero_le _⟩) ?_
        refine go_cV (m_goesOn) lk_X10_141 rfl G_109 (at_of tX10_addField 2 8 rfl) rfl (by decide) rfl (Nat.le_of_ble_eq_true rfl) rfl (by first | decide | exact ⟨Nat.zero_le _, Nat.zero_le _⟩) ?_
        refine go_if_ne (tgt := 86) (at_of tX10_addField 2 9 rfl) (by decide) (fun h81 => ?_) (fun h81 => ?_)
        rotate_left
        · exfalso; exact absurd h81 (by rw [bI_t rfl]; decide)
        refine go_aload_n (at_of tX10_addField 2 12 rfl) rfl ?_
        refine go_getf fl_X10_187 rfl G_109 (at_of tX10_addField 2 13 rfl) ?_
        refine go_istore (at_of tX10_addField 2 14 rfl) rfl rfl ?_
        refine go_aload_n (at_of tX10_addField 2 15 rfl) rfl ?_
        refine go_iload_n (at_of tX10_addField 3 0 rfl) rfl ?_
        refine go_iload_n (at_of tX10_addField 3 1 rfl) rfl ?_
        refine go_sipush (at_of tX10_addField 3 2 rfl) (by decide) ?_
        refine go_iload (at_of tX10_addField 3 3 rfl) rfl rfl ?_
        refine go_iadd (at_of tX10_addField 3 4 rfl) (by unfold in32; omega) ?_
        rw [a13]
        refine go_cV (z1) lk_X10_180 rfl G_109 (at_of tX10_addField 3 5 rfl) rfl (by decide) rfl (Nat.le_of_ble_eq_true rfl) rfl (by first | decide | exact ⟨Nat.zero_le _, Nat.zero_le _⟩) ?_
        refine go_istore (at_of tX10_addField 3 6 rfl) rfl rfl ?_
        refine go_aload_n (at_of tX10_addField 3 7 rfl) rfl ?_
        refine go_dup (at_of tX10_addField 3 8 rfl) rfl ?_
        refine go_getf fl_X10_187 rfl G_109 (at_of tX10_addField 3 9 rfl) ?_
        rw [b13]
        refine go_iconst (at_of tX10_addField 3 10 rfl) (by unfold in32; omega) ?_
        refine go_iadd (at_of tX10_addField 3 11 rfl) (by unfold in32; omega) ?_
        refine go_put1 fp_X10_187 rfl (Or.inl rfl) G_109 (Or.inl rfl) (at_of tX10_addField 3 12 rfl) ?_
        refine go_aload_n (at_of tX10_addField 3 13 rfl) rfl ?_
        refine go_getr (q := 110) fl_X10_7 rfl G_109 (by first | exact (hS _ _ rfl).trans rfl | exact (hS1 _ _ rfl).trans rfl | exact (hS2 _ _ rfl).trans rfl | exact (hS3 _ _ rfl).trans rfl | exact (hS4 _ _ rfl).trans rfl) (at_of tX10_addField 3 14 rfl) ?_
        refine go_sipush (at_of tX10_addField 3 15 rfl) (by decide) ?_
        refine go_iload (at_of tX10_addField 4 0 rfl) rfl rfl ?_
        refine go_iadd (at_of tX10_addField 4 1 rfl) (by unfold in32; omega) ?_
        refine go_iconst (at_of tX10_addField 4 2 rfl) (by unfold in32; omega) ?_
        refine go_iast1 G_110 (by omega) (by omega) (at_of tX10_addField 4 3 rfl) ?_
        rw [hid]
        refine go_aload_n (at_of tX10_addField 4 4 rfl) rfl ?_
        refine go_getr (q := 118) fl_X10_44 rfl G_109 (by first | exact (hS _ _ rfl).trans rfl | exact (hS1 _ _ rfl).trans rfl | exact (hS2 _ _ rfl).trans rfl | exact (hS3 _ _ rfl).trans rfl | exact (hS4 _ _ rfl).trans rfl) (at_of tX10_addField 4 5 rfl) ?_
        refine go_iload (at_of tX10_addField 4 6 rfl) rfl rfl ?_
        refine go_iload_n (at_of tX10_addField 4 7 rfl) rfl ?_
        refine go_cast1 G_118 (by omega) (by omega) hd (at_of tX10_addField 4 8 rfl) ?_
        refine go_aload_n (at_of tX10_addField 4 9 rfl) rfl ?_
        refine go_getr (q := 119) fl_X10_47 rfl G_109 (by first | exact (hS _ _ rfl).trans rfl | exact (hS1 _ _ rfl).trans rfl | exact (hS2 _ _ rfl).trans rfl | exact (hS3 _ _ rfl).trans rfl | exact (hS4 _ _ rfl).trans rfl) (at_of tX10_addField 4 10 rfl) ?_
        refine go_iload (at_of tX10_addField 4 11 rfl) rfl rfl ?_
        refine go_iload (at_of tX10_addField 4 12 rfl) rfl rfl ?_
        refine go_iast1 G_119 (by omega) (by omega) (at_of tX10_addField 4 13 rfl) ?_
        refine go_aload_n (at_of tX10_addField 4 14 rfl) rfl ?_
        refine go_getr (q := 120) fl_X10_50 rfl G_109 (by first | exact (hS _ _ rfl).trans rfl | exact (hS1 _ _ rfl).trans rfl | exact (hS2 _ _ rfl).trans rfl | exact (hS3 _ _ rfl).trans rfl | exact (hS4 _ _ rfl).trans rfl) (at_of tX10_addField 4 15 rfl) ?_
        refine go_iload (at_of tX10_addField 5 0 rfl) rfl rfl ?_
        refine go_iconst (at_of tX10_addField 5 1 rfl) (by unfold in32; omega) ?_
        refine go_bast1 G_120 (by omega) (by omega) (Or.inl rfl) (at_of tX10_addField 5 2 rfl) ?_
        refine go_iload (at_of tX10_addField 5 3 rfl) rfl rfl ?_
        exact go_reti (at_of tX10_addField 5 4 rfl) (le_i a13.symm)
    · skip
      rw [x1] at wf
      by_cases q20 : σ.1 109 13 = 20
      · exact absurd q20 hn20
      · rw [y0 q20] at wf
        refine con_of_go mfX10_addField.1 trivial (Nat.le_of_ble_eq_true rfl) rfl (by decide) ?_
        show Go _ _ _ _ 0 [vA _, vI _, vI _, vI _, vI _, vT 9 0, vT 9 0, vT 9 0] [] _ _
        refine go_iload_n (at_of tX10_addField 0 0 rfl) rfl ?_
        refine go_bipush (at_of tX10_addField 0 1 rfl) (by decide) ?_
        refine go_icmp_eq (tgt := 48) (at_of tX10_addField 0 2 rfl) (by decide) (fun h3 => ?_) (fun h3 => ?_)
        · exfalso; omega
        refine go_iload_n (at_of tX10_addField 0 3 rfl) rfl ?_
        refine go_bipush (at_of tX10_addField 0 4 rfl) (by decide) ?_
        refine go_icmp_ne (tgt := 22) (at_of tX10_addField 0 5 rfl) (by decide) (fun h9 => ?_) (fun h9 => ?_)
        rotate_left
        · exfalso; omega
        refine go_iload_n (at_of tX10_addField 0 11 rfl) rfl ?_
        refine go_bipush (at_of tX10_addField 0 12 rfl) (by decide) ?_
        refine go_icmp_eq (tgt := 40) (at_of tX10_addField 0 13 rfl) (by decide) (fun h25 => ?_) (fun h25 => ?_)
        · exfalso; omega
        refine go_iload_n (at_of tX10_addField 0 14 rfl) rfl ?_
        refine go_bipush (at_of tX10_addField 0 15 rfl) (by decide) ?_
        refine go_icmp_eq (tgt := 40) (at_of tX10_addField 1 0 rfl) (by decide) (fun h31 => ?_) (fun h31 => ?_)
        rotate_left
        · exfalso; omega
        refine go_iload (at_of tX10_addField 1 4 rfl) rfl rfl ?_
        refine go_cS (m_isBookmark) lk_X10_184 rfl (at_of tX10_addField 1 5 rfl) rfl (by decide) rfl (Nat.le_of_ble_eq_true rfl) rfl (by first | decide | exact ⟨Nat.zero_le _, Nat.zero_le _⟩) ?_
        refine go_if_eq (tgt := 52) (at_of tX10_addField 1 6 rfl) (by decide) (fun h45 => ?_) (fun h45 => ?_)
        · exfalso; exact bI_0.mp h45 c2
        refine go_iconst (at_of tX10_addField 1 7 rfl) (by unfold in32; omega) ?_
        refine go_goto (tgt := 53) (at_of tX10_addField 1 8 rfl) (by decide) ?_
        refine go_istore (at_of tX10_addField 1 10 rfl) rfl rfl ?_
        refine go_aload_n (at_of tX10_addField 1 11 rfl) rfl ?_
        refine go_aload_n (at_of tX10_addField 1 12 rfl) rfl ?_
        refine go_iload_n (at_of tX10_addField 1 13 rfl) rfl ?_
        refine go_iload_n (at_of tX10_addField 1 14 rfl) rfl ?_
        refine go_iload (at_of tX10_addField 1 15 rfl) rfl rfl ?_
        refine go_aload_n (at_of tX10_addField 2 0 rfl) rfl ?_
        refine go_getf fl_X10_187 rfl G_109 (at_of tX10_addField 2 1 rfl) ?_
        refine go_bipush (at_of tX10_addField 2 2 rfl) (by decide) ?_
        refine go_icmp_ne (tgt := 74) (at_of tX10_addField 2 3 rfl) (by decide) (fun h67 => ?_) (fun h67 => ?_)
        rotate_left
        · exfalso; omega
        refine go_iconst (at_of tX10_addField 2 6 rfl) (by unfold in32; omega) ?_
        refine go_cV (wf) lk_X10_176 rfl G_109 (at_of tX10_addField 2 7 rfl) rfl (by decide) rfl (Nat.le_of_ble_eq_true rfl) rfl (by first | decide | exact ⟨Nat.zero_le _, Nat.zero_le _⟩) ?_
        refine go_cV (m_goesOn) lk_X10_141 rfl G_109 (at_of tX10_addField 2 8 rfl) rfl (by decide) rfl (Nat.le_of_ble_eq_true rfl) rfl (by first | decide | exact ⟨Nat.zero_le _, Nat.zero_le _⟩) ?_
        refine go_if_ne (tgt := 86) (at_of tX10_addField 2 9 rfl) (by decide) (fun h81 => ?_) (fun h81 => ?_)
        rotate_left
        · exfalso; exact absurd h81 (by rw [bI_t rfl]; decide)
        refine go_aload_n (at_of tX10_addField 2 12 rfl) rfl ?_
        refine go_getf fl_X10_187 rfl G_109 (at_of tX10_addField 2 13 rfl) ?_
        refine go_istore (at_of tX10_addField 2 14 rfl) rfl rfl ?_
        refine go_aload_n (at_of tX10_addField 2 15 rfl) rfl ?_
        refine go_iload_n (at_of tX10_addField 3 0 rfl) rfl ?_
        refine go_iload_n (at_of tX10_addField 3 1 rfl) rfl ?_
        refine go_sipush (at_of tX10_addField 3 2 rfl) (by decide) ?_
        refine go_iload (at_of tX10_addField 3 3 rfl) rfl rfl ?_
        refine go_iadd (at_of tX10_addField 3 4 rfl) (by unfold in32; omega) ?_
        rw [a13]
        refine go_cV (z1) lk_X10_180 rfl G_109 (at_of tX10_addField 3 5 rfl) rfl (by decide) rfl (Nat.le_of_ble_eq_true rfl) rfl (by first | decide | exact ⟨Nat.zero_le _, Nat.zero_le _⟩) ?_
        refine go_istore (at_of tX10_addField 3 6 rfl) rfl rfl ?_
        refine go_aload_n (at_of tX10_addField 3 7 rfl) rfl ?_
        refine go_dup (at_of tX10_addField 3 8 rfl) rfl ?_
        refine go_getf fl_X10_187 rfl G_109 (at_of tX10_addField 3 9 rfl) ?_
        rw [b13]
        refine go_iconst (at_of tX10_addField 3 10 rfl) (by unfold in32; omega) ?_
        refine go_iadd (at_of tX10_addField 3 11 rfl) (by unfold in32; omega) ?_
        refine go_put1 fp_X10_187 rfl (Or.inl rfl) G_109 (Or.inl rfl) (at_of tX10_addField 3 12 rfl) ?_
        refine go_aload_n (at_of tX10_addField 3 13 rfl) rfl ?_
        refine go_getr (q := 110) fl_X10_7 rfl G_109 (by first | exact (hS _ _ rfl).trans rfl | exact (hS1 _ _ rfl).trans rfl | exact (hS2 _ _ rfl).trans rfl | exact (hS3 _ _ rfl).trans rfl | exact (hS4 _ _ rfl).trans rfl) (at_of tX10_addField 3 14 rfl) ?_
        refine go_sipush (at_of tX10_addField 3 15 rfl) (by decide) ?_
        refine go_iload (at_of tX10_addField 4 0 rfl) rfl rfl ?_
        refine go_iadd (at_of tX10_addField 4 1 rfl) (by unfold in32; omega) ?_
        refine go_iconst (at_of tX10_addField 4 2 rfl) (by unfold in32; omega) ?_
        refine go_iast1 G_110 (by omega) (by omega) (at_of tX10_addField 4 3 rfl) ?_
        rw [hid]
        refine go_aload_n (at_of tX10_addField 4 4 rfl) rfl ?_
        refine go_getr (q := 118) fl_X10_44 rfl G_109 (by first | exact (hS _ _ rfl).trans rfl | exact (hS1 _ _ rfl).trans rfl | exact (hS2 _ _ rfl).trans rfl | exact (hS3 _ _ rfl).trans rfl | exact (hS4 _ _ rfl).trans rfl) (at_of tX10_addField 4 5 rfl) ?_
        refine go_iload (at_of tX10_addField 4 6 rfl) rfl rfl ?_
        refine go_iload_n (at_of tX10_addField 4 7 rfl) rfl ?_
        refine go_cast1 G_118 (by omega) (by omega) hd (at_of tX10_addField 4 8 rfl) ?_
        refine go_aload_n (at_of tX10_addField 4 9 rfl) rfl ?_
        refine go_getr (q := 119) fl_X10_47 rfl G_109 (by first | exact (hS _ _ rfl).trans rfl | exact (hS1 _ _ rfl).trans rfl | exact (hS2 _ _ rfl).trans rfl | exact (hS3 _ _ rfl).trans rfl | exact (hS4 _ _ rfl).trans rfl) (at_of tX10_addField 4 10 rfl) ?_
        refine go_iload (at_of tX10_addField 4 11 rfl) rfl rfl ?_
        refine go_iload (at_of tX10_addField 4 12 rfl) rfl rfl ?_
        refine go_iast1 G_119 (by omega) (by omega) (at_of tX10_addField 4 13 rfl) ?_
        refine go_aload_n (at_of tX10_addField 4 14 rfl) rfl ?_
        refine go_getr (q := 120) fl_X10_50 rfl G_109 (by first | exact (hS _ _ rfl).trans rfl | exact (hS1 _ _ rfl).trans rfl | exact (hS2 _ _ rfl).trans rfl | exact (hS3 _ _ rfl).trans rfl | exact (hS4 _ _ rfl).trans rfl) (at_of tX10_addField 4 15 rfl) ?_
        refine go_iload (at_of tX10_addField 5 0 rfl) rfl rfl ?_
        refine go_iconst (at_of tX10_addField 5 1 rfl) (by unfold in32; omega) ?_
        refine go_bast1 G_120 (by omega) (by omega) (Or.inl rfl) (at_of tX10_addField 5 2 rfl) ?_
        refine go_iload (at_of tX10_addField 5 3 rfl) rfl rfl ?_
        exact go_reti (at_of tX10_addField 5 4 rfl) (le_i a13.symm)
    · skip
      rw [x1] at wf
      by_cases q20 : σ.1 109 13 = 20
      · exact absurd q20 hn20
      · rw [y0 q20] at wf
        refine con_of_go mfX10_addField.1 trivial (Nat.le_of_ble_eq_true rfl) rfl (by decide) ?_
        show Go _ _ _ _ 0 [vA _, vI _, vI _, vI _, vI _, vT 9 0, vT 9 0, vT 9 0] [] _ _
        refine go_iload_n (at_of tX10_addField 0 0 rfl) rfl ?_
        refine go_bipush (at_of tX10_addField 0 1 rfl) (by decide) ?_
        refine go_icmp_eq (tgt := 48) (at_of tX10_addField 0 2 rfl) (by decide) (fun h3 => ?_) (fun h3 => ?_)
        · exfalso; omega
        refine go_iload_n (at_of tX10_addField 0 3 rfl) rfl ?_
        refine go_bipush (at_of tX10_addField 0 4 rfl) (by decide) ?_
        refine go_icmp_ne (tgt := 22) (at_of tX10_addField 0 5 rfl) (by decide) (fun h9 => ?_) (fun h9 => ?_)
        rotate_left
        · exfalso; omega
        refine go_iload_n (at_of tX10_addField 0 11 rfl) rfl ?_
        refine go_bipush (at_of tX10_addField 0 12 rfl) (by decide) ?_
        refine go_icmp_eq (tgt := 40) (at_of tX10_addField 0 13 rfl) (by decide) (fun h25 => ?_) (fun h25 => ?_)
        · exfalso; omega
        refine go_iload_n (at_of tX10_addField 0 14 rfl) rfl ?_
        refine go_bipush (at_of tX10_addField 0 15 rfl) (by decide) ?_
        refine go_icmp_eq (tgt := 40) (at_of tX10_addField 1 0 rfl) (by decide) (fun h31 => ?_) (fun h31 => ?_)
        · exfalso; omega
        refine go_iload_n (at_of tX10_addField 1 1 rfl) rfl ?_
        refine go_bipush (at_of tX10_addField 1 2 rfl) (by decide) ?_
        refine go_icmp_ne (tgt := 52) (at_of tX10_addField 1 3 rfl) (by decide) (fun h37 => ?_) (fun h37 => ?_)
        · exfalso; omega
        refine go_iload (at_of tX10_addField 1 4 rfl) rfl rfl ?_
        refine go_cS (m_isBookmark) lk_X10_184 rfl (at_of tX10_addField 1 5 rfl) rfl (by decide) rfl (Nat.le_of_ble_eq_true rfl) rfl (by first | decide | exact ⟨Nat.zero_le _, Nat.zero_le _⟩) ?_
        refine go_if_eq (tgt := 52) (at_of tX10_addField 1 6 rfl) (by decide) (fun h45 => ?_) (fun h45 => ?_)
        · exfalso; exact bI_0.mp h45 c2
        refine go_iconst (at_of tX10_addField 1 7 rfl) (by unfold in32; omega) ?_
        refine go_goto (tgt := 53) (at_of tX10_addField 1 8 rfl) (by decide) ?_
        refine go_istore (at_of tX10_addField 1 10 rfl) rfl rfl ?_
        refine go_aload_n (at_of tX10_addField 1 11 rfl) rfl ?_
        refine go_aload_n (at_of tX10_addField 1 12 rfl) rfl ?_
        refine go_iload_n (at_of tX10_addField 1 13 rfl) rfl ?_
        refine go_iload_n (at_of tX10_addField 1 14 rfl) rfl ?_
        refine go_iload (at_of tX10_addField 1 15 rfl) rfl rfl ?_
        refine go_aload_n (at_of tX10_addField 2 0 rfl) rfl ?_
        refine go_getf fl_X10_187 rfl G_109 (at_of tX10_addField 2 1 rfl) ?_
        refine go_bipush (at_of tX10_addField 2 2 rfl) (by decide) ?_
        refine go_icmp_ne (tgt := 74) (at_of tX10_addField 2 3 rfl) (by decide) (fun h67 => ?_) (fun h67 => ?_)
        rotate_left
        · exfalso; omega
        refine go_iconst (at_of tX10_addField 2 6 rfl) (by unfold in32; omega) ?_
        refine go_cV (wf) lk_X10_176 rfl G_109 (at_of tX10_addField 2 7 rfl) rfl (by decide) rfl (Nat.le_of_ble_eq_true rfl) rfl (by first | decide | exact ⟨Nat.zero_le _, Nat.zero_le _⟩) ?_
        refine go_cV (m_goesOn) lk_X10_141 rfl G_109 (at_of tX10_addField 2 8 rfl) rfl (by decide) rfl (Nat.le_of_ble_eq_true rfl) rfl (by first | decide | exact ⟨Nat.zero_le _, Nat.zero_le _⟩) ?_
        refine go_if_ne (tgt := 86) (at_of tX10_addField 2 9 rfl) (by decide) (fun h81 => ?_) (fun h81 => ?_)
        rotate_left
        · exfalso; exact absurd h81 (by rw [bI_t rfl]; decide)
        refine go_aload_n (at_of tX10_addField 2 12 rfl) rfl ?_
        refine go_getf fl_X10_187 rfl G_109 (at_of tX10_addField 2 13 rfl) ?_
        refine go_istore (at_of tX10_addField 2 14 rfl) rfl rfl ?_
        refine go_aload_n (at_of tX10_addField 2 15 rfl) rfl ?_
        refine go_iload_n (at_of tX10_addField 3 0 rfl) rfl ?_
        refine go_iload_n (at_of tX10_addField 3 1 rfl) rfl ?_
        refine go_sipush (at_of tX10_addField 3 2 rfl) (by decide) ?_
        refine go_iload (at_of tX10_addField 3 3 rfl) rfl rfl ?_
        refine go_iadd (at_of tX10_addField 3 4 rfl) (by unfold in32; omega) ?_
        rw [a13]
        refine go_cV (z1) lk_X10_180 rfl G_109 (at_of tX10_addField 3 5 rfl) rfl (by decide) rfl (Nat.le_of_ble_eq_true rfl) rfl (by first | decide | exact ⟨Nat.zero_le _, Nat.zero_le _⟩) ?_
        refine go_istore (at_of tX10_addField 3 6 rfl) rfl rfl ?_
        refine go_aload_n (at_of tX10_addField 3 7 rfl) rfl ?_
        refine go_dup (at_of tX10_addField 3 8 rfl) rfl ?_
        refine go_getf fl_X10_187 rfl G_109 (at_of tX10_addField 3 9 rfl) ?_
        rw [b13]
        refine go_iconst (at_of tX10_addField 3 10 rfl) (by unfold in32; omega) ?_
        refine go_iadd (at_of tX10_addField 3 11 rfl) (by unfold in32; omega) ?_
        refine go_put1 fp_X10_187 rfl (Or.inl rfl) G_109 (Or.inl rfl) (at_of tX10_addField 3 12 rfl) ?_
        refine go_aload_n (at_of tX10_addField 3 13 rfl) rfl ?_
        refine go_getr (q := 110) fl_X10_7 rfl G_109 (by first | exact (hS _ _ rfl).trans rfl | exact (hS1 _ _ rfl).trans rfl | exact (hS2 _ _ rfl).trans rfl | exact (hS3 _ _ rfl).trans rfl | exact (hS4 _ _ rfl).trans rfl) (at_of tX10_addField 3 14 rfl) ?_
        refine go_sipush (at_of tX10_addField 3 15 rfl) (by decide) ?_
        refine go_iload (at_of tX10_addField 4 0 rfl) rfl rfl ?_
        refine go_iadd (at_of tX10_addField 4 1 rfl) (by unfold in32; omega) ?_
        refine go_iconst (at_of tX10_addField 4 2 rfl) (by unfold in32; omega) ?_
        refine go_iast1 G_110 (by omega) (by omega) (at_of tX10_addField 4 3 rfl) ?_
        rw [hid]
        refine go_aload_n (at_of tX10_addField 4 4 rfl) rfl ?_
        refine go_getr (q := 118) fl_X10_44 rfl G_109 (by first | exact (hS _ _ rfl).trans rfl | exact (hS1 _ _ rfl).trans rfl | exact (hS2 _ _ rfl).trans rfl | exact (hS3 _ _ rfl).trans rfl | exact (hS4 _ _ rfl).trans rfl) (at_of tX10_addField 4 5 rfl) ?_
        refine go_iload (at_of tX10_addField 4 6 rfl) rfl rfl ?_
        refine go_iload_n (at_of tX10_addField 4 7 rfl) rfl ?_
        refine go_cast1 G_118 (by omega) (by omega) hd (at_of tX10_addField 4 8 rfl) ?_
        refine go_aload_n (at_of tX10_addField 4 9 rfl) rfl ?_
        refine go_getr (q := 119) fl_X10_47 rfl G_109 (by first | exact (hS _ _ rfl).trans rfl | exact (hS1 _ _ rfl).trans rfl | exact (hS2 _ _ rfl).trans rfl | exact (hS3 _ _ rfl).trans rfl | exact (hS4 _ _ rfl).trans rfl) (at_of tX10_addField 4 10 rfl) ?_
        refine go_iload (at_of tX10_addField 4 11 rfl) rfl rfl ?_
        refine go_iload (at_of tX10_addField 4 12 rfl) rfl rfl ?_
        refine go_iast1 G_119 (by omega) (by omega) (at_of tX10_addField 4 13 rfl) ?_
        refine go_aload_n (at_of tX10_addField 4 14 rfl) rfl ?_
        refine go_getr (q := 120) fl_X10_50 rfl G_109 (by first | exact (hS _ _ rfl).trans rfl | exact (hS1 _ _ rfl).trans rfl | exact (hS2 _ _ rfl).trans rfl | exact (hS3 _ _ rfl).trans rfl | exact (hS4 _ _ rfl).trans rfl) (at_of tX10_addField 4 15 rfl) ?_
        refine go_iload (at_of tX10_addField 5 0 rfl) rfl rfl ?_
        refine go_iconst (at_of tX10_addField 5 1 rfl) (by unfold in32; omega) ?_
        refine go_bast1 G_120 (by omega) (by omega) (Or.inl rfl) (at_of tX10_addField 5 2 rfl) ?_
        refine go_iload (at_of tX10_addField 5 3 rfl) rfl rfl ?_
        exact go_reti (at_of tX10_addField 5 4 rfl) (le_i a13.symm)
  · exact absurd hfine c
end Mod13
