/-! The reference: units that wait; whether it is sound. -/
section Mod23
variable {σ : St}
theorem m_concerned (hS : Str σ.2.1) {R : RowD} (hN : RepNr (cN σ) R) (hL : LastE R) : Con 1 mX10_concerned 0 0 [vA 109] σ (vI (waitN R.1 R.2.1), σ) := by
  obtain ⟨e1, e2, e3, e4⟩ := id hL
  unfold waitN
  have key : ∀ (m : Nat) (b : Nat × Nat) (u s : Int), 0 ≤ u → u + m = R.2.1 → 0 ≤ s → s ≤ u → Go (fun _ => 0) 1 mX10_concerned b 4 [vA 109, vI s, vI u] [] σ (vI (s + cntF (waitB R.1) m u), σ) := by
    intro m
    induction m with
    | zero =>
      intro b u s h0 h1 h2 h3
      refine go_iload_n (at_of tX10_concerned 0 4 rfl) rfl ?_
      refine go_aload_n (at_of tX10_concerned 0 5 rfl) rfl ?_
      refine go_cV (m_many hS hN) lk_X10_110 rfl G_109 (at_of tX10_concerned 0 6 rfl) rfl (by decide) rfl (Nat.le_of_ble_eq_true rfl) rfl (by first | decide | exact ⟨Nat.zero_le _, Nat.zero_le _⟩) ?_
      refine go_icmp_ge (tgt := 46) (at_of tX10_concerned 0 7 rfl) (by decide) (fun h9 => ?_) (fun h9 => ?_)
      rotate_left
      · exfalso; omega
      refine go_iload_n (at_of tX10_concerned 1 12 rfl) rfl ?_
      exact go_reti (at_of tX10_concerned 1 13 rfl) (le_i (by rw [cntF]; omega))
    | succ m ih =>
      intro b u s h0 h1 h2 h3
      rw [cntF]
      have wb : waitB R.1 u = true ↔ (R.1 2 u ≠ -1 ∨ R.1 3 u ≠ -1) := by unfold waitB; rw [decide_eq_true_eq]
      by_cases c1 : R.1 2 u = -1
      · by_cases c2 : R.1 3 u = -1
        · rw [if_neg (fun q => by have := wb.mp q; omega), show s + (0 + cntF (waitB R.1) m (u + 1)) = s + 0 + cntF (waitB R.1) m (u + 1) by omega]
          refine go_iload_n (at_of tX10_concerned 0 4 rfl) rfl ?_
          refine go_aload_n (at_of tX10_concerned 0 5 rfl) rfl ?_
          refine go_cV (m_many hS hN) lk_X10_110 rfl G_109 (at_of tX10_concerned 0 6 rfl) rfl (by decide) rfl (Nat.le_of_ble_eq_true rfl) rfl (by first | decide | exact ⟨Nat.zero_le _, Nat.zero_le _⟩) ?_
          refine go_icmp_ge (tgt := 46) (at_of tX10_concerned 0 7 rfl) (by decide) (fun h9 => ?_) (fun h9 => ?_)
          · exfalso; omega
          refine go_iload_n (at_of tX10_concerned 0 8 rfl) rfl ?_
          refine go_aload_n (at_of tX10_concerned 0 9 rfl) rfl ?_
          refine go_iload_n (at_of tX10_concerned 0 10 rfl) rfl ?_
          refine go_iconst (at_of tX10_concerned 0 11 rfl) (by unfold in32; omega) ?_
          refine go_cV (m_at1 hS hN (by omega)) lk_X10_106 rfl G_109 (at_of tX10_concerned 0 12 rfl) rfl (by decide) rfl (Nat.le_of_ble_eq_true rfl) rfl (by first | decide | exact ⟨Nat.zero_le _, Nat.zero_le _⟩) ?_
          refine go_iconst (at_of tX10_concerned 0 13 rfl) (by unfold in32; omega) ?_
          refine go_icmp_ne (tgt := 33) (at_of tX10_concerned 0 14 rfl) (by decide) (fun h20 => ?_) (fun h20 => ?_)
          · exfalso; omega
          refine go_aload_n (at_of tX10_concerned 0 15 rfl) rfl ?_
          refine go_iload_n (at_of tX10_concerned 1 0 rfl) rfl ?_
          refine go_iconst (at_of tX10_concerned 1 1 rfl) (by unfold in32; omega) ?_
          refine go_cV (m_at2 hS hN (by omega)) lk_X10_106 rfl G_109 (at_of tX10_concerned 1 2 rfl) rfl (by decide) rfl (Nat.le_of_ble_eq_true rfl) rfl (by first | decide | exact ⟨Nat.zero_le _, Nat.zero_le _⟩) ?_
          refine go_iconst (at_of tX10_concerned 1 3 rfl) (by unfold in32; omega) ?_
          refine go_icmp_eq (tgt := 37) (at_of tX10_concerned 1 4 rfl) (by decide) (fun h30 => ?_) (fun h30 => ?_)
          rotate_left
          · exfalso; omega
          refine go_iconst (at_of tX10_concerned 1 7 rfl) (by unfold in32; omega) ?_
          refine go_iadd (at_of tX10_concerned 1 8 rfl) (by unfold in32; omega) ?_
          refine go_istore_n (at_of tX10_concerned 1 9 rfl) rfl rfl ?_
          refine go_iinc (at_of tX10_concerned 1 10 rfl) rfl (by unfold in32; omega) rfl rfl ?_
          refine go_goto (tgt := 4) (at_of tX10_concerned 1 11 rfl) (by decide) ?_
          exact ih _ _ _ (by omega) (by omega) (by omega) (by omega)
        · rw [if_pos (wb.mpr (Or.inr c2)), show s + (1 + cntF (waitB R.1) m (u + 1)) = s + 1 + cntF (waitB R.1) m (u + 1) by omega]
          refine go_iload_n (at_of tX10_concerned 0 4 rfl) rfl ?_
          refine go_aload_n (at_of tX10_concerned 0 5 rfl) rfl ?_
          refine go_cV (m_many hS hN) lk_X10_110 rfl G_109 (at_of tX10_concerned 0 6 rfl) rfl (by decide) rfl (Nat.le_of_ble_eq_true rfl) rfl (by first | decide | exact ⟨Nat.zero_le _, Nat.zero_le _⟩) ?_
          refine go_icmp_ge (tgt := 46) (at_of tX10_concerned 0 7 rfl) (by decide) (fun h9 => ?_) (fun h9 => ?_)
          · exfalso; omega
          refine go_iload_n (at_of tX10_concerned 0 8 rfl) rfl ?_
          refine go_aload_n (at_of tX10_concerned 0 9 rfl) rfl ?_
          refine go_iload_n (at_of tX10_concerned 0 10 rfl) rfl ?_
          refine go_iconst (at_of tX10_concerned 0 11 rfl) (by unfold in32; omega) ?_
          refine go_cV (m_at1 hS hN (by omega)) lk_X10_106 rfl G_109 (at_of tX10_concerned 0 12 rfl) rfl (by decide) rfl (Nat.le_of_ble_eq_true rfl) rfl (by first | decide | exact ⟨Nat.zero_le _, Nat.zero_le _⟩) ?_
          refine go_iconst (at_of tX10_concerned 0 13 rfl) (by unfold in32; omega) ?_
          refine go_icmp_ne (tgt := 33) (at_of tX10_concerned 0 14 rfl) (by decide) (fun h20 => ?_) (fun h20 => ?_)
          · exfalso; omega
          refine go_aload_n (at_of tX10_concerned 0 15 rfl) rfl ?_
          refine go_iload_n (at_of tX10_concerned 1 0 rfl) rfl ?_
          refine go_iconst (at_of tX10_concerned 1 1 rfl) (by unfold in32; omega) ?_
          refine go_cV (m_at2 hS hN (by omega)) lk_X10_106 rfl G_109 (at_of tX10_concerned 1 2 rfl) rfl (by decide) rfl (Nat.le_of_ble_eq_true rfl) rfl (by first | decide | exact ⟨Nat.zero_le _, Nat.zero_le _⟩) ?_
          refine go_iconst (at_of tX10_concerned 1 3 rfl) (by unfold in32; omega) ?_
          refine go_icmp_eq (tgt := 37) (at_of tX10_concerned 1 4 rfl) (by decide) (fun h30 => ?_) (fun h30 => ?_)
          · exfalso; omega
          refine go_iconst (at_of tX10_concerned 1 5 rfl) (by unfold in32; omega) ?_
          refine go_goto (tgt := 38) (at_of tX10_concerned 1 6 rfl) (by decide) ?_
          refine go_iadd (at_of tX10_concerned 1 8 rfl) (by unfold in32; omega) ?_
          refine go_istore_n (at_of tX10_concerned 1 9 rfl) rfl rfl ?_
          refine go_iinc (at_of tX10_concerned 1 10 rfl) rfl (by unfold in32; omega) rfl rfl ?_
          refine go_goto (tgt := 4) (at_of tX10_concerned 1 11 rfl) (by decide) ?_
          exact ih _ _ _ (by omega) (by omega) (by omega) (by omega)
      · rw [if_pos (wb.mpr (Or.inl c1)), show s + (1 + cntF (waitB R.1) m (u + 1)) = s + 1 + cntF (waitB R.1) m (u + 1) by omega]
        refine go_iload_n (at_of tX10_concerned 0 4 rfl) rfl ?_
        refine go_aload_n (at_of tX10_concerned 0 5 rfl) rfl ?_
        refine go_cV (m_many hS hN) lk_X10_110 rfl G_109 (at_of tX10_concerned 0 6 rfl) rfl (by decide) rfl (Nat.le_of_ble_eq_true rfl) rfl (by first | decide | exact ⟨Nat.zero_le _, Nat.zero_le _⟩) ?_
        refine go_icmp_ge (tgt := 46) (at_of tX10_concerned 0 7 rfl) (by decide) (fun h9 => ?_) (fun h9 => ?_)
        · exfalso; omega
        refine go_iload_n (at_of tX10_concerned 0 8 rfl) rfl ?_
        refine go_aload_n (at_of tX10_concerned 0 9 rfl) rfl ?_
        refine go_iload_n (at_of tX10_concerned 0 10 rfl) rfl ?_
        refine go_iconst (at_of tX10_concerned 0 11 rfl) (by unfold in32; omega) ?_
        refine go_cV (m_at1 hS hN (by omega)) lk_X10_106 rfl G_109 (at_of tX10_concerned 0 12 rfl) rfl (by decide) rfl (Nat.le_of_ble_eq_true rfl) rfl (by first | decide | exact ⟨Nat.zero_le _, Nat.zero_le _⟩) ?_
        refine go_iconst (at_of tX10_concerned 0 13 rfl) (by unfold in32; omega) ?_
        refine go_icmp_ne (tgt := 33) (at_of tX10_concerned 0 14 rfl) (by decide) (fun h20 => ?_) (fun h20 => ?_)
        rotate_left
        · exfalso; omega
        refine go_iconst (at_of tX10_concerned 1 5 rfl) (by unfold in32; omega) ?_
        refine go_goto (tgt := 38) (at_of tX10_concerned 1 6 rfl) (by decide) ?_
        refine go_iadd (at_of tX10_concerned 1 8 rfl) (by unfold in32; omega) ?_
        refine go_istore_n (at_of tX10_concerned 1 9 rfl) rfl rfl ?_
        refine go_iinc (at_of tX10_concerned 1 10 rfl) rfl (by unfold in32; omega) rfl rfl ?_
        refine go_goto (tgt := 4) (at_of tX10_concerned 1 11 rfl) (by decide) ?_
        exact ih _ _ _ (by omega) (by omega) (by omega) (by omega)
  refine con_of_go mfX10_concerned.1 trivial (Nat.le_of_ble_eq_true rfl) rfl (by decide) ?_
  show Go _ _ _ _ 0 [vA _, vT 9 0, vT 9 0] [] _ _
  refine go_iconst (at_of tX10_concerned 0 0 rfl) (by unfold in32; omega) ?_
  refine go_istore_n (at_of tX10_concerned 0 1 rfl) rfl rfl ?_
  refine go_iconst (at_of tX10_concerned 0 2 rfl) (by unfold in32; omega) ?_
  refine go_istore_n (at_of tX10_concerned 0 3 rfl) rfl rfl ?_
  have z := fun b => key R.2.1.toNat b 0 0 (by omega) (by omega) (by omega) (by omega)
  simp only [Int.zero_add] at z
  exact z _
theorem m_isSound (hS : Str σ.2.1) : Con 0 mX10_isSound 0 0 [vA 109] σ (vI 1, P1 σ 109 0 0) := by
  refine con_of_go mfX10_isSound.1 (Or.inr rfl) (Nat.le_of_ble_eq_true rfl) rfl (by decide) ?_
  show Go _ _ _ _ 0 [vA _] [] _ _
  refine go_aload_n (at_of tX10_isSound 0 0 rfl) rfl ?_
  refine go_iconst (at_of tX10_isSound 0 1 rfl) (by unfold in32; omega) ?_
  refine go_put1 fp_X10_103 rfl (Or.inl rfl) G_109 (Or.inl rfl) (at_of tX10_isSound 0 2 rfl) ?_
  refine go_iconst (at_of tX10_isSound 0 3 rfl) (by unfold in32; omega) ?_
  first | exact go_reti (at_of tX10_isSound 0 4 rfl) rfl | exact go_reti (at_of tX10_isSound 0 4 rfl) (le_i (by omega)) | exact go_reti (at_of tX10_isSound 0 4 rfl) (le_i (by first | exact bI_t (by omega) | exact bI_f (by omega)))
end Mod23
