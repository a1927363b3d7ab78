/-! The reference: styles, lists' kinds, records, fields' locks, the page's size. -/
section Mod12
variable {σ : St}
theorem m_setTracking (hS : Str σ.2.1) {z : Int} (hz : z = 0 ∨ z = 1) (h01 : σ.1 109 6 = 0 ∨ σ.1 109 6 = 1) : Con 0 mX10_setTracking 0 0 [vA 109, vI z] σ (vI (σ.1 109 6), P1 (P1 σ 109 0 0) 109 6 z) := by
  refine con_of_go mfX10_setTracking.1 h01 (Nat.le_of_ble_eq_true rfl) rfl (by decide) ?_
  show Go _ _ _ _ 0 [vA _, vI _, vT 9 0] [] _ _
  refine go_aload_n (at_of tX10_setTracking 0 0 rfl) rfl ?_
  refine go_iconst (at_of tX10_setTracking 0 1 rfl) (by unfold in32; omega) ?_
  refine go_put1 fp_X10_103 rfl (Or.inl rfl) G_109 (Or.inl rfl) (at_of tX10_setTracking 0 2 rfl) ?_
  refine go_aload_n (at_of tX10_setTracking 0 3 rfl) rfl ?_
  refine go_getf fl_X10_19 rfl G_109 (at_of tX10_setTracking 0 4 rfl) ?_
  refine go_istore_n (at_of tX10_setTracking 0 5 rfl) rfl rfl ?_
  refine go_aload_n (at_of tX10_setTracking 0 6 rfl) rfl ?_
  refine go_iload_n (at_of tX10_setTracking 0 7 rfl) rfl ?_
  refine go_put1 fp_X10_19 rfl (Or.inl rfl) G_109 (Or.inr hz) (at_of tX10_setTracking 0 8 rfl) ?_
  refine go_iload_n (at_of tX10_setTracking 0 9 rfl) rfl ?_
  exact go_reti (at_of tX10_setTracking 0 10 rfl) (le_i (P1_nj (by omega)).symm)
theorem m_setLegal_no (hS : Str σ.2.1) {l z : Int} (hz : z = 0 ∨ z = 1) (h01 : σ.1 117 l.toNat = 0 ∨ σ.1 117 l.toNat = 1) (h : ¬ (0 ≤ l ∧ l ≤ 2)) : Con 2 mX10_setLegal 0 0 [vA 109, vI l, vI z] σ (vI 0, P1 σ 109 0 1) := by
  have c0 : ¬ (0 ≤ l ∧ l ≤ 2) := fun c0 => h c0
  refine con_of_go mfX10_setLegal.1 (Or.inl rfl) (Nat.le_of_ble_eq_true rfl) rfl (by decide) ?_
  show Go _ _ _ _ 0 [vA _, vI _, vI _, vT 9 0] [] _ _
  refine go_aload_n (at_of tX10_setLegal 0 0 rfl) rfl ?_
  refine go_iload_n (at_of tX10_setLegal 0 1 rfl) rfl ?_
  refine go_cS (m_isList) lk_X10_235 rfl (at_of tX10_setLegal 0 2 rfl) rfl (by decide) rfl (Nat.le_of_ble_eq_true rfl) rfl (by first | decide | exact ⟨Nat.zero_le _, Nat.zero_le _⟩) ?_
  refine go_if_eq (tgt := 12) (at_of tX10_setLegal 0 3 rfl) (by decide) (fun h5 => ?_) (fun h5 => ?_)
  rotate_left
  · exfalso; exact c0 (bI_1.mp h5)
  refine go_iconst (at_of tX10_setLegal 0 6 rfl) (by unfold in32; omega) ?_
  refine go_cV (m_goesOn) lk_X10_141 rfl G_109 (at_of tX10_setLegal 0 7 rfl) rfl (by decide) rfl (Nat.le_of_ble_eq_true rfl) rfl (by first | decide | exact ⟨Nat.zero_le _, Nat.zero_le _⟩) ?_
  refine go_if_ne (tgt := 21) (at_of tX10_setLegal 0 8 rfl) (by decide) (fun h16 => ?_) (fun h16 => ?_)
  · exfalso; exact h16 (bI_f (by decide))
  refine go_iconst (at_of tX10_setLegal 0 9 rfl) (by unfold in32; omega) ?_
  first | exact go_reti (at_of tX10_setLegal 0 10 rfl) rfl | exact go_reti (at_of tX10_setLegal 0 10 rfl) (le_i (by omega)) | exact go_reti (at_of tX10_setLegal 0 10 rfl) (le_i (by first | exact bI_t (by omega) | exact bI_f (by omega)))
theorem m_setLegal (hS : Str σ.2.1) {l z : Int} (hz : z = 0 ∨ z = 1) (h01 : σ.1 117 l.toNat = 0 ∨ σ.1 117 l.toNat = 1) (h : 0 ≤ l ∧ l ≤ 2) : Con 2 mX10_setLegal 0 0 [vA 109, vI l, vI z] σ (vI (σ.1 117 l.toNat), M1 (P1 σ 109 0 0) 117 l z) := by
  refine con_of_go mfX10_setLegal.1 h01 (Nat.le_of_ble_eq_true rfl) rfl (by decide) ?_
  show Go _ _ _ _ 0 [vA _, vI _, vI _, vT 9 0] [] _ _
  refine go_aload_n (at_of tX10_setLegal 0 0 rfl) rfl ?_
  refine go_iload_n (at_of tX10_setLegal 0 1 rfl) rfl ?_
  refine go_cS (m_isList) lk_X10_235 rfl (at_of tX10_setLegal 0 2 rfl) rfl (by decide) rfl (Nat.le_of_ble_eq_true rfl) rfl (by first | decide | exact ⟨Nat.zero_le _, Nat.zero_le _⟩) ?_
  refine go_if_eq (tgt := 12) (at_of tX10_setLegal 0 3 rfl) (by decide) (fun h5 => ?_) (fun h5 => ?_)
  · exfalso; exact bI_0.mp h5 (h)
  refine go_iconst (at_of tX10_setLegal 0 4 rfl) (by unfold in32; omega) ?_
  refine go_goto (tgt := 13) (at_of tX10_setLegal 0 5 rfl) (by decide) ?_
  refine go_cV (m_goesOn) lk_X10_141 rfl G_109 (at_of tX10_setLegal 0 7 rfl) rfl (by decide) rfl (Nat.le_of_ble_eq_true rfl) rfl (by first | decide | exact ⟨Nat.zero_le _, Nat.zero_le _⟩) ?_
  refine go_if_ne (tgt := 21) (at_of tX10_setLegal 0 8 rfl) (by decide) (fun h16 => ?_) (fun h16 => ?_)
  rotate_left
  · exfalso; exact absurd h16 (by rw [bI_t rfl]; decide)
  refine go_aload_n (at_of tX10_setLegal 0 11 rfl) rfl ?_
  refine go_getr (q := 117) fl_X10_41 rfl G_109 (by first | exact (hS _ _ rfl).trans rfl | exact (hS1 _ _ rfl).trans rfl | exact (hS2 _ _ rfl).trans rfl | exact (hS3 _ _ rfl).trans rfl | exact (hS4 _ _ rfl).trans rfl) (at_of tX10_setLegal 0 12 rfl) ?_
  refine go_iload_n (at_of tX10_setLegal 0 13 rfl) rfl ?_
  refine go_bald G_117 (by omega) (by omega) (at_of tX10_setLegal 0 14 rfl) ?_
  refine go_istore_n (at_of tX10_setLegal 0 15 rfl) rfl rfl ?_
  refine go_aload_n (at_of tX10_setLegal 1 0 rfl) rfl ?_
  refine go_getr (q := 117) fl_X10_41 rfl G_109 (by first | exact (hS _ _ rfl).trans rfl | exact (hS1 _ _ rfl).trans rfl | exact (hS2 _ _ rfl).trans rfl | exact (hS3 _ _ rfl).trans rfl | exact (hS4 _ _ rfl).trans rfl) (at_of tX10_setLegal 1 1 rfl) ?_
  refine go_iload_n (at_of tX10_setLegal 1 2 rfl) rfl ?_
  refine go_iload_n (at_of tX10_setLegal 1 3 rfl) rfl ?_
  refine go_bast1 G_117 (by omega) (by omega) hz (at_of tX10_setLegal 1 4 rfl) ?_
  refine go_iload_n (at_of tX10_setLegal 1 5 rfl) rfl ?_
  exact go_reti (at_of tX10_setLegal 1 6 rfl) (le_i (P1_ne (by omega)).symm)
theorem m_lock_no (hS : Str σ.2.1) (h20 : 0 ≤ σ.1 109 13 ∧ σ.1 109 13 ≤ 20) {f : Int} {z : Int} (hz : z = 0 ∨ z = 1) (h01 : σ.1 120 f.toNat = 0 ∨ σ.1 120 f.toNat = 1) (h : ¬ (0 ≤ f ∧ f < σ.1 109 13)) : Con 2 mX10_lock 0 0 [vA 109, vI f, vI z] σ (vI 0, P1 σ 109 0 1) := by
  have c0 : ¬ (0 ≤ f ∧ f < σ.1 109 13) := fun c0 => h c0
  refine con_of_go mfX10_lock.1 (Or.inl rfl) (Nat.le_of_ble_eq_true rfl) rfl (by decide) ?_
  show Go _ _ _ _ 0 [vA _, vI _, vI _, vT 9 0] [] _ _
  refine go_aload_n (at_of tX10_lock 0 0 rfl) rfl ?_
  refine go_aload_n (at_of tX10_lock 0 1 rfl) rfl ?_
  refine go_iload_n (at_of tX10_lock 0 2 rfl) rfl ?_
  refine go_cV (m_isField hS h20) lk_X10_266 rfl G_109 (at_of tX10_lock 0 3 rfl) rfl (by decide) rfl (Nat.le_of_ble_eq_true rfl) rfl (by first | decide | exact ⟨Nat.zero_le _, Nat.zero_le _⟩) ?_
  refine go_if_eq (tgt := 13) (at_of tX10_lock 0 4 rfl) (by decide) (fun h6 => ?_) (fun h6 => ?_)
  rotate_left
  · exfalso; exact c0 (bI_1.mp h6)
  refine go_iconst (at_of tX10_lock 0 7 rfl) (by unfold in32; omega) ?_
  refine go_cV (m_goesOn) lk_X10_141 rfl G_109 (at_of tX10_lock 0 8 rfl) rfl (by decide) rfl (Nat.le_of_ble_eq_true rfl) rfl (by first | decide | exact ⟨Nat.zero_le _, Nat.zero_le _⟩) ?_
  refine go_if_ne (tgt := 22) (at_of tX10_lock 0 9 rfl) (by decide) (fun h17 => ?_) (fun h17 => ?_)
  · exfalso; exact h17 (bI_f (by decide))
  refine go_iconst (at_of tX10_lock 0 10 rfl) (by unfold in32; omega) ?_
  first | exact go_reti (at_of tX10_lock 0 11 rfl) rfl | exact go_reti (at_of tX10_lock 0 11 rfl) (le_i (by omega)) | exact go_reti (at_of tX10_lock 0 11 rfl) (le_i (by first | exact bI_t (by omega) | exact bI_f (by omega)))
theorem m_lock (hS : Str σ.2.1) (h20 : 0 ≤ σ.1 109 13 ∧ σ.1 109 13 ≤ 20) {f : Int} {z : Int} (hz : z = 0 ∨ z = 1) (h01 : σ.1 120 f.toNat = 0 ∨ σ.1 120 f.toNat = 1) (h : 0 ≤ f ∧ f < σ.1 109 13) : Con 2 mX10_lock 0 0 [vA 109, vI f, vI z] σ (vI (σ.1 120 f.toNat), M1 (P1 σ 109 0 0) 120 f z) := by
  refine con_of_go mfX10_lock.1 h01 (Nat.le_of_ble_eq_true rfl) rfl (by decide) ?_
  show Go _ _ _ _ 0 [vA _, vI _, vI _, vT 9 0] [] _ _
  refine go_aload_n (at_of tX10_lock 0 0 rfl) rfl ?_
  refine go_aload_n (at_of tX10_lock 0 1 rfl) rfl ?_
  refine go_iload_n (at_of tX10_lock 0 2 rfl) rfl ?_
  refine go_cV (m_isField hS h20) lk_X10_266 rfl G_109 (at_of tX10_lock 0 3 rfl) rfl (by decide) rfl (Nat.le_of_ble_eq_true rfl) rfl (by first | decide | exact ⟨Nat.zero_le _, Nat.zero_le _⟩) ?_
  refine go_if_eq (tgt := 13) (at_of tX10_lock 0 4 rfl) (by decide) (fun h6 => ?_) (fun h6 => ?_)
  · exfalso; exact bI_0.mp h6 (h)
  refine go_iconst (at_of tX10_lock 0 5 rfl) (by unfold in32; omega) ?_
  refine go_goto (tgt := 14) (at_of tX10_lock 0 6 rfl) (by decide) ?_
  refine go_cV (m_goesOn) lk_X10_141 rfl G_109 (at_of tX10_lock 0 8 rfl) rfl (by decide) rfl (Nat.le_of_ble_eq_true rfl) rfl (by first | decide | exact ⟨Nat.zero_le _, Nat.zero_le _⟩) ?_
  refine go_if_ne (tgt := 22) (at_of tX10_lock 0 9 rfl) (by decide) (fun h17 => ?_) (fun h17 => ?_)
  rotate_left
  · exfalso; exact absurd h17 (by rw [bI_t rfl]; decide)
  refine go_aload_n (at_of tX10_lock 0 12 rfl) rfl ?_
  refine go_getr (q := 120) fl_X10_50 rfl G_109 (by first | exact (hS _ _ rfl).trans rfl | exact (hS1 _ _ rfl).trans rfl | exact (hS2 _ _ rfl).trans rfl | exact (hS3 _ _ rfl).trans rfl | exact (hS4 _ _ rfl).trans rfl) (at_of tX10_lock 0 13 rfl) ?_
  refine go_iload_n (at_of tX10_lock 0 14 rfl) rfl ?_
  refine go_bald G_120 (by omega) (by omega) (at_of tX10_lock 0 15 rfl) ?_
  refine go_istore_n (at_of tX10_lock 1 0 rfl) rfl rfl ?_
  refine go_aload_n (at_of tX10_lock 1 1 rfl) rfl ?_
  refine go_getr (q := 120) fl_X10_50 rfl G_109 (by first | exact (hS _ _ rfl).trans rfl | exact (hS1 _ _ rfl).trans rfl | exact (hS2 _ _ rfl).trans rfl | exact (hS3 _ _ rfl).trans rfl | exact (hS4 _ _ rfl).trans rfl) (at_of tX10_lock 1 2 rfl) ?_
  refine go_iload_n (at_of tX10_lock 1 3 rfl) rfl ?_
  refine go_iload_n (at_of tX10_lock 1 4 rfl) rfl ?_
  refine go_bast1 G_120 (by omega) (by omega) (by omega) (at_of tX10_lock 1 5 rfl) ?_
  refine go_iload_n (at_of tX10_lock 1 6 rfl) rfl ?_
  exact go_reti (at_of tX10_lock 1 7 rfl) (le_i (P1_ne (by omega)).symm)
theorem m_result_no (hS : Str σ.2.1) (h20 : 0 ≤ σ.1 109 13 ∧ σ.1 109 13 ≤ 20) {f : Int} (h : ¬ (0 ≤ f ∧ f < σ.1 109 13)) : Con 2 mX10_result 0 0 [vA 109, vI f] σ (vI 0, P1 σ 109 0 1) := by
  have c0 : ¬ (0 ≤ f ∧ f < σ.1 109 13) := fun c0 => h c0
  refine con_of_go mfX10_result.1 trivial (Nat.le_of_ble_eq_true rfl) rfl (by decide) ?_
  show Go _ _ _ _ 0 [vA _, vI _] [] _ _
  refine go_aload_n (at_of tX10_result 0 0 rfl) rfl ?_
  refine go_aload_n (at_of tX10_result 0 1 rfl) rfl ?_
  refine go_iload_n (at_of tX10_result 0 2 rfl) rfl ?_
  refine go_cV (m_isField hS h20) lk_X10_266 rfl G_109 (at_of tX10_result 0 3 rfl) rfl (by decide) rfl (Nat.le_of_ble_eq_true rfl) rfl (by first | decide | exact ⟨Nat.zero_le _, Nat.zero_le _⟩) ?_
  refine go_if_eq (tgt := 13) (at_of tX10_result 0 4 rfl) (by decide) (fun h6 => ?_) (fun h6 => ?_)
  rotate_left
  · exfalso; exact c0 (bI_1.mp h6)
  refine go_iconst (at_of tX10_result 0 7 rfl) (by unfold in32; omega) ?_
  refine go_cV (m_goesOn) lk_X10_141 rfl G_109 (at_of tX10_result 0 8 rfl) rfl (by decide) rfl (Nat.le_of_ble_eq_true rfl) rfl (by first | decide | exact ⟨Nat.zero_le _, Nat.zero_le _⟩) ?_
  refine go_if_eq (tgt := 33) (at_of tX10_result 0 9 rfl) (by decide) (fun h17 => ?_) (fun h17 => ?_)
  rotate_left
  · exfalso; exact h17 (bI_f (by decide))
  refine go_iconst (at_of tX10_result 1 1 rfl) (by unfold in32; omega) ?_
  first | exact go_reti (at_of tX10_result 1 2 rfl) rfl | exact go_reti (at_of tX10_result 1 2 rfl) (le_i (by omega)) | exact go_reti (at_of tX10_result 1 2 rfl) (le_i (by first | exact bI_t (by omega) | exact bI_f (by omega)))
theorem m_result (hS : Str σ.2.1) (h20 : 0 ≤ σ.1 109 13 ∧ σ.1 109 13 ≤ 20) {f : Int} (h : 0 ≤ f ∧ f < σ.1 109 13) : Con 2 mX10_result 0 0 [vA 109, vI f] σ (vI (σ.1 110 (3205 + f).toNat), (P1 σ 109 0 0)) := by
  refine con_of_go mfX10_result.1 trivial (Nat.le_of_ble_eq_true rfl) rfl (by decide) ?_
  show Go _ _ _ _ 0 [vA _, vI _] [] _ _
  refine go_aload_n (at_of tX10_result 0 0 rfl) rfl ?_
  refine go_aload_n (at_of tX10_result 0 1 rfl) rfl ?_
  refine go_iload_n (at_of tX10_result 0 2 rfl) rfl ?_
  refine go_cV (m_isField hS h20) lk_X10_266 rfl G_109 (at_of tX10_result 0 3 rfl) rfl (by decide) rfl (Nat.le_of_ble_eq_true rfl) rfl (by first | decide | exact ⟨Nat.zero_le _, Nat.zero_le _⟩) ?_
  refine go_if_eq (tgt := 13) (at_of tX10_result 0 4 rfl) (by decide) (fun h6 => ?_) (fun h6 => ?_)
  · exfalso; exact bI_0.mp h6 (h)
  refine go_iconst (at_of tX10_result 0 5 rfl) (by unfold in32; omega) ?_
  refine go_goto (tgt := 14) (at_of tX10_result 0 6 rfl) (by decide) ?_
  refine go_cV (m_goesOn) lk_X10_141 rfl G_109 (at_of tX10_result 0 8 rfl) rfl (by decide) rfl (Nat.le_of_ble_eq_true rfl) rfl (by first | decide | exact ⟨Nat.zero_le _, Nat.zero_le _⟩) ?_
  refine go_if_eq (tgt := 33) (at_of tX10_result 0 9 rfl) (by decide) (fun h17 => ?_) (fun h17 => ?_)
  · exfalso; exact absurd h17 (by rw [bI_t rfl]; decide)
  refine go_aload_n (at_of tX10_result 0 10 rfl) rfl ?_
  refine go_getr (q := 110) fl_X10_7 rfl G_109 (by first | exact (hS _ _ rfl).trans rfl | exact (hS1 _ _ rfl).trans rfl | exact (hS2 _ _ rfl).trans rfl | exact (hS3 _ _ rfl).trans rfl | exact (hS4 _ _ rfl).trans rfl) (at_of tX10_result 0 11 rfl) ?_
  refine go_sipush (at_of tX10_result 0 12 rfl) (by decide) ?_
  refine go_iload_n (at_of tX10_result 0 13 rfl) rfl ?_
  refine go_iadd (at_of tX10_result 0 14 rfl) (by unfold in32; omega) ?_
  refine go_iald G_110 (by omega) (by omega) (at_of tX10_result 0 15 rfl) ?_
  refine go_goto (tgt := 34) (at_of tX10_result 1 0 rfl) (by decide) ?_
  exact go_reti (at_of tX10_result 1 2 rfl) (le_i (P1_ne (by omega)).symm)
theorem m_setRecord_no (hS : Str σ.2.1) {r c z : Int} (h : ¬ ((0 ≤ r ∧ r ≤ 4) ∧ (0 ≤ c ∧ c ≤ 2) ∧ 0 ≤ z ∧ z ≤ 9999)) : Con 2 mX10_setRecord 0 0 [vA 109, vI r, vI c, vI z] σ (vI 0, P1 σ 109 0 1) := by
  by_cases c0 : 0 ≤ r ∧ r ≤ 4
  rotate_left
  · skip
    refine con_of_go mfX10_setRecord.1 trivial (Nat.le_of_ble_eq_true rfl) rfl (by decide) ?_
    show Go _ _ _ _ 0 [vA _, vI _, vI _, vI _, vT 9 0] [] _ _
    refine go_aload_n (at_of tX10_setRecord 0 0 rfl) rfl ?_
    refine go_iload_n (at_of tX10_setRecord 0 1 rfl) rfl ?_
    refine go_cS (m_isRecord) lk_X10_291 rfl (at_of tX10_setRecord 0 2 rfl) rfl (by decide) rfl (Nat.le_of_ble_eq_true rfl) rfl (by first | decide | exact ⟨Nat.zero_le _, Nat.zero_le _⟩) ?_
    refine go_if_eq (tgt := 32) (at_of tX10_setRecord 0 3 rfl) (by decide) (fun h5 => ?_) (fun h5 => ?_)
    rotate_left
    · exfalso; exact c0 (bI_1.mp h5)
    refine go_iconst (at_of tX10_setRecord 1 0 rfl) (by unfold in32; omega) ?_
    refine go_cV (m_goesOn) lk_X10_141 rfl G_109 (at_of tX10_setRecord 1 1 rfl) rfl (by decide) rfl (Nat.le_of_ble_eq_true rfl) rfl (by first | decide | exact ⟨Nat.zero_le _, Nat.zero_le _⟩) ?_
    refine go_if_ne (tgt := 41) (at_of tX10_setRecord 1 2 rfl) (by decide) (fun h36 => ?_) (fun h36 => ?_)
    · exfalso; exact h36 (bI_f (by decide))
    refine go_iconst (at_of tX10_setRecord 1 3 rfl) (by unfold in32; omega) ?_
    first | exact go_reti (at_of tX10_setRecord 1 4 rfl) rfl | exact go_reti (at_of tX10_setRecord 1 4 rfl) (le_i (by omega)) | exact go_reti (at_of tX10_setRecord 1 4 rfl) (le_i (by first | exact bI_t (by omega) | exact bI_f (by omega)))
  by_cases c1 : 0 ≤ c ∧ c ≤ 2
  rotate_left
  · skip
    refine con_of_go mfX10_setRecord.1 trivial (Nat.le_of_ble_eq_true rfl) rfl (by decide) ?_
    show Go _ _ _ _ 0 [vA _, vI _, vI _, vI _, vT 9 0] [] _ _
    refine go_aload_n (at_of tX10_setRecord 0 0 rfl) rfl ?_
    refine go_iload_n (at_of tX10_setRecord 0 1 rfl) rfl ?_
    refine go_cS (m_isRecord) lk_X10_291 rfl (at_of tX10_setRecord 0 2 rfl) rfl (by decide) rfl (Nat.le_of_ble_eq_true rfl) rfl (by first | decide | exact ⟨Nat.zero_le _, Nat.zero_le _⟩) ?_
    refine go_if_eq (tgt := 32) (at_of tX10_setRecord 0 3 rfl) (by decide) (fun h5 => ?_) (fun h5 => ?_)
    · exfalso; exact bI_0.mp h5 c0
    refine go_iload_n (at_of tX10_setRecord 0 4 rfl) rfl ?_
    refine go_iconst (at_of tX10_setRecord 0 5 rfl) (by unfold in32; omega) ?_
    refine go_iconst (at_of tX10_setRecord 0 6 rfl) (by unfold in32; omega) ?_
    refine go_cS (m_in) lk_X10_124 rfl (at_of tX10_setRecord 0 7 rfl) rfl (by decide) rfl (Nat.le_of_ble_eq_true rfl) rfl (by first | decide | exact ⟨Nat.zero_le _, Nat.zero_le _⟩) ?_
    refine go_if_eq (tgt := 32) (at_of tX10_setRecord 0 8 rfl) (by decide) (fun h14 => ?_) (fun h14 => ?_)
    rotate_left
    · exfalso; exact c1 (bI_1.mp h14)
    refine go_iconst (at_of tX10_setRecord 1 0 rfl) (by unfold in32; omega) ?_
    refine go_cV (m_goesOn) lk_X10_141 rfl G_109 (at_of tX10_setRecord 1 1 rfl) rfl (by decide) rfl (Nat.le_of_ble_eq_true rfl) rfl (by first | decide | exact ⟨Nat.zero_le _, Nat.zero_le _⟩) ?_
    refine go_if_ne (tgt := 41) (at_of tX10_setRecord 1 2 rfl) (by decide) (fun h36 => ?_) (fun h36 => ?_)
    · exfalso; exact h36 (bI_f (by decide))
    refine go_iconst (at_of tX10_setRecord 1 3 rfl) (by unfold in32; omega) ?_
    first | exact go_reti (at_of tX10_setRecord 1 4 rfl) rfl | exact go_reti (at_of tX10_setRecord 1 4 rfl) (le_i (by omega)) | exact go_reti (at_of tX10_setRecord 1 4 rfl) (le_i (by first | exact bI_t (by omega) | exact bI_f (by omega)))
  have c2 : ¬ (0 ≤ z ∧ z ≤ 9999) := fun c2 => h ⟨c0, c1, c2⟩
  refine con_of_go mfX10_setRecord.1 trivial (Nat.le_of_ble_eq_true rfl) rfl (by decide) ?_
  show Go _ _ _ _ 0 [vA _, vI _, vI _, vI _, vT 9 0] [] _ _
  refine go_aload_n (at_of tX10_setRecord 0 0 rfl) rfl ?_
  refine go_iload_n (at_of tX10_setRecord 0 1 rfl) rfl ?_
  refine go_cS (m_isRecord) lk_X10_291 rfl (at_of tX10_setRecord 0 2 rfl) rfl (by decide) rfl (Nat.le_of_ble_eq_true rfl) rfl (by first | decide | exact ⟨Nat.zero_le _, Nat.zero_le _⟩) ?_
  refine go_if_eq (tgt := 32) (at_of tX10_setRecord 0 3 rfl) (by decide) (fun h5 => ?_) (fun h5 => ?_)
  · exfalso; exact bI_0.mp h5 c0
  refine go_iload_n (at_of tX10_setRecord 0 4 rfl) rfl ?_
  refine go_iconst (at_of tX10_setRecord 0 5 rfl) (by unfold in32; omega) ?_
  refine go_iconst (at_of tX10_setRecord 0 6 rfl) (by unfold in32; omega) ?_
  refine go_cS (m_in) lk_X10_124 rfl (at_of tX10_setRecord 0 7 rfl) rfl (by decide) rfl (Nat.le_of_ble_eq_true rfl) rfl (by first | decide | exact ⟨Nat.zero_le _, Nat.zero_le _⟩) ?_
  refine go_if_eq (tgt := 32) (at_of tX10_setRecord 0 8 rfl) (by decide) (fun h14 => ?_) (fun h14 => ?_)
  · exfalso; exact bI_0.mp h14 c1
  refine go_iload_n (at_of tX10_setRecord 0 9 rfl) rfl ?_
  refine go_iconst (at_of tX10_setRecord 0 10 rfl) (by unfold in32; omega) ?_
  refine go_sipush (at_of tX10_setRecord 0 11 rfl) (by decide) ?_
  refine go_cS (m_in) lk_X10_124 rfl (at_of tX10_setRecord 0 12 rfl) rfl (by decide) rfl (Nat.le_of_ble_eq_true rfl) rfl (by first | decide | exact ⟨Nat.zero_le _, Nat.zero_le _⟩) ?_
  refine go_if_eq (tgt := 32) (at_of tX10_setRecord 0 13 rfl) (by decide) (fun h25 => ?_) (fun h25 => ?_)
  rotate_left
  · exfalso; exact c2 (bI_1.mp h25)
  refine go_iconst (at_of tX10_setRecord 1 0 rfl) (by unfold in32; omega) ?_
  refine go_cV (m_goesOn) lk_X10_141 rfl G_109 (at_of tX10_setRecord 1 1 rfl) rfl (by decide) rfl (Nat.le_of_ble_eq_true rfl) rfl (by first | decide | exact ⟨Nat.zero_le _, Nat.zero_le _⟩) ?_
  refine go_if_ne (tgt := 41) (at_of tX10_setRecord 1 2 rfl) (by decide) (fun h36 => ?_) (fun h36 => ?_)
  · exfalso; exact h36 (bI_f (by decide))
  refine go_iconst (at_of tX10_setRecord 1 3 rfl) (by unfold in32; omega) ?_
  first | exact go_reti (at_of tX10_setRecord 1 4 rfl) rfl | exact go_reti (at_of tX10_setRecord 1 4 rfl) (le_i (by omega)) | exact go_reti (at_of tX10_setRecord 1 4 rfl) (le_i (by first | exact bI_t (by omega) | exact bI_f (by omega)))
theorem m_setRecord (hS : Str σ.2.1) {r c z : Int} (h : (0 ≤ r ∧ r ≤ 4) ∧ (0 ≤ c ∧ c ≤ 2) ∧ 0 ≤ z ∧ z ≤ 9999) : Con 2 mX10_setRecord 0 0 [vA 109, vI r, vI c, vI z] σ (vI (σ.1 121 (3 * r + c).toNat), M1 (P1 σ 109 0 0) 121 (3 * r + c) z) := by
  refine con_of_go mfX10_setRecord.1 trivial (Nat.le_of_ble_eq_true rfl) rfl (by decide) ?_
  show Go _ _ _ _ 0 [vA _, vI _, vI _, vI _, vT 9 0] [] _ _
  refine go_aload_n (at_of tX10_setRecord 0 0 rfl) rfl ?_
  refine go_iload_n (at_of tX10_setRecord 0 1 rfl) rfl ?_
  refine go_cS (m_isRecord) lk_X10_291 rfl (at_of tX10_setRecord 0 2 rfl) rfl (by decide) rfl (Nat.le_of_ble_eq_true rfl) rfl (by first | decide | exact ⟨Nat.zero_le _, Nat.zero_le _⟩) ?_
  refine go_if_eq (tgt := 32) (at_of tX10_setRecord 0 3 rfl) (by decide) (fun h5 => ?_) (fun h5 => ?_)
  · exfalso; exact bI_0.mp h5 (h.1)
  refine go_iload_n (at_of tX10_setRecord 0 4 rfl) rfl ?_
  refine go_iconst (at_of tX10_setRecord 0 5 rfl) (by unfold in32; omega) ?_
  refine go_iconst (at_of tX10_setRecord 0 6 rfl) (by unfold in32; omega) ?_
  refine go_cS (m_in) lk_X10_124 rfl (at_of tX10_setRecord 0 7 rfl) rfl (by decide) rfl (Nat.le_of_ble_eq_true rfl) rfl (by first | decide | exact ⟨Nat.zero_le _, Nat.zero_le _⟩) ?_
  refine go_if_eq (tgt := 32) (at_of tX10_setRecord 0 8 rfl) (by decide) (fun h14 => ?_) (fun h14 => ?_)
  · exfalso; exact bI_0.mp h14 (h.2.1)
  refine go_iload_n (at_of tX10_setRecord 0 9 rfl) rfl ?_
  refine go_iconst (at_of tX10_setRecord 0 10 rfl) (by unfold in32; omega) ?_
  refine go_sipush (at_of tX10_setRecord 0 11 rfl) (by decide) ?_
  refine go_cS (m_in) lk_X10_124 rfl (at_of tX10_setRecord 0 12 rfl) rfl (by decide) rfl (Nat.le_of_ble_eq_true rfl) rfl (by first | decide | exact ⟨Nat.zero_le _, Nat.zero_le _⟩) ?_
  refine go_if_eq (tgt := 32) (at_of tX10_setRecord 0 13 rfl) (by decide) (fun h25 => ?_) (fun h25 => ?_)
  · exfalso; exact bI_0.mp h25 (h.2.2)
  refine go_iconst (at_of tX10_setRecord 0 14 rfl) (by unfold in32; omega) ?_
  refine go_goto (tgt := 33) (at_of tX10_setRecord 0 15 rfl) (by decide) ?_
  refine go_cV (m_goesOn) lk_X10_141 rfl G_109 (at_of tX10_setRecord 1 1 rfl) rfl (by decide) rfl (Nat.le_of_ble_eq_true rfl) rfl (by first | decide | exact ⟨Nat.zero_le _, Nat.zero_le _⟩) ?_
  refine go_if_ne (tgt := 41) (at_of tX10_setRecord 1 2 rfl) (by decide) (fun h36 => ?_) (fun h36 => ?_)
  rotate_left
  · exfalso; exact absurd h36 (by rw [bI_t rfl]; decide)
  refine go_aload_n (at_of tX10_setRecord 1 5 rfl) rfl ?_
  refine go_getr (q := 121) fl_X10_53 rfl G_109 (by first | exact (hS _ _ rfl).trans rfl | exact (hS1 _ _ rfl).trans rfl | exact (hS2 _ _ rfl).trans rfl | exact (hS3 _ _ rfl).trans rfl | exact (hS4 _ _ rfl).trans rfl) (at_of tX10_setRecord 1 6 rfl) ?_
  refine go_iconst (at_of tX10_setRecord 1 7 rfl) (by unfold in32; omega) ?_
  refine go_iload_n (at_of tX10_setRecord 1 8 rfl) rfl ?_
  refine go_imul (at_of tX10_setRecord 1 9 rfl) (by unfold in32; omega) ?_
  refine go_iload_n (at_of tX10_setRecord 1 10 rfl) rfl ?_
  refine go_iadd (at_of tX10_setRecord 1 11 rfl) (by unfold in32; omega) ?_
  refine go_iald G_121 (by omega) (by omega) (at_of tX10_setRecord 1 12 rfl) ?_
  refine go_istore (at_of tX10_setRecord 1 13 rfl) rfl rfl ?_
  refine go_aload_n (at_of tX10_setRecord 1 14 rfl) rfl ?_
  refine go_getr (q := 121) fl_X10_53 rfl G_109 (by first | exact (hS _ _ rfl).trans rfl | exact (hS1 _ _ rfl).trans rfl | exact (hS2 _ _ rfl).trans rfl | exact (hS3 _ _ rfl).trans rfl | exact (hS4 _ _ rfl).trans rfl) (at_of tX10_setRecord 1 15 rfl) ?_
  refine go_iconst (at_of tX10_setRecord 2 0 rfl) (by unfold in32; omega) ?_
  refine go_iload_n (at_of tX10_setRecord 2 1 rfl) rfl ?_
  refine go_imul (at_of tX10_setRecord 2 2 rfl) (by unfold in32; omega) ?_
  refine go_iload_n (at_of tX10_setRecord 2 3 rfl) rfl ?_
  refine go_iadd (at_of tX10_setRecord 2 4 rfl) (by unfold in32; omega) ?_
  refine go_iload_n (at_of tX10_setRecord 2 5 rfl) rfl ?_
  refine go_iast1 G_121 (by omega) (by omega) (at_of tX10_setRecord 2 6 rfl) ?_
  refine go_iload (at_of tX10_setRecord 2 7 rfl) rfl rfl ?_
  exact go_reti (at_of tX10_setRecord 2 8 rfl) (le_i (P1_ne (by omega)).symm)
theorem m_choose_no (hS : Str σ.2.1) {r : Int} (h : ¬ (0 ≤ r ∧ r ≤ 4)) : Con 2 mX10_choose 0 0 [vA 109, vI r] σ (vI 0, P1 σ 109 0 1) := by
  have c0 : ¬ (0 ≤ r ∧ r ≤ 4) := fun c0 => h c0
  refine con_of_go mfX10_choose.1 trivial (Nat.le_of_ble_eq_true rfl) rfl (by decide) ?_
  show Go _ _ _ _ 0 [vA _, vI _, vT 9 0] [] _ _
  refine go_aload_n (at_of tX10_choose 0 0 rfl) rfl ?_
  refine go_iload_n (at_of tX10_choose 0 1 rfl) rfl ?_
  refine go_cS (m_isRecord) lk_X10_291 rfl (at_of tX10_choose 0 2 rfl) rfl (by decide) rfl (Nat.le_of_ble_eq_true rfl) rfl (by first | decide | exact ⟨Nat.zero_le _, Nat.zero_le _⟩) ?_
  refine go_if_eq (tgt := 12) (at_of tX10_choose 0 3 rfl) (by decide) (fun h5 => ?_) (fun h5 => ?_)
  rotate_left
  · exfalso; exact c0 (bI_1.mp h5)
  refine go_iconst (at_of tX10_choose 0 6 rfl) (by unfold in32; omega) ?_
  refine go_cV (m_goesOn) lk_X10_141 rfl G_109 (at_of tX10_choose 0 7 rfl) rfl (by decide) rfl (Nat.le_of_ble_eq_true rfl) rfl (by first | decide | exact ⟨Nat.zero_le _, Nat.zero_le _⟩) ?_
  refine go_if_ne (tgt := 21) (at_of tX10_choose 0 8 rfl) (by decide) (fun h16 => ?_) (fun h16 => ?_)
  · exfalso; exact h16 (bI_f (by decide))
  refine go_iconst (at_of tX10_choose 0 9 rfl) (by unfold in32; omega) ?_
  first | exact go_reti (at_of tX10_choose 0 10 rfl) rfl | exact go_reti (at_of tX10_choose 0 10 rfl) (le_i (by omega)) | exact go_reti (at_of tX10_choose 0 10 rfl) (le_i (by first | exact bI_t (by omega) | exact bI_f (by omega)))
theorem m_choose (hS : Str σ.2.1) {r : Int} (h : 0 ≤ r ∧ r ≤ 4) : Con 2 mX10_choose 0 0 [vA 109, vI r] σ (vI (σ.1 109 18), P1 (P1 σ 109 0 0) 109 18 r) := by
  refine con_of_go mfX10_choose.1 trivial (Nat.le_of_ble_eq_true rfl) rfl (by decide) ?_
  show Go _ _ _ _ 0 [vA _, vI _, vT 9 0] [] _ _
  refine go_aload_n (at_of tX10_choose 0 0 rfl) rfl ?_
  refine go_iload_n (at_of tX10_choose 0 1 rfl) rfl ?_
  refine go_cS (m_isRecord) lk_X10_291 rfl (at_of tX10_choose 0 2 rfl) rfl (by decide) rfl (Nat.le_of_ble_eq_true rfl) rfl (by first | decide | exact ⟨Nat.zero_le _, Nat.zero_le _⟩) ?_
  refine go_if_eq (tgt := 12) (at_of tX10_choose 0 3 rfl) (by decide) (fun h5 => ?_) (fun h5 => ?_)
  · exfalso; exact bI_0.mp h5 (h)
  refine go_iconst (at_of tX10_choose 0 4 rfl) (by unfold in32; omega) ?_
  refine go_goto (tgt := 13) (at_of tX10_choose 0 5 rfl) (by decide) ?_
  refine go_cV (m_goesOn) lk_X10_141 rfl G_109 (at_of tX10_choose 0 7 rfl) rfl (by decide) rfl (Nat.le_of_ble_eq_true rfl) rfl (by first | decide | exact ⟨Nat.zero_le _, Nat.zero_le _⟩) ?_
  refine go_if_ne (tgt := 21) (at_of tX10_choose 0 8 rfl) (by decide) (fun h16 => ?_) (fun h16 => ?_)
  rotate_left
  · exfalso; exact absurd h16 (by rw [bI_t rfl]; decide)
  refine go_aload_n (at_of tX10_choose 0 11 rfl) rfl ?_
  refine go_getf fl_X10_269 rfl G_109 (at_of tX10_choose 0 12 rfl) ?_
  refine go_istore_n (at_of tX10_choose 0 13 rfl) rfl rfl ?_
  refine go_aload_n (at_of tX10_choose 0 14 rfl) rfl ?_
  refine go_iload_n (at_of tX10_choose 0 15 rfl) rfl ?_
  refine go_put1 fp_X10_269 rfl (Or.inl rfl) G_109 (Or.inl rfl) (at_of tX10_choose 1 0 rfl) ?_
  refine go_iload_n (at_of tX10_choose 1 1 rfl) rfl ?_
  exact go_reti (at_of tX10_choose 1 2 rfl) (le_i (P1_nj (by omega)).symm)
theorem m_setPage_no (hS : Str σ.2.1) {w z : Int} (hw : 0 ≤ σ.1 109 19 ∧ σ.1 109 19 ≤ 60) (hh : 0 ≤ σ.1 109 20 ∧ σ.1 109 20 ≤ 40) (h : ¬ ((5 ≤ w ∧ w ≤ 60) ∧ 2 ≤ z ∧ z ≤ 40)) : Con 1 mX10_setPage 0 0 [vA 109, vI w, vI z] σ (vI 0, P1 σ 109 0 1) := by
  by_cases c0 : 5 ≤ w ∧ w ≤ 60
  rotate_left
  · skip
    refine con_of_go mfX10_setPage.1 trivial (Nat.le_of_ble_eq_true rfl) rfl (by decide) ?_
    show Go _ _ _ _ 0 [vA _, vI _, vI _, vT 9 0] [] _ _
    refine go_aload_n (at_of tX10_setPage 0 0 rfl) rfl ?_
    refine go_iload_n (at_of tX10_setPage 0 1 rfl) rfl ?_
    refine go_iconst (at_of tX10_setPage 0 2 rfl) (by unfold in32; omega) ?_
    refine go_bipush (at_of tX10_setPage 0 3 rfl) (by decide) ?_
    refine go_cS (m_in) lk_X10_124 rfl (at_of tX10_setPage 0 4 rfl) rfl (by decide) rfl (Nat.le_of_ble_eq_true rfl) rfl (by first | decide | exact ⟨Nat.zero_le _, Nat.zero_le _⟩) ?_
    refine go_if_eq (tgt := 25) (at_of tX10_setPage 0 5 rfl) (by decide) (fun h8 => ?_) (fun h8 => ?_)
    rotate_left
    · exfalso; exact c0 (bI_1.mp h8)
    refine go_iconst (at_of tX10_setPage 0 13 rfl) (by unfold in32; omega) ?_
    refine go_cV (m_goesOn) lk_X10_141 rfl G_109 (at_of tX10_setPage 0 14 rfl) rfl (by decide) rfl (Nat.le_of_ble_eq_true rfl) rfl (by first | decide | exact ⟨Nat.zero_le _, Nat.zero_le _⟩) ?_
    refine go_if_ne (tgt := 34) (at_of tX10_setPage 0 15 rfl) (by decide) (fun h29 => ?_) (fun h29 => ?_)
    · exfalso; exact h29 (bI_f (by decide))
    refine go_iconst (at_of tX10_setPage 1 0 rfl) (by unfold in32; omega) ?_
    first | exact go_reti (at_of tX10_setPage 1 1 rfl) rfl | exact go_reti (at_of tX10_setPage 1 1 rfl) (le_i (by omega)) | exact go_reti (at_of tX10_setPage 1 1 rfl) (le_i (by first | exact bI_t (by omega) | exact bI_f (by omega)))
  have c1 : ¬ (2 ≤ z ∧ z ≤ 40) := fun c1 => h ⟨c0, c1⟩
  refine con_of_go mfX10_setPage.1 trivial (Nat.le_of_ble_eq_true rfl) rfl (by decide) ?_
  show Go _ _ _ _ 0 [vA _, vI _, vI _, vT 9 0] [] _ _
  refine go_aload_n (at_of tX10_setPage 0 0 rfl) rfl ?_
  refine go_iload_n (at_of tX10_setPage 0 1 rfl) rfl ?_
  refine go_iconst (at_of tX10_setPage 0 2 rfl) (by unfold in32; omega) ?_
  refine go_bipush (at_of tX10_setPage 0 3 rfl) (by decide) ?_
  refine go_cS (m_in) lk_X10_124 rfl (at_of tX10_setPage 0 4 rfl) rfl (by decide) rfl (Nat.le_of_ble_eq_true rfl) rfl (by first | decide | exact ⟨Nat.zero_le _, Nat.zero_le _⟩) ?_
  refine go_if_eq (tgt := 25) (at_of tX10_setPage 0 5 rfl) (by decide) (fun h8 => ?_) (fun h8 => ?_)
  · exfalso; exact bI_0.mp h8 c0
  refine go_iload_n (at_of tX10_setPage 0 6 rfl) rfl ?_
  refine go_iconst (at_of tX10_setPage 0 7 rfl) (by unfold in32; omega) ?_
  refine go_bipush (at_of tX10_setPage 0 8 rfl) (by decide) ?_
  refine go_cS (m_in) lk_X10_124 rfl (at_of tX10_setPage 0 9 rfl) rfl (by decide) rfl (Nat.le_of_ble_eq_true rfl) rfl (by first | decide | exact ⟨Nat.zero_le _, Nat.zero_le _⟩) ?_
  refine go_if_eq (tgt := 25) (at_of tX10_setPage 0 10 rfl) (by decide) (fun h18 => ?_) (fun h18 => ?_)
  rotate_left
  · exfalso; exact c1 (bI_1.mp h18)
  refine go_iconst (at_of tX10_setPage 0 13 rfl) (by unfold in32; omega) ?_
  refine go_cV (m_goesOn) lk_X10_141 rfl G_109 (at_of tX10_setPage 0 14 rfl) rfl (by decide) rfl (Nat.le_of_ble_eq_true rfl) rfl (by first | decide | exact ⟨Nat.zero_le _, Nat.zero_le _⟩) ?_
  refine go_if_ne (tgt := 34) (at_of tX10_setPage 0 15 rfl) (by decide) (fun h29 => ?_) (fun h29 => ?_)
  · exfalso; exact h29 (bI_f (by decide))
  refine go_iconst (at_of tX10_setPage 1 0 rfl) (by unfold in32; omega) ?_
  first | exact go_reti (at_of tX10_setPage 1 1 rfl) rfl | exact go_reti (at_of tX10_setPage 1 1 rfl) (le_i (by omega)) | exact go_reti (at_of tX10_setPage 1 1 rfl) (le_i (by first | exact bI_t (by omega) | exact bI_f (by omega)))
theorem m_setPage (hS : Str σ.2.1) {w z : Int} (hw : 0 ≤ σ.1 109 19 ∧ σ.1 109 19 ≤ 60) (hh : 0 ≤ σ.1 109 20 ∧ σ.1 109 20 ≤ 40) (h : (5 ≤ w ∧ w ≤ 60) ∧ 2 ≤ z ∧ z ≤ 40) : Con 1 mX10_setPage 0 0 [vA 109, vI w, vI z] σ (vI (100 * σ.1 109 19 + σ.1 109 20), P1 (P1 (P1 σ 109 0 0) 109 19 w) 109 20 z) := by
  refine con_of_go mfX10_setPage.1 trivial (Nat.le_of_ble_eq_true rfl) rfl (by decide) ?_
  show Go _ _ _ _ 0 [vA _, vI _, vI _, vT 9 0] [] _ _
  refine go_aload_n (at_of tX10_setPage 0 0 rfl) rfl ?_
  refine go_iload_n (at_of tX10_setPage 0 1 rfl) rfl ?_
  refine go_iconst (at_of tX10_setPage 0 2 rfl) (by unfold in32; omega) ?_
  refine go_bipush (at_of tX10_setPage 0 3 rfl) (by decide) ?_
  refine go_cS (m_in) lk_X10_124 rfl (at_of tX10_setPage 0 4 rfl) rfl (by decide) rfl (Nat.le_of_ble_eq_true rfl) rfl (by first | decide | exact ⟨Nat.zero_le _, Nat.zero_le _⟩) ?_
  refine go_if_eq (tgt := 25) (at_of tX10_setPage 0 5 rfl) (by decide) (fun h8 => ?_) (fun h8 => ?_)
  · exfalso; exact bI_0.mp h8 (h.1)
  refine go_iload_n (at_of tX10_setPage 0 6 rfl) rfl ?_
  refine go_iconst (at_of tX10_setPage 0 7 rfl) (by unfold in32; omega) ?_
  refine go_bipush (at_of tX10_setPage 0 8 rfl) (by decide) ?_
  refine go_cS (m_in) lk_X10_124 rfl (at_of tX10_setPage 0 9 rfl) rfl (by decide) rfl (Nat.le_of_ble_eq_true rfl) rfl (by first | decide | exact ⟨Nat.zero_le _, Nat.zero_le _⟩) ?_
  refine go_if_eq (tgt := 25) (at_of tX10_setPage 0 10 rfl) (by decide) (fun h18 => ?_) (fun h18 => ?_)
  · exfalso; exact bI_0.mp h18 (h.2)
  refine go_iconst (at_of tX10_setPage 0 11 rfl) (by unfold in32; omega) ?_
  refine go_goto (tgt := 26) (at_of tX10_setPage 0 12 rfl) (by decide) ?_
  refine go_cV (m_goesOn) lk_X10_141 rfl G_109 (at_of tX10_setPage 0 14 rfl) rfl (by decide) rfl (Nat.le_of_ble_eq_true rfl) rfl (by first | decide | exact ⟨Nat.zero_le _, Nat.zero_le _⟩) ?_
  refine go_if_ne (tgt := 34) (at_of tX10_setPage 0 15 rfl) (by decide) (fun h29 => ?_) (fun h29 => ?_)
  rotate_left
  · exfalso; exact absurd h29 (by rw [bI_t rfl]; decide)
  have a19 : (P1 σ 109 0 0).1 109 19 = σ.1 109 19 := P1_nj (by omega)
  have a20 : (P1 σ 109 0 0).1 109 20 = σ.1 109 20 := P1_nj (by omega)
  refine go_bipush (at_of tX10_setPage 1 2 rfl) (by decide) ?_
  refine go_aload_n (at_of tX10_setPage 1 3 rfl) rfl ?_
  refine go_getf fl_X10_56 rfl G_109 (at_of tX10_setPage 1 4 rfl) ?_
  refine go_imul (at_of tX10_setPage 1 5 rfl) (by unfold in32; omega) ?_
  refine go_aload_n (at_of tX10_setPage 1 6 rfl) rfl ?_
  refine go_getf fl_X10_59 rfl G_109 (at_of tX10_setPage 1 7 rfl) ?_
  refine go_iadd (at_of tX10_setPage 1 8 rfl) (by unfold in32; omega) ?_
  refine go_istore_n (at_of tX10_setPage 1 9 rfl) rfl rfl ?_
  refine go_aload_n (at_of tX10_setPage 1 10 rfl) rfl ?_
  refine go_iload_n (at_of tX10_setPage 1 11 rfl) rfl ?_
  refine go_put1 fp_X10_56 rfl (Or.inl rfl) G_109 (Or.inl rfl) (at_of tX10_setPage 1 12 rfl) ?_
  refine go_aload_n (at_of tX10_setPage 1 13 rfl) rfl ?_
  refine go_iload_n (at_of tX10_setPage 1 14 rfl) rfl ?_
  refine go_put1 fp_X10_59 rfl (Or.inl rfl) G_109 (Or.inl rfl) (at_of tX10_setPage 1 15 rfl) ?_
  refine go_iload_n (at_of tX10_setPage 2 0 rfl) rfl ?_
  first | exact go_reti (at_of tX10_setPage 2 1 rfl) rfl | exact go_reti (at_of tX10_setPage 2 1 rfl) (le_i (by omega)) | exact go_reti (at_of tX10_setPage 2 1 rfl) (le_i (by first | exact bI_t (by omega) | exact bI_f (by omega)))
theorem m_lineAt_no (hS : Str σ.2.1) {i : Int} (h128 : 0 ≤ σ.1 109 21 ∧ σ.1 109 21 ≤ 128) (hc : 0 ≤ σ.1 122 i.toNat ∧ σ.1 122 i.toNat < 65536) (h : ¬ (0 ≤ i ∧ i ≤ σ.1 109 21 - 1)) : Con 1 mX10_lineAt 0 0 [vA 109, vI i] σ (vI 0, P1 σ 109 0 1) := by
  have c0 : ¬ (0 ≤ i ∧ i ≤ σ.1 109 21 - 1) := fun c0 => h c0
  refine con_of_go mfX10_lineAt.1 ⟨by omega, by omega⟩ (Nat.le_of_ble_eq_true rfl) rfl (by decide) ?_
  show Go _ _ _ _ 0 [vA _, vI _] [] _ _
  refine go_aload_n (at_of tX10_lineAt 0 0 rfl) rfl ?_
  refine go_iload_n (at_of tX10_lineAt 0 1 rfl) rfl ?_
  refine go_iconst (at_of tX10_lineAt 0 2 rfl) (by unfold in32; omega) ?_
  refine go_aload_n (at_of tX10_lineAt 0 3 rfl) rfl ?_
  refine go_getf fl_X10_241 rfl G_109 (at_of tX10_lineAt 0 4 rfl) ?_
  refine go_iconst (at_of tX10_lineAt 0 5 rfl) (by unfold in32; omega) ?_
  refine go_isub (at_of tX10_lineAt 0 6 rfl) (by unfold in32; omega) ?_
  refine go_cS (m_in) lk_X10_124 rfl (at_of tX10_lineAt 0 7 rfl) rfl (by decide) rfl (Nat.le_of_ble_eq_true rfl) rfl (by first | decide | exact ⟨Nat.zero_le _, Nat.zero_le _⟩) ?_
  refine go_if_eq (tgt := 19) (at_of tX10_lineAt 0 8 rfl) (by decide) (fun h12 => ?_) (fun h12 => ?_)
  rotate_left
  · exfalso; exact c0 (bI_1.mp h12)
  refine go_iconst (at_of tX10_lineAt 0 11 rfl) (by unfold in32; omega) ?_
  refine go_cV (m_goesOn) lk_X10_141 rfl G_109 (at_of tX10_lineAt 0 12 rfl) rfl (by decide) rfl (Nat.le_of_ble_eq_true rfl) rfl (by first | decide | exact ⟨Nat.zero_le _, Nat.zero_le _⟩) ?_
  refine go_if_eq (tgt := 35) (at_of tX10_lineAt 0 13 rfl) (by decide) (fun h23 => ?_) (fun h23 => ?_)
  rotate_left
  · exfalso; exact h23 (bI_f (by decide))
  refine go_iconst (at_of tX10_lineAt 1 3 rfl) (by unfold in32; omega) ?_
  first | exact go_reti (at_of tX10_lineAt 1 4 rfl) rfl | exact go_reti (at_of tX10_lineAt 1 4 rfl) (le_i (by omega)) | exact go_reti (at_of tX10_lineAt 1 4 rfl) (le_i (by first | exact bI_t (by omega) | exact bI_f (by omega)))
theorem m_lineAt (hS : Str σ.2.1) {i : Int} (h128 : 0 ≤ σ.1 109 21 ∧ σ.1 109 21 ≤ 128) (hc : 0 ≤ σ.1 122 i.toNat ∧ σ.1 122 i.toNat < 65536) (h : 0 ≤ i ∧ i ≤ σ.1 109 21 - 1) : Con 1 mX10_lineAt 0 0 [vA 109, vI i] σ (vI (σ.1 122 i.toNat), (P1 σ 109 0 0)) := by
  refine con_of_go mfX10_lineAt.1 hc (Nat.le_of_ble_eq_true rfl) rfl (by decide) ?_
  show Go _ _ _ _ 0 [vA _, vI _] [] _ _
  refine go_aload_n (at_of tX10_lineAt 0 0 rfl) rfl ?_
  refine go_iload_n (at_of tX10_lineAt 0 1 rfl) rfl ?_
  refine go_iconst (at_of tX10_lineAt 0 2 rfl) (by unfold in32; omega) ?_
  refine go_aload_n (at_of tX10_lineAt 0 3 rfl) rfl ?_
  refine go_getf fl_X10_241 rfl G_109 (at_of tX10_lineAt 0 4 rfl) ?_
  refine go_iconst (at_of tX10_lineAt 0 5 rfl) (by unfold in32; omega) ?_
  refine go_isub (at_of tX10_lineAt 0 6 rfl) (by unfold in32; omega) ?_
  refine go_cS (m_in) lk_X10_124 rfl (at_of tX10_lineAt 0 7 rfl) rfl (by decide) rfl (Nat.le_of_ble_eq_true rfl) rfl (by first | decide | exact ⟨Nat.zero_le _, Nat.zero_le _⟩) ?_
  refine go_if_eq (tgt := 19) (at_of tX10_lineAt 0 8 rfl) (by decide) (fun h12 => ?_) (fun h12 => ?_)
  · exfalso; exact bI_0.mp h12 (h)
  refine go_iconst (at_of tX10_lineAt 0 9 rfl) (by unfold in32; omega) ?_
  refine go_goto (tgt := 20) (at_of tX10_lineAt 0 10 rfl) (by decide) ?_
  refine go_cV (m_goesOn) lk_X10_141 rfl G_109 (at_of tX10_lineAt 0 12 rfl) rfl (by decide) rfl (Nat.le_of_ble_eq_true rfl) rfl (by first | decide | exact ⟨Nat.zero_le _, Nat.zero_le _⟩) ?_
  refine go_if_eq (tgt := 35) (at_of tX10_lineAt 0 13 rfl) (by decide) (fun h23 => ?_) (fun h23 => ?_)
  · exfalso; exact absurd h23 (by rw [bI_t rfl]; decide)
  refine go_aload_n (at_of tX10_lineAt 0 14 rfl) rfl ?_
  refine go_getr (q := 122) fl_X10_62 rfl G_109 (by first | exact (hS _ _ rfl).trans rfl | exact (hS1 _ _ rfl).trans rfl | exact (hS2 _ _ rfl).trans rfl | exact (hS3 _ _ rfl).trans rfl | exact (hS4 _ _ rfl).trans rfl) (at_of tX10_lineAt 0 15 rfl) ?_
  refine go_iload_n (at_of tX10_lineAt 1 0 rfl) rfl ?_
  refine go_cald G_122 (by omega) (by omega) (at_of tX10_lineAt 1 1 rfl) ?_
  refine go_goto (tgt := 36) (at_of tX10_lineAt 1 2 rfl) (by decide) ?_
  exact go_reti (at_of tX10_lineAt 1 4 rfl) (le_i (P1_ne (by omega)).symm)
theorem m_setKind_no (hS : Str σ.2.1) {l v z : Int} (h : ¬ (((0 ≤ l ∧ l ≤ 2) ∧ 0 ≤ v ∧ v ≤ 2) ∧ (z = 100 ∨ z = 97 ∨ z = 114))) : Con 2 mX10_setKind 0 0 [vA 109, vI l, vI v, vI z] σ (vI 0, P1 σ 109 0 1) := by
  by_cases c0 : 0 ≤ l ∧ l ≤ 2
  · by_cases c1 : 0 ≤ v ∧ v ≤ 2
    · have c2 : ¬ (z = 100 ∨ z = 97 ∨ z = 114) := fun q => h ⟨⟨c0, c1⟩, q⟩
      refine con_of_go mfX10_setKind.1 ⟨by omega, by omega⟩ (Nat.le_of_ble_eq_true rfl) rfl (by decide) ?_
      show Go _ _ _ _ 0 [vA _, vI _, vI _, vI _, vT 9 0, vT 9 0] [] _ _
      refine go_iload_n (at_of tX10_setKind 0 0 rfl) rfl ?_
      refine go_cS (m_isList) lk_X10_235 rfl (at_of tX10_setKind 0 1 rfl) rfl (by decide) rfl (Nat.le_of_ble_eq_true rfl) rfl (by first | decide | exact ⟨Nat.zero_le _, Nat.zero_le _⟩) ?_
      refine go_if_eq (tgt := 38) (at_of tX10_setKind 0 2 rfl) (by decide) (fun h4 => ?_) (fun h4 => ?_)
      · exfalso; exact bI_0.mp h4 c0
      refine go_iload_n (at_of tX10_setKind 0 3 rfl) rfl ?_
      refine go_iconst (at_of tX10_setKind 0 4 rfl) (by unfold in32; omega) ?_
      refine go_iconst (at_of tX10_setKind 0 5 rfl) (by unfold in32; omega) ?_
      refine go_cS (m_in) lk_X10_124 rfl (at_of tX10_setKind 0 6 rfl) rfl (by decide) rfl (Nat.le_of_ble_eq_true rfl) rfl (by first | decide | exact ⟨Nat.zero_le _, Nat.zero_le _⟩) ?_
      refine go_if_eq (tgt := 38) (at_of tX10_setKind 0 7 rfl) (by decide) (fun h13 => ?_) (fun h13 => ?_)
      · exfalso; exact bI_0.mp h13 c1
      refine go_iload_n (at_of tX10_setKind 0 8 rfl) rfl ?_
      refine go_bipush (at_of tX10_setKind 0 9 rfl) (by decide) ?_
      refine go_icmp_eq (tgt := 34) (at_of tX10_setKind 0 10 rfl) (by decide) (fun h19 => ?_) (fun h19 => ?_)
      · exfalso; exact c2 (Or.inl h19)
      refine go_iload_n (at_of tX10_setKind 0 11 rfl) rfl ?_
      refine go_bipush (at_of tX10_setKind 0 12 rfl) (by decide) ?_
      refine go_icmp_eq (tgt := 34) (at_of tX10_setKind 0 13 rfl) (by decide) (fun h25 => ?_) (fun h25 => ?_)
      · exfalso; exact c2 (Or.inr (Or.inl h25))
      refine go_iload_n (at_of tX10_setKind 0 14 rfl) rfl ?_
      refine go_bipush (at_of tX10_setKind 0 15 rfl) (by decide) ?_
      refine go_icmp_ne (tgt := 38) (at_of tX10_setKind 1 0 rfl) (by decide) (fun h31 => ?_) (fun h31 => ?_)
      rotate_left
      · exfalso; exact c2 (Or.inr (Or.inr h31))
      refine go_iconst (at_of tX10_setKind 1 3 rfl) (by unfold in32; omega) ?_
      refine go_istore (at_of tX10_setKind 1 4 rfl) rfl rfl ?_
      refine go_aload_n (at_of tX10_setKind 1 5 rfl) rfl ?_
      refine go_iload (at_of tX10_setKind 1 6 rfl) rfl rfl ?_
      refine go_if_eq (tgt := 51) (at_of tX10_setKind 1 7 rfl) (by decide) (fun h44 => ?_) (fun h44 => ?_)
      rotate_left
      · exfalso; omega
      refine go_iconst (at_of tX10_setKind 1 10 rfl) (by unfold in32; omega) ?_
      refine go_cV (m_goesOn) lk_X10_141 rfl G_109 (at_of tX10_setKind 1 11 rfl) rfl (by decide) rfl (Nat.le_of_ble_eq_true rfl) rfl (by first | decide | exact ⟨Nat.zero_le _, Nat.zero_le _⟩) ?_
      refine go_if_ne (tgt := 60) (at_of tX10_setKind 1 12 rfl) (by decide) (fun h55 => ?_) (fun h55 => ?_)
      · exfalso; exact h55 (bI_f (by decide))
      refine go_iconst (at_of tX10_setKind 1 13 rfl) (by unfold in32; omega) ?_
      first | exact go_reti (at_of tX10_setKind 1 14 rfl) rfl | exact go_reti (at_of tX10_setKind 1 14 rfl) (le_i (by omega)) | exact go_reti (at_of tX10_setKind 1 14 rfl) (le_i (by first | exact bI_t (by omega) | exact bI_f (by omega)))
    · skip
      refine con_of_go mfX10_setKind.1 ⟨by omega, by omega⟩ (Nat.le_of_ble_eq_true rfl) rfl (by decide) ?_
      show Go _ _ _ _ 0 [vA _, vI _, vI _, vI _, vT 9 0, vT 9 0] [] _ _
      refine go_iload_n (at_of tX10_setKind 0 0 rfl) rfl ?_
      refine go_cS (m_isList) lk_X10_235 rfl (at_of tX10_setKind 0 1 rfl) rfl (by decide) rfl (Nat.le_of_ble_eq_true rfl) rfl (by first | decide | exact ⟨Nat.zero_le _, Nat.zero_le _⟩) ?_
      refine go_if_eq (tgt := 38) (at_of tX10_setKind 0 2 rfl) (by decide) (fun h4 => ?_) (fun h4 => ?_)
      · exfalso; exact bI_0.mp h4 c0
      refine go_iload_n (at_of tX10_setKind 0 3 rfl) rfl ?_
      refine go_iconst (at_of tX10_setKind 0 4 rfl) (by unfold in32; omega) ?_
      refine go_iconst (at_of tX10_setKind 0 5 rfl) (by unfold in32; omega) ?_
      refine go_cS (m_in) lk_X10_124 rfl (at_of tX10_setKind 0 6 rfl) rfl (by decide) rfl (Nat.le_of_ble_eq_true rfl) rfl (by first | decide | exact ⟨Nat.zero_le _, Nat.zero_le _⟩) ?_
      refine go_if_eq (tgt := 38) (at_of tX10_setKind 0 7 rfl) (by decide) (fun h13 => ?_) (fun h13 => ?_)
      rotate_left
      · exfalso; exact c1 (bI_1.mp h13)
      refine go_iconst (at_of tX10_setKind 1 3 rfl) (by unfold in32; omega) ?_
      refine go_istore (at_of tX10_setKind 1 4 rfl) rfl rfl ?_
      refine go_aload_n (at_of tX10_setKind 1 5 rfl) rfl ?_
      refine go_iload (at_of tX10_setKind 1 6 rfl) rfl rfl ?_
      refine go_if_eq (tgt := 51) (at_of tX10_setKind 1 7 rfl) (by decide) (fun h44 => ?_) (fun h44 => ?_)
      rotate_left
      · exfalso; omega
      refine go_iconst (at_of tX10_setKind 1 10 rfl) (by unfold in32; omega) ?_
      refine go_cV (m_goesOn) lk_X10_141 rfl G_109 (at_of tX10_setKind 1 11 rfl) rfl (by decide) rfl (Nat.le_of_ble_eq_true rfl) rfl (by first | decide | exact ⟨Nat.zero_le _, Nat.zero_le _⟩) ?_
      refine go_if_ne (tgt := 60) (at_of tX10_setKind 1 12 rfl) (by decide) (fun h55 => ?_) (fun h55 => ?_)
      · exfalso; exact h55 (bI_f (by decide))
      refine go_iconst (at_of tX10_setKind 1 13 rfl) (by unfold in32; omega) ?_
      first | exact go_reti (at_of tX10_setKind 1 14 rfl) rfl | exact go_reti (at_of tX10_setKind 1 14 rfl) (le_i (by omega)) | exact go_reti (at_of tX10_setKind 1 14 rfl) (le_i (by first | exact bI_t (by omega) | exact bI_f (by omega)))
  · skip
    refine con_of_go mfX10_setKind.1 ⟨by omega, by omega⟩ (Nat.le_of_ble_eq_true rfl) rfl (by decide) ?_
    show Go _ _ _ _ 0 [vA _, vI _, vI _, vI _, vT 9 0, vT 9 0] [] _ _
    refine go_iload_n (at_of tX10_setKind 0 0 rfl) rfl ?_
    refine go_cS (m_isList) lk_X10_235 rfl (at_of tX10_setKind 0 1 rfl) rfl (by decide) rfl (Nat.le_of_ble_eq_true rfl) rfl (by first | decide | exact ⟨Nat.zero_le _, Nat.zero_le _⟩) ?_
    refine go_if_eq (tgt := 38) (at_of tX10_setKind 0 2 rfl) (by decide) (fun h4 => ?_) (fun h4 => ?_)
    rotate_left
    · exfalso; exact c0 (bI_1.mp h4)
    refine go_iconst (at_of tX10_setKind 1 3 rfl) (by unfold in32; omega) ?_
    refine go_istore (at_of tX10_setKind 1 4 rfl) rfl rfl ?_
    refine go_aload_n (at_of tX10_setKind 1 5 rfl) rfl ?_
    refine go_iload (at_of tX10_setKind 1 6 rfl) rfl rfl ?_
    refine go_if_eq (tgt := 51) (at_of tX10_setKind 1 7 rfl) (by decide) (fun h44 => ?_) (fun h44 => ?_)
    rotate_left
    · exfalso; omega
    refine go_iconst (at_of tX10_setKind 1 10 rfl) (by unfold in32; omega) ?_
    refine go_cV (m_goesOn) lk_X10_141 rfl G_109 (at_of tX10_setKind 1 11 rfl) rfl (by decide) rfl (Nat.le_of_ble_eq_true rfl) rfl (by first | decide | exact ⟨Nat.zero_le _, Nat.zero_le _⟩) ?_
    refine go_if_ne (tgt := 60) (at_of tX10_setKind 1 12 rfl) (by decide) (fun h55 => ?_) (fun h55 => ?_)
    · exfalso; exact h55 (bI_f (by decide))
    refine go_iconst (at_of tX10_setKind 1 13 rfl) (by unfold in32; omega) ?_
    first | exact go_reti (at_of tX10_setKind 1 14 rfl) rfl | exact go_reti (at_of tX10_setKind 1 14 rfl) (le_i (by omega)) | exact go_reti (at_of tX10_setKind 1 14 rfl) (le_i (by first | exact bI_t (by omega) | exact bI_f (by omega)))
theorem m_setKind (hS : Str σ.2.1) {l v z : Int} (hc : 0 ≤ σ.1 116 (3 * l + v).toNat ∧ σ.1 116 (3 * l + v).toNat < 65536) (h : (0 ≤ l ∧ l ≤ 2) ∧ 0 ≤ v ∧ v ≤ 2) (hz : (z = 100 ∨ z = 97 ∨ z = 114)) : Con 2 mX10_setKind 0 0 [vA 109, vI l, vI v, vI z] σ (vI (σ.1 116 (3 * l + v).toNat), M1 (P1 σ 109 0 0) 116 (3 * l + v) z) := by
  rcases hz with hz | hz | hz
  · skip
    refine con_of_go mfX10_setKind.1 hc (Nat.le_of_ble_eq_true rfl) rfl (by decide) ?_
    show Go _ _ _ _ 0 [vA _, vI _, vI _, vI _, vT 9 0, vT 9 0] [] _ _
    refine go_iload_n (at_of tX10_setKind 0 0 rfl) rfl ?_
    refine go_cS (m_isList) lk_X10_235 rfl (at_of tX10_setKind 0 1 rfl) rfl (by decide) rfl (Nat.le_of_ble_eq_true rfl) rfl (by first | decide | exact ⟨Nat.zero_le _, Nat.zero_le _⟩) ?_
    refine go_if_eq (tgt := 38) (at_of tX10_setKind 0 2 rfl) (by decide) (fun h4 => ?_) (fun h4 => ?_)
    · exfalso; exact bI_0.mp h4 h.1
    refine go_iload_n (at_of tX10_setKind 0 3 rfl) rfl ?_
    refine go_iconst (at_of tX10_setKind 0 4 rfl) (by unfold in32; omega) ?_
    refine go_iconst (at_of tX10_setKind 0 5 rfl) (by unfold in32; omega) ?_
    refine go_cS (m_in) lk_X10_124 rfl (at_of tX10_setKind 0 6 rfl) rfl (by decide) rfl (Nat.le_of_ble_eq_true rfl) rfl (by first | decide | exact ⟨Nat.zero_le _, Nat.zero_le _⟩) ?_
    refine go_if_eq (tgt := 38) (at_of tX10_setKind 0 7 rfl) (by decide) (fun h13 => ?_) (fun h13 => ?_)
    · exfalso; exact bI_0.mp h13 h.2
    refine go_iload_n (at_of tX10_setKind 0 8 rfl) rfl ?_
    refine go_bipush (at_of tX10_setKind 0 9 rfl) (by decide) ?_
    refine go_icmp_eq (tgt := 34) (at_of tX10_setKind 0 10 rfl) (by decide) (fun h19 => ?_) (fun h19 => ?_)
    rotate_left
    · exfalso; omega
    refine go_iconst (at_of tX10_setKind 1 1 rfl) (by unfold in32; omega) ?_
    refine go_goto (tgt := 39) (at_of tX10_setKind 1 2 rfl) (by decide) ?_
    refine go_istore (at_of tX10_setKind 1 4 rfl) rfl rfl ?_
    refine go_aload_n (at_of tX10_setKind 1 5 rfl) rfl ?_
    refine go_iload (at_of tX10_setKind 1 6 rfl) rfl rfl ?_
    refine go_if_eq (tgt := 51) (at_of tX10_setKind 1 7 rfl) (by decide) (fun h44 => ?_) (fun h44 => ?_)
    · exfalso; omega
    refine go_iconst (at_of tX10_setKind 1 8 rfl) (by unfold in32; omega) ?_
    refine go_goto (tgt := 52) (at_of tX10_setKind 1 9 rfl) (by decide) ?_
    refine go_cV (m_goesOn) lk_X10_141 rfl G_109 (at_of tX10_setKind 1 11 rfl) rfl (by decide) rfl (Nat.le_of_ble_eq_true rfl) rfl (by first | decide | exact ⟨Nat.zero_le _, Nat.zero_le _⟩) ?_
    refine go_if_ne (tgt := 60) (at_of tX10_setKind 1 12 rfl) (by decide) (fun h55 => ?_) (fun h55 => ?_)
    rotate_left
    · exfalso; exact absurd h55 (by rw [bI_t rfl]; decide)
    refine go_aload_n (at_of tX10_setKind 1 15 rfl) rfl ?_
    refine go_getr (q := 116) fl_X10_37 rfl G_109 (by first | exact (hS _ _ rfl).trans rfl | exact (hS1 _ _ rfl).trans rfl | exact (hS2 _ _ rfl).trans rfl | exact (hS3 _ _ rfl).trans rfl | exact (hS4 _ _ rfl).trans rfl) (at_of tX10_setKind 2 0 rfl) ?_
    refine go_iconst (at_of tX10_setKind 2 1 rfl) (by unfold in32; omega) ?_
    refine go_iload_n (at_of tX10_setKind 2 2 rfl) rfl ?_
    refine go_imul (at_of tX10_setKind 2 3 rfl) (by unfold in32; omega) ?_
    refine go_iload_n (at_of tX10_setKind 2 4 rfl) rfl ?_
    refine go_iadd (at_of tX10_setKind 2 5 rfl) (by unfold in32; omega) ?_
    refine go_cald G_116 (by omega) (by omega) (at_of tX10_setKind 2 6 rfl) ?_
    refine go_istore (at_of tX10_setKind 2 7 rfl) rfl rfl ?_
    refine go_aload_n (at_of tX10_setKind 2 8 rfl) rfl ?_
    refine go_getr (q := 116) fl_X10_37 rfl G_109 (by first | exact (hS _ _ rfl).trans rfl | exact (hS1 _ _ rfl).trans rfl | exact (hS2 _ _ rfl).trans rfl | exact (hS3 _ _ rfl).trans rfl | exact (hS4 _ _ rfl).trans rfl) (at_of tX10_setKind 2 9 rfl) ?_
    refine go_iconst (at_of tX10_setKind 2 10 rfl) (by unfold in32; omega) ?_
    refine go_iload_n (at_of tX10_setKind 2 11 rfl) rfl ?_
    refine go_imul (at_of tX10_setKind 2 12 rfl) (by unfold in32; omega) ?_
    refine go_iload_n (at_of tX10_setKind 2 13 rfl) rfl ?_
    refine go_iadd (at_of tX10_setKind 2 14 rfl) (by unfold in32; omega) ?_
    refine go_iload_n (at_of tX10_setKind 2 15 rfl) rfl ?_
    refine go_cast1 G_116 (by omega) (by omega) (by omega) (at_of tX10_setKind 3 0 rfl) ?_
    refine go_iload (at_of tX10_setKind 3 1 rfl) rfl rfl ?_
    exact go_reti (at_of tX10_setKind 3 2 rfl) (le_i (by rw [P1_ne (by omega)]))
  · skip
    refine con_of_go mfX10_setKind.1 hc (Nat.le_of_ble_eq_true rfl) rfl (by decide) ?_
    show Go _ _ _ _ 0 [vA _, vI _, vI _, vI _, vT 9 0, vT 9 0] [] _ _
    refine go_iload_n (at_of tX10_setKind 0 0 rfl) rfl ?_
    refine go_cS (m_isList) lk_X10_235 rfl (at_of tX10_setKind 0 1 rfl) rfl (by decide) rfl (Nat.le_of_ble_eq_true rfl) rfl (by first | decide | exact ⟨Nat.zero_le _, Nat.zero_le _⟩) ?_
    refine go_if_eq (tgt := 38) (at_of tX10_setKind 0 2 rfl) (by decide) (fun h4 => ?_) (fun h4 => ?_)
    · exfalso; exact bI_0.mp h4 h.1
    refine go_iload_n (at_of tX10_setKind 0 3 rfl) rfl ?_
    refine go_iconst (at_of tX10_setKind 0 4 rfl) (by unfold in32; omega) ?_
    refine go_iconst (at_of tX10_setKind 0 5 rfl) (by unfold in32; omega) ?_
    refine go_cS (m_in) lk_X10_124 rfl (at_of tX10_setKind 0 6 rfl) rfl (by decide) rfl (Nat.le_of_ble_eq_true rfl) rfl (by first | decide | exact ⟨Nat.zero_le _, Nat.zero_le _⟩) ?_
    refine go_if_eq (tgt := 38) (at_of tX10_setKind 0 7 rfl) (by decide) (fun h13 => ?_) (fun h13 => ?_)
    · exfalso; exact bI_0.mp h13 h.2
    refine go_iload_n (at_of tX10_setKind 0 8 rfl) rfl ?_
    refine go_bipush (at_of tX10_setKind 0 9 rfl) (by decide) ?_
    refine go_icmp_eq (tgt := 34) (at_of tX10_setKind 0 10 rfl) (by decide) (fun h19 => ?_) (fun h19 => ?_)
    · exfalso; omega
    refine go_iload_n (at_of tX10_setKind 0 11 rfl) rfl ?_
    refine go_bipush (at_of tX10_setKind 0 12 rfl) (by decide) ?_
    refine go_icmp_eq (tgt := 34) (at_of tX10_setKind 0 13 rfl) (by decide) (fun h25 => ?_) (fun h25 => ?_)
    rotate_left
    · exfalso; omega
    refine go_iconst (at_of tX10_setKind 1 1 rfl) (by unfold in32; omega) ?_
    refine go_goto (tgt := 39) (at_of tX10_setKind 1 2 rfl) (by decide) ?_
    refine go_istore (at_of tX10_setKind 1 4 rfl) rfl rfl ?_
    refine go_aload_n (at_of tX10_setKind 1 5 rfl) rfl ?_
    refine go_iload (at_of tX10_setKind 1 6 rfl) rfl rfl ?_
    refine go_if_eq (tgt := 51) (at_of tX10_setKind 1 7 rfl) (by decide) (fun h44 => ?_) (fun h44 => ?_)
    · exfalso; omega
    refine go_iconst (at_of tX10_setKind 1 8 rfl) (by unfold in32; omega) ?_
    refine go_goto (tgt := 52) (at_of tX10_setKind 1 9 rfl) (by decide) ?_
    refine go_cV (m_goesOn) lk_X10_141 rfl G_109 (at_of tX10_setKind 1 11 rfl) rfl (by decide) rfl (Nat.le_of_ble_eq_true rfl) rfl (by first | decide | exact ⟨Nat.zero_le _, Nat.zero_le _⟩) ?_
    refine go_if_ne (tgt := 60) (at_of tX10_setKind 1 12 rfl) (by decide) (fun h55 => ?_) (fun h55 => ?_)
    rotate_left
    · exfalso; exact absurd h55 (by rw [bI_t rfl]; decide)
    refine go_aload_n (at_of tX10_setKind 1 15 rfl) rfl ?_
    refine go_getr (q := 116) fl_X10_37 rfl G_109 (by first | exact (hS _ _ rfl).trans rfl | exact (hS1 _ _ rfl).trans rfl | exact (hS2 _ _ rfl).trans rfl | exact (hS3 _ _ rfl).trans rfl | exact (hS4 _ _ rfl).trans rfl) (at_of tX10_setKind 2 0 rfl) ?_
    refine go_iconst (at_of tX10_setKind 2 1 rfl) (by unfold in32; omega) ?_
    refine go_iload_n (at_of tX10_setKind 2 2 rfl) rfl ?_
    refine go_imul (at_of tX10_setKind 2 3 rfl) (by unfold in32; omega) ?_
    refine go_iload_n (at_of tX10_setKind 2 4 rfl) rfl ?_
    refine go_iadd (at_of tX10_setKind 2 5 rfl) (by unfold in32; omega) ?_
    refine go_cald G_116 (by omega) (by omega) (at_of tX10_setKind 2 6 rfl) ?_
    refine go_istore (at_of tX10_setKind 2 7 rfl) rfl rfl ?_
    refine go_aload_n (at_of tX10_setKind 2 8 rfl) rfl ?_
    refine go_getr (q := 116) fl_X10_37 rfl G_109 (by first | exact (hS _ _ rfl).trans rfl | exact (hS1 _ _ rfl).trans rfl | exact (hS2 _ _ rfl).trans rfl | exact (hS3 _ _ rfl).trans rfl | exact (hS4 _ _ rfl).trans rfl) (at_of tX10_setKind 2 9 rfl) ?_
    refine go_iconst (at_of tX10_setKind 2 10 rfl) (by unfold in32; omega) ?_
    refine go_iload_n (at_of tX10_setKind 2 11 rfl) rfl ?_
    refine go_imul (at_of tX10_setKind 2 12 rfl) (by unfold in32; omega) ?_
    refine go_iload_n (at_of tX10_setKind 2 13 rfl) rfl ?_
    refine go_iadd (at_of tX10_setKind 2 14 rfl) (by unfold in32; omega) ?_
    refine go_iload_n (at_of tX10_setKind 2 15 rfl) rfl ?_
    refine go_cast1 G_116 (by omega) (by omega) (by omega) (at_of tX10_setKind 3 0 rfl) ?_
    refine go_iload (at_of tX10_setKind 3 1 rfl) rfl rfl ?_
    exact go_reti (at_of tX10_setKind 3 2 rfl) (le_i (by rw [P1_ne (by omega)]))
  · skip
    refine con_of_go mfX10_setKind.1 hc (Nat.le_of_ble_eq_true rfl) rfl (by decide) ?_
    show Go _ _ _ _ 0 [vA _, vI _, vI _, vI _, vT 9 0, vT 9 0] [] _ _
    refine go_iload_n (at_of tX10_setKind 0 0 rfl) rfl ?_
    refine go_cS (m_isList) lk_X10_235 rfl (at_of tX10_setKind 0 1 rfl) rfl (by decide) rfl (Nat.le_of_ble_eq_true rfl) rfl (by first | decide | exact ⟨Nat.zero_le _, Nat.zero_le _⟩) ?_
    refine go_if_eq (tgt := 38) (at_of tX10_setKind 0 2 rfl) (by decide) (fun h4 => ?_) (fun h4 => ?_)
    · exfalso; exact bI_0.mp h4 h.1
    refine go_iload_n (at_of tX10_setKind 0 3 rfl) rfl ?_
    refine go_iconst (at_of tX10_setKind 0 4 rfl) (by unfold in32; omega) ?_
    refine go_iconst (at_of tX10_setKind 0 5 rfl) (by unfold in32; omega) ?_
    refine go_cS (m_in) lk_X10_124 rfl (at_of tX10_setKind 0 6 rfl) rfl (by decide) rfl (Nat.le_of_ble_eq_true rfl) rfl (by first | decide | exact ⟨Nat.zero_le _, Nat.zero_le _⟩) ?_
    refine go_if_eq (tgt := 38) (at_of tX10_setKind 0 7 rfl) (by decide) (fun h13 => ?_) (fun h13 => ?_)
    · exfalso; exact bI_0.mp h13 h.2
    refine go_iload_n (at_of tX10_setKind 0 8 rfl) rfl ?_
    refine go_bipush (at_of tX10_setKind 0 9 rfl) (by decide) ?_
    refine go_icmp_eq (tgt := 34) (at_of tX10_setKind 0 10 rfl) (by decide) (fun h19 => ?_) (fun h19 => ?_)
    · exfalso; omega
    refine go_iload_n (at_of tX10_setKind 0 11 rfl) rfl ?_
    refine go_bipush (at_of tX10_setKind 0 12 rfl) (by decide) ?_
    refine go_icmp_eq (tgt := 34) (at_of tX10_setKind 0 13 rfl) (by decide) (fun h25 => ?_) (fun h25 => ?_)
    · exfalso; omega
    refine go_iload_n (at_of tX10_setKind 0 14 rfl) rfl ?_
    refine go_bipush (at_of tX10_setKind 0 15 rfl) (by decide) ?_
    refine go_icmp_ne (tgt := 38) (at_of tX10_setKind 1 0 rfl) (by decide) (fun h31 => ?_) (fun h31 => ?_)
    · exfalso; omega
    refine go_iconst (at_of tX10_setKind 1 1 rfl) (by unfold in32; omega) ?_
    refine go_goto (tgt := 39) (at_of tX10_setKind 1 2 rfl) (by decide) ?_
    refine go_istore (at_of tX10_setKind 1 4 rfl) rfl rfl ?_
    refine go_aload_n (at_of tX10_setKind 1 5 rfl) rfl ?_
    refine go_iload (at_of tX10_setKind 1 6 rfl) rfl rfl ?_
    refine go_if_eq (tgt := 51) (at_of tX10_setKind 1 7 rfl) (by decide) (fun h44 => ?_) (fun h44 => ?_)
    · exfalso; omega
    refine go_iconst (at_of tX10_setKind 1 8 rfl) (by unfold in32; omega) ?_
    refine go_goto (tgt := 52) (at_of tX10_setKind 1 9 rfl) (by decide) ?_
    refine go_cV (m_goesOn) lk_X10_141 rfl G_109 (at_of tX10_setKind 1 11 rfl) rfl (by decide) rfl (Nat.le_of_ble_eq_true rfl) rfl (by first | decide | exact ⟨Nat.zero_le _, Nat.zero_le _⟩) ?_
    refine go_if_ne (tgt := 60) (at_of tX10_setKind 1 12 rfl) (by decide) (fun h55 => ?_) (fun h55 => ?_)
    rotate_left
    · exfalso; exact absurd h55 (by rw [bI_t rfl]; decide)
    refine go_aload_n (at_of tX10_setKind 1 15 rfl) rfl ?_
    refine go_getr (q := 116) fl_X10_37 rfl G_109 (by first | exact (hS _ _ rfl).trans rfl | exact (hS1 _ _ rfl).trans rfl | exact (hS2 _ _ rfl).trans rfl | exact (hS3 _ _ rfl).trans rfl | exact (hS4 _ _ rfl).trans rfl) (at_of tX10_setKind 2 0 rfl) ?_
    refine go_iconst (at_of tX10_setKind 2 1 rfl) (by unfold in32; omega) ?_
    refine go_iload_n (at_of tX10_setKind 2 2 rfl) rfl ?_
    refine go_imul (at_of tX10_setKind 2 3 rfl) (by unfold in32; omega) ?_
    refine go_iload_n (at_of tX10_setKind 2 4 rfl) rfl ?_
    refine go_iadd (at_of tX10_setKind 2 5 rfl) (by unfold in32; omega) ?_
    refine go_cald G_116 (by omega) (by omega) (at_of tX10_setKind 2 6 rfl) ?_
    refine go_istore (at_of tX10_setKind 2 7 rfl) rfl rfl ?_
    refine go_aload_n (at_of tX10_setKind 2 8 rfl) rfl ?_
    refine go_getr (q := 116) fl_X10_37 rfl G_109 (by first | exact (hS _ _ rfl).trans rfl | exact (hS1 _ _ rfl).trans rfl | exact (hS2 _ _ rfl).trans rfl | exact (hS3 _ _ rfl).trans rfl | exact (hS4 _ _ rfl).trans rfl) (at_of tX10_setKind 2 9 rfl) ?_
    refine go_iconst (at_of tX10_setKind 2 10 rfl) (by unfold in32; omega) ?_
    refine go_iload_n (at_of tX10_setKind 2 11 rfl) rfl ?_
    refine go_imul (at_of tX10_setKind 2 12 rfl) (by unfold in32; omega) ?_
    refine go_iload_n (at_of tX10_setKind 2 13 rfl) rfl ?_
    refine go_iadd (at_of tX10_setKind 2 14 rfl) (by unfold in32; omega) ?_
    refine go_iload_n (at_of tX10_setKind 2 15 rfl) rfl ?_
    refine go_cast1 G_116 (by omega) (by omega) (by omega) (at_of tX10_setKind 3 0 rfl) ?_
    refine go_iload (at_of tX10_setKind 3 1 rfl) rfl rfl ?_
    exact go_reti (at_of tX10_setKind 3 2 rfl) (le_i (by rw [P1_ne (by omega)]))
theorem m_addStyle_1 (hS : Str σ.2.1) (h8 : 1 ≤ σ.1 109 7 ∧ σ.1 109 7 ≤ 8) {q t z : Int} (h : ¬ ((-1 ≤ q ∧ q ≤ σ.1 109 7 - 1) ∧ -1 ≤ z ∧ z ≤ 1)) : Con 1 mX10_addStyle 0 0 [vA 109, vI q, vI t, vI z] σ (vI 0, P1 σ 109 0 1) := by
  by_cases c0 : -1 ≤ q ∧ q ≤ σ.1 109 7 - 1
  · have c1 : ¬ (-1 ≤ z ∧ z ≤ 1) := fun y => h ⟨c0, y⟩
    refine con_of_go mfX10_addStyle.1 trivial (Nat.le_of_ble_eq_true rfl) rfl (by decide) ?_
    show Go _ _ _ _ 0 [vA _, vI _, vI _, vI _, vT 9 0] [] _ _
    refine go_iload_n (at_of tX10_addStyle 0 0 rfl) rfl ?_
    refine go_iconst (at_of tX10_addStyle 0 1 rfl) (by unfold in32; omega) ?_
    refine go_aload_n (at_of tX10_addStyle 0 2 rfl) rfl ?_
    refine go_getf fl_X10_23 rfl G_109 (at_of tX10_addStyle 0 3 rfl) ?_
    refine go_iconst (at_of tX10_addStyle 0 4 rfl) (by unfold in32; omega) ?_
    refine go_isub (at_of tX10_addStyle 0 5 rfl) (by unfold in32; omega) ?_
    refine go_cS (m_in) lk_X10_124 rfl (at_of tX10_addStyle 0 6 rfl) rfl (by decide) rfl (Nat.le_of_ble_eq_true rfl) rfl (by first | decide | exact ⟨Nat.zero_le _, Nat.zero_le _⟩) ?_
    refine go_if_eq (tgt := 27) (at_of tX10_addStyle 0 7 rfl) (by decide) (fun h11 => ?_) (fun h11 => ?_)
    · exfalso; exact bI_0.mp h11 c0
    refine go_iload_n (at_of tX10_addStyle 0 8 rfl) rfl ?_
    refine go_iconst (at_of tX10_addStyle 0 9 rfl) (by unfold in32; omega) ?_
    refine go_iconst (at_of tX10_addStyle 0 10 rfl) (by unfold in32; omega) ?_
    refine go_cS (m_in) lk_X10_124 rfl (at_of tX10_addStyle 0 11 rfl) rfl (by decide) rfl (Nat.le_of_ble_eq_true rfl) rfl (by first | decide | exact ⟨Nat.zero_le _, Nat.zero_le _⟩) ?_
    refine go_if_eq (tgt := 27) (at_of tX10_addStyle 0 12 rfl) (by decide) (fun h20 => ?_) (fun h20 => ?_)
    rotate_left
    · exfalso; exact c1 (bI_1.mp h20)
    refine go_iconst (at_of tX10_addStyle 0 15 rfl) (by unfold in32; omega) ?_
    refine go_istore (at_of tX10_addStyle 1 0 rfl) rfl rfl ?_
    refine go_aload_n (at_of tX10_addStyle 1 1 rfl) rfl ?_
    refine go_iload (at_of tX10_addStyle 1 2 rfl) rfl rfl ?_
    refine go_if_ne (tgt := 40) (at_of tX10_addStyle 1 3 rfl) (by decide) (fun h33 => ?_) (fun h33 => ?_)
    · exfalso; omega
    refine go_iconst (at_of tX10_addStyle 1 4 rfl) (by unfold in32; omega) ?_
    refine go_goto (tgt := 54) (at_of tX10_addStyle 1 5 rfl) (by decide) ?_
    refine go_cV (m_goesOn) lk_X10_141 rfl G_109 (at_of tX10_addStyle 1 13 rfl) rfl (by decide) rfl (Nat.le_of_ble_eq_true rfl) rfl (by first | decide | exact ⟨Nat.zero_le _, Nat.zero_le _⟩) ?_
    refine go_if_ne (tgt := 62) (at_of tX10_addStyle 1 14 rfl) (by decide) (fun h57 => ?_) (fun h57 => ?_)
    · exfalso; exact h57 (bI_f (by decide))
    refine go_iconst (at_of tX10_addStyle 1 15 rfl) (by unfold in32; omega) ?_
    first | exact go_reti (at_of tX10_addStyle 2 0 rfl) rfl | exact go_reti (at_of tX10_addStyle 2 0 rfl) (le_i (by omega)) | exact go_reti (at_of tX10_addStyle 2 0 rfl) (le_i (by first | exact bI_t (by omega) | exact bI_f (by omega)))
  · skip
    refine con_of_go mfX10_addStyle.1 trivial (Nat.le_of_ble_eq_true rfl) rfl (by decide) ?_
    show Go _ _ _ _ 0 [vA _, vI _, vI _, vI _, vT 9 0] [] _ _
    refine go_iload_n (at_of tX10_addStyle 0 0 rfl) rfl ?_
    refine go_iconst (at_of tX10_addStyle 0 1 rfl) (by unfold in32; omega) ?_
    refine go_aload_n (at_of tX10_addStyle 0 2 rfl) rfl ?_
    refine go_getf fl_X10_23 rfl G_109 (at_of tX10_addStyle 0 3 rfl) ?_
    refine go_iconst (at_of tX10_addStyle 0 4 rfl) (by unfold in32; omega) ?_
    refine go_isub (at_of tX10_addStyle 0 5 rfl) (by unfold in32; omega) ?_
    refine go_cS (m_in) lk_X10_124 rfl (at_of tX10_addStyle 0 6 rfl) rfl (by decide) rfl (Nat.le_of_ble_eq_true rfl) rfl (by first | decide | exact ⟨Nat.zero_le _, Nat.zero_le _⟩) ?_
    refine go_if_eq (tgt := 27) (at_of tX10_addStyle 0 7 rfl) (by decide) (fun h11 => ?_) (fun h11 => ?_)
    rotate_left
    · exfalso; exact c0 (bI_1.mp h11)
    refine go_iconst (at_of tX10_addStyle 0 15 rfl) (by unfold in32; omega) ?_
    refine go_istore (at_of tX10_addStyle 1 0 rfl) rfl rfl ?_
    refine go_aload_n (at_of tX10_addStyle 1 1 rfl) rfl ?_
    refine go_iload (at_of tX10_addStyle 1 2 rfl) rfl rfl ?_
    refine go_if_ne (tgt := 40) (at_of tX10_addStyle 1 3 rfl) (by decide) (fun h33 => ?_) (fun h33 => ?_)
    · exfalso; omega
    refine go_iconst (at_of tX10_addStyle 1 4 rfl) (by unfold in32; omega) ?_
    refine go_goto (tgt := 54) (at_of tX10_addStyle 1 5 rfl) (by decide) ?_
    refine go_cV (m_goesOn) lk_X10_141 rfl G_109 (at_of tX10_addStyle 1 13 rfl) rfl (by decide) rfl (Nat.le_of_ble_eq_true rfl) rfl (by first | decide | exact ⟨Nat.zero_le _, Nat.zero_le _⟩) ?_
    refine go_if_ne (tgt := 62) (at_of tX10_addStyle 1 14 rfl) (by decide) (fun h57 => ?_) (fun h57 => ?_)
    · exfalso; exact h57 (bI_f (by decide))
    refine go_iconst (at_of tX10_addStyle 1 15 rfl) (by unfold in32; omega) ?_
    first | exact go_reti (at_of tX10_addStyle 2 0 rfl) rfl | exact go_reti (at_of tX10_addStyle 2 0 rfl) (le_i (by omega)) | exact go_reti (at_of tX10_addStyle 2 0 rfl) (le_i (by first | exact bI_t (by omega) | exact bI_f (by omega)))
theorem m_addStyle_2 (hS : Str σ.2.1) (h8 : 1 ≤ σ.1 109 7 ∧ σ.1 109 7 ≤ 8) {q t z : Int} (h : (-1 ≤ q ∧ q ≤ σ.1 109 7 - 1) ∧ -1 ≤ z ∧ z ≤ 1) (hf : σ.1 109 7 = 8) : Con 1 mX10_addStyle 0 0 [vA 109, vI q, vI t, vI z] σ (vI 0, P1 σ 109 0 2) := by
  refine con_of_go mfX10_addStyle.1 trivial (Nat.le_of_ble_eq_true rfl) rfl (by decide) ?_
  show Go _ _ _ _ 0 [vA _, vI _, vI _, vI _, vT 9 0] [] _ _
  refine go_iload_n (at_of tX10_addStyle 0 0 rfl) rfl ?_
  refine go_iconst (at_of tX10_addStyle 0 1 rfl) (by unfold in32; omega) ?_
  refine go_aload_n (at_of tX10_addStyle 0 2 rfl) rfl ?_
  refine go_getf fl_X10_23 rfl G_109 (at_of tX10_addStyle 0 3 rfl) ?_
  refine go_iconst (at_of tX10_addStyle 0 4 rfl) (by unfold in32; omega) ?_
  refine go_isub (at_of tX10_addStyle 0 5 rfl) (by unfold in32; omega) ?_
  refine go_cS (m_in) lk_X10_124 rfl (at_of tX10_addStyle 0 6 rfl) rfl (by decide) rfl (Nat.le_of_ble_eq_true rfl) rfl (by first | decide | exact ⟨Nat.zero_le _, Nat.zero_le _⟩) ?_
  refine go_if_eq (tgt := 27) (at_of tX10_addStyle 0 7 rfl) (by decide) (fun h11 => ?_) (fun h11 => ?_)
  · exfalso; exact bI_0.mp h11 h.1
  refine go_iload_n (at_of tX10_addStyle 0 8 rfl) rfl ?_
  refine go_iconst (at_of tX10_addStyle 0 9 rfl) (by unfold in32; omega) ?_
  refine go_iconst (at_of tX10_addStyle 0 10 rfl) (by unfold in32; omega) ?_
  refine go_cS (m_in) lk_X10_124 rfl (at_of tX10_addStyle 0 11 rfl) rfl (by decide) rfl (Nat.le_of_ble_eq_true rfl) rfl (by first | decide | exact ⟨Nat.zero_le _, Nat.zero_le _⟩) ?_
  refine go_if_eq (tgt := 27) (at_of tX10_addStyle 0 12 rfl) (by decide) (fun h20 => ?_) (fun h20 => ?_)
  · exfalso; exact bI_0.mp h20 h.2
  refine go_iconst (at_of tX10_addStyle 0 13 rfl) (by unfold in32; omega) ?_
  refine go_goto (tgt := 28) (at_of tX10_addStyle 0 14 rfl) (by decide) ?_
  refine go_istore (at_of tX10_addStyle 1 0 rfl) rfl rfl ?_
  refine go_aload_n (at_of tX10_addStyle 1 1 rfl) rfl ?_
  refine go_iload (at_of tX10_addStyle 1 2 rfl) rfl rfl ?_
  refine go_if_ne (tgt := 40) (at_of tX10_addStyle 1 3 rfl) (by decide) (fun h33 => ?_) (fun h33 => ?_)
  rotate_left
  · exfalso; omega
  refine go_aload_n (at_of tX10_addStyle 1 6 rfl) rfl ?_
  refine go_getf fl_X10_23 rfl G_109 (at_of tX10_addStyle 1 7 rfl) ?_
  refine go_bipush (at_of tX10_addStyle 1 8 rfl) (by decide) ?_
  refine go_icmp_ne (tgt := 53) (at_of tX10_addStyle 1 9 rfl) (by decide) (fun h46 => ?_) (fun h46 => ?_)
  · exfalso; omega
  refine go_iconst (at_of tX10_addStyle 1 10 rfl) (by unfold in32; omega) ?_
  refine go_goto (tgt := 54) (at_of tX10_addStyle 1 11 rfl) (by decide) ?_
  refine go_cV (m_goesOn) lk_X10_141 rfl G_109 (at_of tX10_addStyle 1 13 rfl) rfl (by decide) rfl (Nat.le_of_ble_eq_true rfl) rfl (by first | decide | exact ⟨Nat.zero_le _, Nat.zero_le _⟩) ?_
  refine go_if_ne (tgt := 62) (at_of tX10_addStyle 1 14 rfl) (by decide) (fun h57 => ?_) (fun h57 => ?_)
  · exfalso; exact h57 (bI_f (by decide))
  refine go_iconst (at_of tX10_addStyle 1 15 rfl) (by unfold in32; omega) ?_
  first | exact go_reti (at_of tX10_addStyle 2 0 rfl) rfl | exact go_reti (at_of tX10_addStyle 2 0 rfl) (le_i (by omega)) | exact go_reti (at_of tX10_addStyle 2 0 rfl) (le_i (by first | exact bI_t (by omega) | exact bI_f (by omega)))
theorem m_addStyle (hS : Str σ.2.1) (h8 : 1 ≤ σ.1 109 7 ∧ σ.1 109 7 ≤ 8) {q t z : Int} (ht : t = 0 ∨ t = 1) (h : (-1 ≤ q ∧ q ≤ σ.1 109 7 - 1) ∧ -1 ≤ z ∧ z ≤ 1) (hf : σ.1 109 7 ≠ 8) : Con 1 mX10_addStyle 0 0 [vA 109, vI q, vI t, vI z] σ (vI (σ.1 109 7), P1 (M1 (M1 (M1 (P1 σ 109 0 0) 113 (σ.1 109 7) q) 114 (σ.1 109 7) t) 115 (σ.1 109 7) z) 109 7 (σ.1 109 7 + 1)) := by
  have a7 : (P1 σ 109 0 0).1 109 7 = σ.1 109 7 := P1_nj (by omega)
  refine con_of_go mfX10_addStyle.1 trivial (Nat.le_of_ble_eq_true rfl) rfl (by decide) ?_
  show Go _ _ _ _ 0 [vA _, vI _, vI _, vI _, vT 9 0] [] _ _
  refine go_iload_n (at_of tX10_addStyle 0 0 rfl) rfl ?_
  refine go_iconst (at_of tX10_addStyle 0 1 rfl) (by unfold in32; omega) ?_
  refine go_aload_n (at_of tX10_addStyle 0 2 rfl) rfl ?_
  refine go_getf fl_X10_23 rfl G_109 (at_of tX10_addStyle 0 3 rfl) ?_
  refine go_iconst (at_of tX10_addStyle 0 4 rfl) (by unfold in32; omega) ?_
  refine go_isub (at_of tX10_addStyle 0 5 rfl) (by unfold in32; omega) ?_
  refine go_cS (m_in) lk_X10_124 rfl (at_of tX10_addStyle 0 6 rfl) rfl (by decide) rfl (Nat.le_of_ble_eq_true rfl) rfl (by first | decide | exact ⟨Nat.zero_le _, Nat.zero_le _⟩) ?_
  refine go_if_eq (tgt := 27) (at_of tX10_addStyle 0 7 rfl) (by decide) (fun h11 => ?_) (fun h11 => ?_)
  · exfalso; exact bI_0.mp h11 h.1
  refine go_iload_n (at_of tX10_addStyle 0 8 rfl) rfl ?_
  refine go_iconst (at_of tX10_addStyle 0 9 rfl) (by unfold in32; omega) ?_
  refine go_iconst (at_of tX10_addStyle 0 10 rfl) (by unfold in32; omega) ?_
  refine go_cS (m_in) lk_X10_124 rfl (at_of tX10_addStyle 0 11 rfl) rfl (by decide) rfl (Nat.le_of_ble_eq_true rfl) rfl (by first | decide | exact ⟨Nat.zero_le _, Nat.zero_le _⟩) ?_
  refine go_if_eq (tgt := 27) (at_of tX10_addStyle 0 12 rfl) (by decide) (fun h20 => ?_) (fun h20 => ?_)
  · exfalso; exact bI_0.mp h20 h.2
  refine go_iconst (at_of tX10_addStyle 0 13 rfl) (by unfold in32; omega) ?_
  refine go_goto (tgt := 28) (at_of tX10_addStyle 0 14 rfl) (by decide) ?_
  refine go_istore (at_of tX10_addStyle 1 0 rfl) rfl rfl ?_
  refine go_aload_n (at_of tX10_addStyle 1 1 rfl) rfl ?_
  refine go_iload (at_of tX10_addStyle 1 2 rfl) rfl rfl ?_
  refine go_if_ne (tgt := 40) (at_of tX10_addStyle 1 3 rfl) (by decide) (fun h33 => ?_) (fun h33 => ?_)
  rotate_left
  · exfalso; omega
  refine go_aload_n (at_of tX10_addStyle 1 6 rfl) rfl ?_
  refine go_getf fl_X10_23 rfl G_109 (at_of tX10_addStyle 1 7 rfl) ?_
  refine go_bipush (at_of tX10_addStyle 1 8 rfl) (by decide) ?_
  refine go_icmp_ne (tgt := 53) (at_of tX10_addStyle 1 9 rfl) (by decide) (fun h46 => ?_) (fun h46 => ?_)
  rotate_left
  · exfalso; omega
  refine go_iconst (at_of tX10_addStyle 1 12 rfl) (by unfold in32; omega) ?_
  refine go_cV (m_goesOn) lk_X10_141 rfl G_109 (at_of tX10_addStyle 1 13 rfl) rfl (by decide) rfl (Nat.le_of_ble_eq_true rfl) rfl (by first | decide | exact ⟨Nat.zero_le _, Nat.zero_le _⟩) ?_
  refine go_if_ne (tgt := 62) (at_of tX10_addStyle 1 14 rfl) (by decide) (fun h57 => ?_) (fun h57 => ?_)
  rotate_left
  · exfalso; exact absurd h57 (by rw [bI_t rfl]; decide)
  refine go_aload_n (at_of tX10_addStyle 2 1 rfl) rfl ?_
  refine go_getr (q := 113) fl_X10_27 rfl G_109 (by first | exact (hS _ _ rfl).trans rfl | exact (hS1 _ _ rfl).trans rfl | exact (hS2 _ _ rfl).trans rfl | exact (hS3 _ _ rfl).trans rfl | exact (hS4 _ _ rfl).trans rfl) (at_of tX10_addStyle 2 2 rfl) ?_
  refine go_aload_n (at_of tX10_addStyle 2 3 rfl) rfl ?_
  refine go_getf fl_X10_23 rfl G_109 (at_of tX10_addStyle 2 4 rfl) ?_
  rw [a7]
  refine go_iload_n (at_of tX10_addStyle 2 5 rfl) rfl ?_
  refine go_iast1 G_113 (by omega) (by omega) (at_of tX10_addStyle 2 6 rfl) ?_
  refine go_aload_n (at_of tX10_addStyle 2 7 rfl) rfl ?_
  refine go_getr (q := 114) fl_X10_30 rfl G_109 (by first | exact (hS _ _ rfl).trans rfl | exact (hS1 _ _ rfl).trans rfl | exact (hS2 _ _ rfl).trans rfl | exact (hS3 _ _ rfl).trans rfl | exact (hS4 _ _ rfl).trans rfl) (at_of tX10_addStyle 2 8 rfl) ?_
  refine go_aload_n (at_of tX10_addStyle 2 9 rfl) rfl ?_
  refine go_getf fl_X10_23 rfl G_109 (at_of tX10_addStyle 2 10 rfl) ?_
  rw [M1_ne (by omega), a7]
  refine go_iload_n (at_of tX10_addStyle 2 11 rfl) rfl ?_
  refine go_bast1 G_114 (by omega) (by omega) ht (at_of tX10_addStyle 2 12 rfl) ?_
  refine go_aload_n (at_of tX10_addStyle 2 13 rfl) rfl ?_
  refine go_getr (q := 115) fl_X10_34 rfl G_109 (by first | exact (hS _ _ rfl).trans rfl | exact (hS1 _ _ rfl).trans rfl | exact (hS2 _ _ rfl).trans rfl | exact (hS3 _ _ rfl).trans rfl | exact (hS4 _ _ rfl).trans rfl) (at_of tX10_addStyle 2 14 rfl) ?_
  refine go_aload_n (at_of tX10_addStyle 2 15 rfl) rfl ?_
  refine go_getf fl_X10_23 rfl G_109 (at_of tX10_addStyle 3 0 rfl) ?_
  rw [M1_ne (by omega), M1_ne (by omega), a7]
  refine go_iload_n (at_of tX10_addStyle 3 1 rfl) rfl ?_
  refine go_iast1 G_115 (by omega) (by omega) (at_of tX10_addStyle 3 2 rfl) ?_
  refine go_aload_n (at_of tX10_addStyle 3 3 rfl) rfl ?_
  refine go_dup (at_of tX10_addStyle 3 4 rfl) rfl ?_
  refine go_getf fl_X10_23 rfl G_109 (at_of tX10_addStyle 3 5 rfl) ?_
  rw [M1_ne (by omega), M1_ne (by omega), M1_ne (by omega), a7]
  refine go_iconst (at_of tX10_addStyle 3 6 rfl) (by unfold in32; omega) ?_
  refine go_iadd (at_of tX10_addStyle 3 7 rfl) (by unfold in32; omega) ?_
  refine go_put1 fp_X10_23 rfl (Or.inl rfl) G_109 (Or.inl rfl) (at_of tX10_addStyle 3 8 rfl) ?_
  refine go_aload_n (at_of tX10_addStyle 3 9 rfl) rfl ?_
  refine go_getf fl_X10_23 rfl G_109 (at_of tX10_addStyle 3 10 rfl) ?_
  rw [P1_eq]
  refine go_iconst (at_of tX10_addStyle 3 11 rfl) (by unfold in32; omega) ?_
  refine go_isub (at_of tX10_addStyle 3 12 rfl) (by unfold in32; omega) ?_
  exact go_reti (at_of tX10_addStyle 3 13 rfl) (le_i (by omega))
theorem m_isBold_no (hS : Str σ.2.1) {D : PapD} (hN : RepN (cN σ) D) (hW : WfM D) {p : Int} (h : ¬ (0 ≤ p ∧ p ≤ endsA D.1.1 D.1.2.1 D.1.2.1)) : Con 4 mX10_isBold 0 0 [vA 109, vI p] σ (vI 0, P1 σ 109 0 1) := by
  obtain ⟨hE, hSg, hMk, hRw⟩ := id hW
  obtain ⟨e1, e2, e3, e4⟩ := id hE
  obtain ⟨b1, b2, b3, b4⟩ := id hN.2.2.2
  have hn2 := hN.1.2.1
  have hl := hN.2.1.2
  have hS1 : Str (P1 σ 109 0 0).2.1 := hS
  have hN1 : RepN (cN (P1 σ 109 0 0)) D := by rw [cN_P1]; exact hN
  have pl := plOf_le (F := D.1.1) (n := D.1.2.1) (i := D.1.2.1)
  have el := endsA_le (F := D.1.1) (n := D.1.2.1) (i := D.1.2.1)
  have pl2 := pl.2 e1
  have el2 := el.2 e1
  have hcc : σ.1 110 (3011 : Int).toNat = D.2.1.1 := hN.2.1.1
  refine con_of_go mfX10_isBold.1 (Or.inl rfl) (Nat.le_of_ble_eq_true rfl) rfl (by decide) ?_
  show Go _ _ _ _ 0 [vA _, vI _, vT 9 0, vT 9 0] [] _ _
  refine go_aload_n (at_of tX10_isBold 0 0 rfl) rfl ?_
  refine go_aload_n (at_of tX10_isBold 0 1 rfl) rfl ?_
  refine go_iload_n (at_of tX10_isBold 0 2 rfl) rfl ?_
  refine go_cV (m_isParagraph hS hN.1 hE hSg) lk_X10_203 rfl G_109 (at_of tX10_isBold 0 3 rfl) rfl (by decide) rfl (Nat.le_of_ble_eq_true rfl) rfl (by first | decide | exact ⟨Nat.zero_le _, Nat.zero_le _⟩) ?_
  refine go_if_eq (tgt := 13) (at_of tX10_isBold 0 4 rfl) (by decide) (fun h6 => ?_) (fun h6 => ?_)
  rotate_left
  · exfalso; exact h (bI_1.mp h6)
  refine go_iconst (at_of tX10_isBold 0 7 rfl) (by unfold in32; omega) ?_
  refine go_cV (m_goesOn) lk_X10_141 rfl G_109 (at_of tX10_isBold 0 8 rfl) rfl (by decide) rfl (Nat.le_of_ble_eq_true rfl) rfl (by first | decide | exact ⟨Nat.zero_le _, Nat.zero_le _⟩) ?_
  refine go_if_ne (tgt := 22) (at_of tX10_isBold 0 9 rfl) (by decide) (fun h17 => ?_) (fun h17 => ?_)
  · exfalso; exact h17 (bI_f (by decide))
  refine go_iconst (at_of tX10_isBold 0 10 rfl) (by unfold in32; omega) ?_
  first | exact go_reti (at_of tX10_isBold 0 11 rfl) rfl | exact go_reti (at_of tX10_isBold 0 11 rfl) (le_i (by omega)) | exact go_reti (at_of tX10_isBold 0 11 rfl) (le_i (by first | exact bI_t (by omega) | exact bI_f (by omega)))
theorem m_isBold (hS : Str σ.2.1) {D : PapD} (hN : RepN (cN σ) D) (hW : WfM D) (h8 : 1 ≤ σ.1 109 7 ∧ σ.1 109 7 ≤ 8) (hpr : ∀ s : Int, 0 ≤ s → s < σ.1 109 7 → -1 ≤ σ.1 113 s.toNat ∧ σ.1 113 s.toNat < s) (htn : ∀ s : Int, 0 ≤ s → s < σ.1 109 7 → (σ.1 114 s.toNat = 0 ∨ σ.1 114 s.toNat = 1)) {p : Int} (h : 0 ≤ p ∧ p ≤ endsA D.1.1 D.1.2.1 D.1.2.1) (hst : 0 ≤ D.1.1 5 (ixEnd D.1.1 D.1.2.1 p) ∧ D.1.1 5 (ixEnd D.1.1 D.1.2.1 p) < σ.1 109 7) : Con 4 mX10_isBold 0 0 [vA 109, vI p] σ (vI (boldF (clF σ 113 8) (clF σ 114 8) 8 (D.1.1 5 (ixEnd D.1.1 D.1.2.1 p)) 0), P1 σ 109 0 0) := by
  obtain ⟨hE, hSg, hMk, hRw⟩ := id hW
  obtain ⟨e1, e2, e3, e4⟩ := id hE
  obtain ⟨b1, b2, b3, b4⟩ := id hN.2.2.2
  have hn2 := hN.1.2.1
  have hl := hN.2.1.2
  have hS1 : Str (P1 σ 109 0 0).2.1 := hS
  have hN1 : RepN (cN (P1 σ 109 0 0)) D := by rw [cN_P1]; exact hN
  have pl := plOf_le (F := D.1.1) (n := D.1.2.1) (i := D.1.2.1)
  have el := endsA_le (F := D.1.1) (n := D.1.2.1) (i := D.1.2.1)
  have pl2 := pl.2 e1
  have el2 := el.2 e1
  have hcc : σ.1 110 (3011 : Int).toNat = D.2.1.1 := hN.2.1.1
  obtain ⟨u1, u2, u3, h47⟩ := ixEnd_end e1 ((ixEnd_iff hE).mpr h)
  have clS : ∀ (a : Nat) (s : Int), 0 ≤ s → s < 8 → clF σ a 8 s = σ.1 a s.toNat := fun a s q q' => if_pos ⟨q, q'⟩
  have key : ∀ (m : Nat) (b : Nat × Nat) (s t : Int), -1 ≤ s → s < m → s < σ.1 109 7 → (t = 0 ∨ t = 1) → Go (fun _ => 0) 4 mX10_isBold b 35 [vA 109, vI p, vI t, vI s] [] (P1 σ 109 0 0) (vI (boldF (clF σ 113 8) (clF σ 114 8) m s t), P1 σ 109 0 0) := by
    intro m
    induction m with
    | zero =>
      intro b s t h0 h1 h2 h3
      refine go_iload_n (at_of tX10_isBold 1 5 rfl) rfl ?_
      refine go_iconst (at_of tX10_isBold 1 6 rfl) (by unfold in32; omega) ?_
      refine go_icmp_eq (tgt := 66) (at_of tX10_isBold 1 7 rfl) (by decide) (fun h37 => ?_) (fun h37 => ?_)
      rotate_left
      · exfalso; omega
      refine go_iload_n (at_of tX10_isBold 2 8 rfl) rfl ?_
      exact go_reti (at_of tX10_isBold 2 9 rfl) (by rw [boldF])
    | succ m ih =>
      intro b s t h0 h1 h2 h3
      rw [boldF]
      by_cases hs : s = -1
      · rw [if_pos hs]
        refine go_iload_n (at_of tX10_isBold 1 5 rfl) rfl ?_
        refine go_iconst (at_of tX10_isBold 1 6 rfl) (by unfold in32; omega) ?_
        refine go_icmp_eq (tgt := 66) (at_of tX10_isBold 1 7 rfl) (by decide) (fun h37 => ?_) (fun h37 => ?_)
        rotate_left
        · exfalso; omega
        refine go_iload_n (at_of tX10_isBold 2 8 rfl) rfl ?_
        first | exact go_reti (at_of tX10_isBold 2 9 rfl) rfl | exact go_reti (at_of tX10_isBold 2 9 rfl) (le_i (by omega)) | exact go_reti (at_of tX10_isBold 2 9 rfl) (le_i (by first | exact bI_t (by omega) | exact bI_f (by omega)))
      · rw [if_neg hs, clS 113 s (by omega) (by omega), clS 114 s (by omega) (by omega)]
        have q1 := hpr s (by omega) h2
        have q2 := htn s (by omega) h2
        have r1 : (P1 σ 109 0 0).1 113 s.toNat = σ.1 113 s.toNat := P1_ne (by omega)
        have r2 : (P1 σ 109 0 0).1 114 s.toNat = σ.1 114 s.toNat := P1_ne (by omega)
        by_cases ht : σ.1 114 s.toNat = 1
        · rw [if_pos ht]
          by_cases h00 : t = 0
          · rw [if_pos h00]
            refine go_iload_n (at_of tX10_isBold 1 5 rfl) rfl ?_
            refine go_iconst (at_of tX10_isBold 1 6 rfl) (by unfold in32; omega) ?_
            refine go_icmp_eq (tgt := 66) (at_of tX10_isBold 1 7 rfl) (by decide) (fun h37 => ?_) (fun h37 => ?_)
            · exfalso; omega
            refine go_iload_n (at_of tX10_isBold 1 8 rfl) rfl ?_
            refine go_aload_n (at_of tX10_isBold 1 9 rfl) rfl ?_
            refine go_getr (q := 114) fl_X10_30 rfl G_109 (by first | exact (hS _ _ rfl).trans rfl | exact (hS1 _ _ rfl).trans rfl | exact (hS2 _ _ rfl).trans rfl | exact (hS3 _ _ rfl).trans rfl | exact (hS4 _ _ rfl).trans rfl) (at_of tX10_isBold 1 10 rfl) ?_
            refine go_iload_n (at_of tX10_isBold 1 11 rfl) rfl ?_
            refine go_bald G_114 (by omega) (by omega) (at_of tX10_isBold 1 12 rfl) ?_
            refine go_icmp_eq (tgt := 54) (at_of tX10_isBold 1 13 rfl) (by decide) (fun h47 => ?_) (fun h47 => ?_)
            · exfalso; omega
            refine go_iconst (at_of tX10_isBold 1 14 rfl) (by unfold in32; omega) ?_
            refine go_goto (tgt := 55) (at_of tX10_isBold 1 15 rfl) (by decide) ?_
            refine go_istore_n (at_of tX10_isBold 2 1 rfl) rfl rfl ?_
            refine go_aload_n (at_of tX10_isBold 2 2 rfl) rfl ?_
            refine go_getr (q := 113) fl_X10_27 rfl G_109 (by first | exact (hS _ _ rfl).trans rfl | exact (hS1 _ _ rfl).trans rfl | exact (hS2 _ _ rfl).trans rfl | exact (hS3 _ _ rfl).trans rfl | exact (hS4 _ _ rfl).trans rfl) (at_of tX10_isBold 2 3 rfl) ?_
            refine go_iload_n (at_of tX10_isBold 2 4 rfl) rfl ?_
            refine go_iald G_113 (by omega) (by omega) (at_of tX10_isBold 2 5 rfl) ?_
            rw [r1]
            refine go_istore_n (at_of tX10_isBold 2 6 rfl) rfl rfl ?_
            refine go_goto (tgt := 35) (at_of tX10_isBold 2 7 rfl) (by decide) ?_
            exact ih _ _ _ (by omega) (by omega) (by omega) (by omega)
          · rw [if_neg h00]
            refine go_iload_n (at_of tX10_isBold 1 5 rfl) rfl ?_
            refine go_iconst (at_of tX10_isBold 1 6 rfl) (by unfold in32; omega) ?_
            refine go_icmp_eq (tgt := 66) (at_of tX10_isBold 1 7 rfl) (by decide) (fun h37 => ?_) (fun h37 => ?_)
            · exfalso; omega
            refine go_iload_n (at_of tX10_isBold 1 8 rfl) rfl ?_
            refine go_aload_n (at_of tX10_isBold 1 9 rfl) rfl ?_
            refine go_getr (q := 114) fl_X10_30 rfl G_109 (by first | exact (hS _ _ rfl).trans rfl | exact (hS1 _ _ rfl).trans rfl | exact (hS2 _ _ rfl).trans rfl | exact (hS3 _ _ rfl).trans rfl | exact (hS4 _ _ rfl).trans rfl) (at_of tX10_isBold 1 10 rfl) ?_
            refine go_iload_n (at_of tX10_isBold 1 11 rfl) rfl ?_
            refine go_bald G_114 (by omega) (by omega) (at_of tX10_isBold 1 12 rfl) ?_
            refine go_icmp_eq (tgt := 54) (at_of tX10_isBold 1 13 rfl) (by decide) (fun h47 => ?_) (fun h47 => ?_)
            rotate_left
            · exfalso; omega
            refine go_iconst (at_of tX10_isBold 2 0 rfl) (by unfold in32; omega) ?_
            refine go_istore_n (at_of tX10_isBold 2 1 rfl) rfl rfl ?_
            refine go_aload_n (at_of tX10_isBold 2 2 rfl) rfl ?_
            refine go_getr (q := 113) fl_X10_27 rfl G_109 (by first | exact (hS _ _ rfl).trans rfl | exact (hS1 _ _ rfl).trans rfl | exact (hS2 _ _ rfl).trans rfl | exact (hS3 _ _ rfl).trans rfl | exact (hS4 _ _ rfl).trans rfl) (at_of tX10_isBold 2 3 rfl) ?_
            refine go_iload_n (at_of tX10_isBold 2 4 rfl) rfl ?_
            refine go_iald G_113 (by omega) (by omega) (at_of tX10_isBold 2 5 rfl) ?_
            rw [r1]
            refine go_istore_n (at_of tX10_isBold 2 6 rfl) rfl rfl ?_
            refine go_goto (tgt := 35) (at_of tX10_isBold 2 7 rfl) (by decide) ?_
            exact ih _ _ _ (by omega) (by omega) (by omega) (by omega)
        · rw [if_neg ht]
          by_cases h00 : t = 0
          · skip
            refine go_iload_n (at_of tX10_isBold 1 5 rfl) rfl ?_
            refine go_iconst (at_of tX10_isBold 1 6 rfl) (by unfold in32; omega) ?_
            refine go_icmp_eq (tgt := 66) (at_of tX10_isBold 1 7 rfl) (by decide) (fun h37 => ?_) (fun h37 => ?_)
            · exfalso; omega
            refine go_iload_n (at_of tX10_isBold 1 8 rfl) rfl ?_
            refine go_aload_n (at_of tX10_isBold 1 9 rfl) rfl ?_
            refine go_getr (q := 114) fl_X10_30 rfl G_109 (by first | exact (hS _ _ rfl).trans rfl | exact (hS1 _ _ rfl).trans rfl | exact (hS2 _ _ rfl).trans rfl | exact (hS3 _ _ rfl).trans rfl | exact (hS4 _ _ rfl).trans rfl) (at_of tX10_isBold 1 10 rfl) ?_
            refine go_iload_n (at_of tX10_isBold 1 11 rfl) rfl ?_
            refine go_bald G_114 (by omega) (by omega) (at_of tX10_isBold 1 12 rfl) ?_
            refine go_icmp_eq (tgt := 54) (at_of tX10_isBold 1 13 rfl) (by decide) (fun h47 => ?_) (fun h47 => ?_)
            rotate_left
            · exfalso; omega
            refine go_iconst (at_of tX10_isBold 2 0 rfl) (by unfold in32; omega) ?_
            refine go_istore_n (at_of tX10_isBold 2 1 rfl) rfl rfl ?_
            refine go_aload_n (at_of tX10_isBold 2 2 rfl) rfl ?_
            refine go_getr (q := 113) fl_X10_27 rfl G_109 (by first | exact (hS _ _ rfl).trans rfl | exact (hS1 _ _ rfl).trans rfl | exact (hS2 _ _ rfl).trans rfl | exact (hS3 _ _ rfl).trans rfl | exact (hS4 _ _ rfl).trans rfl) (at_of tX10_isBold 2 3 rfl) ?_
            refine go_iload_n (at_of tX10_isBold 2 4 rfl) rfl ?_
            refine go_iald G_113 (by omega) (by omega) (at_of tX10_isBold 2 5 rfl) ?_
            rw [r1]
            refine go_istore_n (at_of tX10_isBold 2 6 rfl) rfl rfl ?_
            refine go_goto (tgt := 35) (at_of tX10_isBold 2 7 rfl) (by decide) ?_
            rw [show t = 0 from h00]; exact ih _ _ _ (by omega) (by omega) (by omega) (by omega)
          · skip
            refine go_iload_n (at_of tX10_isBold 1 5 rfl) rfl ?_
            refine go_iconst (at_of tX10_isBold 1 6 rfl) (by unfold in32; omega) ?_
            refine go_icmp_eq (tgt := 66) (at_of tX10_isBold 1 7 rfl) (by decide) (fun h37 => ?_) (fun h37 => ?_)
            · exfalso; omega
            refine go_iload_n (at_of tX10_isBold 1 8 rfl) rfl ?_
            refine go_aload_n (at_of tX10_isBold 1 9 rfl) rfl ?_
            refine go_getr (q := 114) fl_X10_30 rfl G_109 (by first | exact (hS _ _ rfl).trans rfl | exact (hS1 _ _ rfl).trans rfl | exact (hS2 _ _ rfl).trans rfl | exact (hS3 _ _ rfl).trans rfl | exact (hS4 _ _ rfl).trans rfl) (at_of tX10_isBold 1 10 rfl) ?_
            refine go_iload_n (at_of tX10_isBold 1 11 rfl) rfl ?_
            refine go_bald G_114 (by omega) (by omega) (at_of tX10_isBold 1 12 rfl) ?_
            refine go_icmp_eq (tgt := 54) (at_of tX10_isBold 1 13 rfl) (by decide) (fun h47 => ?_) (fun h47 => ?_)
            · exfalso; omega
            refine go_iconst (at_of tX10_isBold 1 14 rfl) (by unfold in32; omega) ?_
            refine go_goto (tgt := 55) (at_of tX10_isBold 1 15 rfl) (by decide) ?_
            refine go_istore_n (at_of tX10_isBold 2 1 rfl) rfl rfl ?_
            refine go_aload_n (at_of tX10_isBold 2 2 rfl) rfl ?_
            refine go_getr (q := 113) fl_X10_27 rfl G_109 (by first | exact (hS _ _ rfl).trans rfl | exact (hS1 _ _ rfl).trans rfl | exact (hS2 _ _ rfl).trans rfl | exact (hS3 _ _ rfl).trans rfl | exact (hS4 _ _ rfl).trans rfl) (at_of tX10_isBold 2 3 rfl) ?_
            refine go_iload_n (at_of tX10_isBold 2 4 rfl) rfl ?_
            refine go_iald G_113 (by omega) (by omega) (at_of tX10_isBold 2 5 rfl) ?_
            rw [r1]
            refine go_istore_n (at_of tX10_isBold 2 6 rfl) rfl rfl ?_
            refine go_goto (tgt := 35) (at_of tX10_isBold 2 7 rfl) (by decide) ?_
            rw [show t = 1 by omega]; exact ih _ _ _ (by omega) (by omega) (by omega) (by omega)
  refine con_of_go mfX10_isBold.1 (boldF_01 _ _ _ (Or.inl rfl)) (Nat.le_of_ble_eq_true rfl) rfl (by decide) ?_
  show Go _ _ _ _ 0 [vA _, vI _, vT 9 0, vT 9 0] [] _ _
  refine go_aload_n (at_of tX10_isBold 0 0 rfl) rfl ?_
  refine go_aload_n (at_of tX10_isBold 0 1 rfl) rfl ?_
  refine go_iload_n (at_of tX10_isBold 0 2 rfl) rfl ?_
  refine go_cV (m_isParagraph hS hN.1 hE hSg) lk_X10_203 rfl G_109 (at_of tX10_isBold 0 3 rfl) rfl (by decide) rfl (Nat.le_of_ble_eq_true rfl) rfl (by first | decide | exact ⟨Nat.zero_le _, Nat.zero_le _⟩) ?_
  refine go_if_eq (tgt := 13) (at_of tX10_isBold 0 4 rfl) (by decide) (fun h6 => ?_) (fun h6 => ?_)
  · exfalso; exact bI_0.mp h6 h
  refine go_iconst (at_of tX10_isBold 0 5 rfl) (by unfold in32; omega) ?_
  refine go_goto (tgt := 14) (at_of tX10_isBold 0 6 rfl) (by decide) ?_
  refine go_cV (m_goesOn) lk_X10_141 rfl G_109 (at_of tX10_isBold 0 8 rfl) rfl (by decide) rfl (Nat.le_of_ble_eq_true rfl) rfl (by first | decide | exact ⟨Nat.zero_le _, Nat.zero_le _⟩) ?_
  refine go_if_ne (tgt := 22) (at_of tX10_isBold 0 9 rfl) (by decide) (fun h17 => ?_) (fun h17 => ?_)
  rotate_left
  · exfalso; exact absurd h17 (by rw [bI_t rfl]; decide)
  refine go_iconst (at_of tX10_isBold 0 12 rfl) (by unfold in32; omega) ?_
  refine go_istore_n (at_of tX10_isBold 0 13 rfl) rfl rfl ?_
  refine go_aload_n (at_of tX10_isBold 0 14 rfl) rfl ?_
  refine go_aload_n (at_of tX10_isBold 0 15 rfl) rfl ?_
  refine go_iload_n (at_of tX10_isBold 1 0 rfl) rfl ?_
  refine go_cV (m_endOfParagraph hS1 hN1.1 hE hSg (by omega) (by omega)) lk_X10_197 rfl G_109 (at_of tX10_isBold 1 1 rfl) rfl (by decide) rfl (Nat.le_of_ble_eq_true rfl) rfl (by first | decide | exact ⟨Nat.zero_le _, Nat.zero_le _⟩) ?_
  refine go_iconst (at_of tX10_isBold 1 2 rfl) (by unfold in32; omega) ?_
  refine go_cV (m_at3 hS1 hN1.1 (by omega) h47) lk_X10_106 rfl G_109 (at_of tX10_isBold 1 3 rfl) rfl (by decide) rfl (Nat.le_of_ble_eq_true rfl) rfl (by first | decide | exact ⟨Nat.zero_le _, Nat.zero_le _⟩) ?_
  refine go_istore_n (at_of tX10_isBold 1 4 rfl) rfl rfl ?_
  exact key 8 _ _ 0 (by omega) (by omega) (by omega) (Or.inl rfl)
theorem m_isKept (hS : Str σ.2.1) {D : PapD} (hN : RepN (cN σ) D) (hW : WfM D) (h8 : 1 ≤ σ.1 109 7 ∧ σ.1 109 7 ≤ 8) (hpr : ∀ s : Int, 0 ≤ s → s < σ.1 109 7 → -1 ≤ σ.1 113 s.toNat ∧ σ.1 113 s.toNat < s) {i : Int} (hi : 0 ≤ i ∧ i ≤ D.1.2.1) (h47 : D.1.1 0 i = 47) (hst : 0 ≤ D.1.1 5 i ∧ D.1.1 5 i < σ.1 109 7) : Con 1 mX10_isKept 0 0 [vA 109, vI i] σ (vI (keepF (clF σ 113 8) (clF σ 115 8) 8 (D.1.1 5 i)), σ) := by
  obtain ⟨hE, hSg, hMk, hRw⟩ := id hW
  obtain ⟨e1, e2, e3, e4⟩ := id hE
  obtain ⟨b1, b2, b3, b4⟩ := id hN.2.2.2
  have hn2 := hN.1.2.1
  have hl := hN.2.1.2
  have hS1 : Str (P1 σ 109 0 0).2.1 := hS
  have hN1 : RepN (cN (P1 σ 109 0 0)) D := by rw [cN_P1]; exact hN
  have pl := plOf_le (F := D.1.1) (n := D.1.2.1) (i := D.1.2.1)
  have el := endsA_le (F := D.1.1) (n := D.1.2.1) (i := D.1.2.1)
  have pl2 := pl.2 e1
  have el2 := el.2 e1
  have hcc : σ.1 110 (3011 : Int).toNat = D.2.1.1 := hN.2.1.1
  have clS : ∀ (a : Nat) (s : Int), 0 ≤ s → s < 8 → clF σ a 8 s = σ.1 a s.toNat := fun a s q q' => if_pos ⟨q, q'⟩
  have key : ∀ (m : Nat) (b : Nat × Nat) (s : Int), -1 ≤ s → s < m → s < σ.1 109 7 → Go (fun _ => 0) 1 mX10_isKept b 7 [vA 109, vI i, vI s] [] σ (vI (keepF (clF σ 113 8) (clF σ 115 8) m s), σ) := by
    intro m
    induction m with
    | zero =>
      intro b s h0 h1 h2
      refine go_iload_n (at_of tX10_isKept 0 5 rfl) rfl ?_
      refine go_iconst (at_of tX10_isKept 0 6 rfl) (by unfold in32; omega) ?_
      refine go_icmp_eq (tgt := 32) (at_of tX10_isKept 0 7 rfl) (by decide) (fun h9 => ?_) (fun h9 => ?_)
      rotate_left
      · exfalso; omega
      refine go_iload_n (at_of tX10_isKept 1 4 rfl) rfl ?_
      refine go_iconst (at_of tX10_isKept 1 5 rfl) (by unfold in32; omega) ?_
      refine go_icmp_eq (tgt := 51) (at_of tX10_isKept 1 6 rfl) (by decide) (fun h34 => ?_) (fun h34 => ?_)
      rotate_left
      · exfalso; omega
      refine go_iconst (at_of tX10_isKept 1 15 rfl) (by unfold in32; omega) ?_
      exact go_reti (at_of tX10_isKept 2 0 rfl) (le_i (by rw [keepF]))
    | succ m ih =>
      intro b s h0 h1 h2
      rw [keepF]
      by_cases hs : s = -1
      · rw [if_pos hs]
        refine go_iload_n (at_of tX10_isKept 0 5 rfl) rfl ?_
        refine go_iconst (at_of tX10_isKept 0 6 rfl) (by unfold in32; omega) ?_
        refine go_icmp_eq (tgt := 32) (at_of tX10_isKept 0 7 rfl) (by decide) (fun h9 => ?_) (fun h9 => ?_)
        rotate_left
        · exfalso; omega
        refine go_iload_n (at_of tX10_isKept 1 4 rfl) rfl ?_
        refine go_iconst (at_of tX10_isKept 1 5 rfl) (by unfold in32; omega) ?_
        refine go_icmp_eq (tgt := 51) (at_of tX10_isKept 1 6 rfl) (by decide) (fun h34 => ?_) (fun h34 => ?_)
        rotate_left
        · exfalso; omega
        refine go_iconst (at_of tX10_isKept 1 15 rfl) (by unfold in32; omega) ?_
        first | exact go_reti (at_of tX10_isKept 2 0 rfl) rfl | exact go_reti (at_of tX10_isKept 2 0 rfl) (le_i (by omega)) | exact go_reti (at_of tX10_isKept 2 0 rfl) (le_i (by first | exact bI_t (by omega) | exact bI_f (by omega)))
      · rw [if_neg hs, clS 113 s (by omega) (by omega), clS 115 s (by omega) (by omega)]
        have q1 := hpr s (by omega) h2
        by_cases hk : σ.1 115 s.toNat = -1
        · rw [if_neg (fun q => q hk)]
          refine go_iload_n (at_of tX10_isKept 0 5 rfl) rfl ?_
          refine go_iconst (at_of tX10_isKept 0 6 rfl) (by unfold in32; omega) ?_
          refine go_icmp_eq (tgt := 32) (at_of tX10_isKept 0 7 rfl) (by decide) (fun h9 => ?_) (fun h9 => ?_)
          · exfalso; omega
          refine go_aload_n (at_of tX10_isKept 0 8 rfl) rfl ?_
          refine go_getr (q := 115) fl_X10_34 rfl G_109 (by first | exact (hS _ _ rfl).trans rfl | exact (hS1 _ _ rfl).trans rfl | exact (hS2 _ _ rfl).trans rfl | exact (hS3 _ _ rfl).trans rfl | exact (hS4 _ _ rfl).trans rfl) (at_of tX10_isKept 0 9 rfl) ?_
          refine go_iload_n (at_of tX10_isKept 0 10 rfl) rfl ?_
          refine go_iald G_115 (by omega) (by omega) (at_of tX10_isKept 0 11 rfl) ?_
          refine go_iconst (at_of tX10_isKept 0 12 rfl) (by unfold in32; omega) ?_
          refine go_icmp_ne (tgt := 32) (at_of tX10_isKept 0 13 rfl) (by decide) (fun h19 => ?_) (fun h19 => ?_)
          · exfalso; omega
          refine go_aload_n (at_of tX10_isKept 0 14 rfl) rfl ?_
          refine go_getr (q := 113) fl_X10_27 rfl G_109 (by first | exact (hS _ _ rfl).trans rfl | exact (hS1 _ _ rfl).trans rfl | exact (hS2 _ _ rfl).trans rfl | exact (hS3 _ _ rfl).trans rfl | exact (hS4 _ _ rfl).trans rfl) (at_of tX10_isKept 0 15 rfl) ?_
          refine go_iload_n (at_of tX10_isKept 1 0 rfl) rfl ?_
          refine go_iald G_113 (by omega) (by omega) (at_of tX10_isKept 1 1 rfl) ?_
          refine go_istore_n (at_of tX10_isKept 1 2 rfl) rfl rfl ?_
          refine go_goto (tgt := 7) (at_of tX10_isKept 1 3 rfl) (by decide) ?_
          exact ih _ _ (by omega) (by omega) (by omega)
        · rw [if_pos hk]
          refine go_iload_n (at_of tX10_isKept 0 5 rfl) rfl ?_
          refine go_iconst (at_of tX10_isKept 0 6 rfl) (by unfold in32; omega) ?_
          refine go_icmp_eq (tgt := 32) (at_of tX10_isKept 0 7 rfl) (by decide) (fun h9 => ?_) (fun h9 => ?_)
          · exfalso; omega
          refine go_aload_n (at_of tX10_isKept 0 8 rfl) rfl ?_
          refine go_getr (q := 115) fl_X10_34 rfl G_109 (by first | exact (hS _ _ rfl).trans rfl | exact (hS1 _ _ rfl).trans rfl | exact (hS2 _ _ rfl).trans rfl | exact (hS3 _ _ rfl).trans rfl | exact (hS4 _ _ rfl).trans rfl) (at_of tX10_isKept 0 9 rfl) ?_
          refine go_iload_n (at_of tX10_isKept 0 10 rfl) rfl ?_
          refine go_iald G_115 (by omega) (by omega) (at_of tX10_isKept 0 11 rfl) ?_
          refine go_iconst (at_of tX10_isKept 0 12 rfl) (by unfold in32; omega) ?_
          refine go_icmp_ne (tgt := 32) (at_of tX10_isKept 0 13 rfl) (by decide) (fun h19 => ?_) (fun h19 => ?_)
          rotate_left
          · exfalso; omega
          refine go_iload_n (at_of tX10_isKept 1 4 rfl) rfl ?_
          refine go_iconst (at_of tX10_isKept 1 5 rfl) (by unfold in32; omega) ?_
          refine go_icmp_eq (tgt := 51) (at_of tX10_isKept 1 6 rfl) (by decide) (fun h34 => ?_) (fun h34 => ?_)
          · exfalso; omega
          refine go_aload_n (at_of tX10_isKept 1 7 rfl) rfl ?_
          refine go_getr (q := 115) fl_X10_34 rfl G_109 (by first | exact (hS _ _ rfl).trans rfl | exact (hS1 _ _ rfl).trans rfl | exact (hS2 _ _ rfl).trans rfl | exact (hS3 _ _ rfl).trans rfl | exact (hS4 _ _ rfl).trans rfl) (at_of tX10_isKept 1 8 rfl) ?_
          refine go_iload_n (at_of tX10_isKept 1 9 rfl) rfl ?_
          refine go_iald G_115 (by omega) (by omega) (at_of tX10_isKept 1 10 rfl) ?_
          refine go_iconst (at_of tX10_isKept 1 11 rfl) (by unfold in32; omega) ?_
          refine go_icmp_ne (tgt := 51) (at_of tX10_isKept 1 12 rfl) (by decide) (fun h44 => ?_) (fun h44 => ?_)
          · refine go_iconst (at_of tX10_isKept 1 15 rfl) (by unfold in32; omega) ?_
            exact go_reti (at_of tX10_isKept 2 0 rfl) (le_i (by first | exact if_pos (by omega) | exact if_neg (by omega)))
          · refine go_iconst (at_of tX10_isKept 1 13 rfl) (by unfold in32; omega) ?_
            refine go_goto (tgt := 52) (at_of tX10_isKept 1 14 rfl) (by decide) ?_
            exact go_reti (at_of tX10_isKept 2 0 rfl) (le_i (by first | exact if_pos (by omega) | exact if_neg (by omega)))
  refine con_of_go mfX10_isKept.1 (keepF_01 _ _) (Nat.le_of_ble_eq_true rfl) rfl (by decide) ?_
  show Go _ _ _ _ 0 [vA _, vI _, vT 9 0] [] _ _
  refine go_aload_n (at_of tX10_isKept 0 0 rfl) rfl ?_
  refine go_iload_n (at_of tX10_isKept 0 1 rfl) rfl ?_
  refine go_iconst (at_of tX10_isKept 0 2 rfl) (by unfold in32; omega) ?_
  refine go_cV (m_at3 hS hN.1 (by omega) h47) lk_X10_106 rfl G_109 (at_of tX10_isKept 0 3 rfl) rfl (by decide) rfl (Nat.le_of_ble_eq_true rfl) rfl (by first | decide | exact ⟨Nat.zero_le _, Nat.zero_le _⟩) ?_
  refine go_istore_n (at_of tX10_isKept 0 4 rfl) rfl rfl ?_
  exact key 8 _ _ (by omega) (by omega) (by omega)
end Mod12
