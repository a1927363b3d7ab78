/-! The reference's answers that change nothing but what was thrown. -/
section Mod8
variable {σ : St}
theorem cN_P1 {j : Nat} {z : Int} : cN (P1 σ 109 j z) = cN σ := funext fun x => P1_ne (by omega)
theorem m_isBookmark {b : Int} : Con 1 mX10_isBookmark 0 0 [vI b] σ (vI (bI (0 ≤ b ∧ b ≤ 5)), σ) := by
  refine con_of_go mfX10_isBookmark.1 bI_01 (Nat.le_of_ble_eq_true rfl) rfl (by decide) ?_
  show Go _ _ _ _ 0 [vI _] [] _ _
  refine go_iload_n (at_of tX10_isBookmark 0 0 rfl) rfl ?_
  refine go_iconst (at_of tX10_isBookmark 0 1 rfl) (by unfold in32; omega) ?_
  refine go_iconst (at_of tX10_isBookmark 0 2 rfl) (by unfold in32; omega) ?_
  refine go_cS (m_in) lk_X10_124 rfl (at_of tX10_isBookmark 0 3 rfl) rfl (by decide) rfl (Nat.le_of_ble_eq_true rfl) rfl (by first | decide | exact ⟨Nat.zero_le _, Nat.zero_le _⟩) ?_
  first | exact go_reti (at_of tX10_isBookmark 0 4 rfl) rfl | exact go_reti (at_of tX10_isBookmark 0 4 rfl) (le_i (by omega)) | exact go_reti (at_of tX10_isBookmark 0 4 rfl) (le_i (by first | exact bI_t (by omega) | exact bI_f (by omega)))
theorem m_isList {b : Int} : Con 1 mX10_isList 0 0 [vI b] σ (vI (bI (0 ≤ b ∧ b ≤ 2)), σ) := by
  refine con_of_go mfX10_isList.1 bI_01 (Nat.le_of_ble_eq_true rfl) rfl (by decide) ?_
  show Go _ _ _ _ 0 [vI _] [] _ _
  refine go_iload_n (at_of tX10_isList 0 0 rfl) rfl ?_
  refine go_iconst (at_of tX10_isList 0 1 rfl) (by unfold in32; omega) ?_
  refine go_iconst (at_of tX10_isList 0 2 rfl) (by unfold in32; omega) ?_
  refine go_cS (m_in) lk_X10_124 rfl (at_of tX10_isList 0 3 rfl) rfl (by decide) rfl (Nat.le_of_ble_eq_true rfl) rfl (by first | decide | exact ⟨Nat.zero_le _, Nat.zero_le _⟩) ?_
  first | exact go_reti (at_of tX10_isList 0 4 rfl) rfl | exact go_reti (at_of tX10_isList 0 4 rfl) (le_i (by omega)) | exact go_reti (at_of tX10_isList 0 4 rfl) (le_i (by first | exact bI_t (by omega) | exact bI_f (by omega)))
theorem m_isRecord {b : Int} : Con 1 mX10_isRecord 0 0 [vI b] σ (vI (bI (0 ≤ b ∧ b ≤ 4)), σ) := by
  refine con_of_go mfX10_isRecord.1 bI_01 (Nat.le_of_ble_eq_true rfl) rfl (by decide) ?_
  show Go _ _ _ _ 0 [vI _] [] _ _
  refine go_iload_n (at_of tX10_isRecord 0 0 rfl) rfl ?_
  refine go_iconst (at_of tX10_isRecord 0 1 rfl) (by unfold in32; omega) ?_
  refine go_iconst (at_of tX10_isRecord 0 2 rfl) (by unfold in32; omega) ?_
  refine go_cS (m_in) lk_X10_124 rfl (at_of tX10_isRecord 0 3 rfl) rfl (by decide) rfl (Nat.le_of_ble_eq_true rfl) rfl (by first | decide | exact ⟨Nat.zero_le _, Nat.zero_le _⟩) ?_
  first | exact go_reti (at_of tX10_isRecord 0 4 rfl) rfl | exact go_reti (at_of tX10_isRecord 0 4 rfl) (le_i (by omega)) | exact go_reti (at_of tX10_isRecord 0 4 rfl) (le_i (by first | exact bI_t (by omega) | exact bI_f (by omega)))
theorem m_told {k : Int} : Con 0 mX10_told 0 0 [vI k] σ (vI (if 1000 ≤ k then 64 else k % 65536), σ) := by
  by_cases h : 1000 ≤ k
  · rw [if_pos h]
    refine con_of_go mfX10_told.1 ⟨by omega, by omega⟩ (Nat.le_of_ble_eq_true rfl) rfl (by decide) ?_
    show Go _ _ _ _ 0 [vI _] [] _ _
    refine go_iload_n (at_of tX10_told 0 0 rfl) rfl ?_
    refine go_sipush (at_of tX10_told 0 1 rfl) (by decide) ?_
    refine go_icmp_lt (tgt := 12) (at_of tX10_told 0 2 rfl) (by decide) (fun h4 => ?_) (fun h4 => ?_)
    · exfalso; omega
    refine go_bipush (at_of tX10_told 0 3 rfl) (by decide) ?_
    refine go_goto (tgt := 14) (at_of tX10_told 0 4 rfl) (by decide) ?_
    first | exact go_reti (at_of tX10_told 0 7 rfl) rfl | exact go_reti (at_of tX10_told 0 7 rfl) (le_i (by omega)) | exact go_reti (at_of tX10_told 0 7 rfl) (le_i (by first | exact bI_t (by omega) | exact bI_f (by omega)))
  · rw [if_neg h]
    refine con_of_go mfX10_told.1 ⟨by omega, by omega⟩ (Nat.le_of_ble_eq_true rfl) rfl (by decide) ?_
    show Go _ _ _ _ 0 [vI _] [] _ _
    refine go_iload_n (at_of tX10_told 0 0 rfl) rfl ?_
    refine go_sipush (at_of tX10_told 0 1 rfl) (by decide) ?_
    refine go_icmp_lt (tgt := 12) (at_of tX10_told 0 2 rfl) (by decide) (fun h4 => ?_) (fun h4 => ?_)
    rotate_left
    · exfalso; omega
    refine go_iload_n (at_of tX10_told 0 5 rfl) rfl ?_
    refine go_i2c (at_of tX10_told 0 6 rfl) ?_
    first | exact go_reti (at_of tX10_told 0 7 rfl) rfl | exact go_reti (at_of tX10_told 0 7 rfl) (le_i (by omega)) | exact go_reti (at_of tX10_told 0 7 rfl) (le_i (by first | exact bI_t (by omega) | exact bI_f (by omega)))
theorem m_isChange (hS : Str σ.2.1) {D : PapD} (hN : RepN (cN σ) D) (hW : WfM D) {c : Int} : Con 1 mX10_isChange 0 0 [vA 109, vI c] σ (vI (bI (0 ≤ c ∧ c < D.2.1.1)), σ) := by
  obtain ⟨hE, hSg, hMk, hRw⟩ := id hW
  obtain ⟨e1, e2, e3, e4⟩ := id hE
  obtain ⟨b1, b2, b3, b4⟩ := id hN.2.2.2
  have hn2 := hN.1.2.1
  have hl := hN.2.1.2
  have hS1 : Str (P1 σ 109 0 0).2.1 := hS
  have hN1 : RepN (cN (P1 σ 109 0 0)) D := by rw [cN_P1]; exact hN
  have pl := plOf_le (F := D.1.1) (n := D.1.2.1) (i := D.1.2.1)
  have el := endsA_le (F := D.1.1) (n := D.1.2.1) (i := D.1.2.1)
  have pl2 := pl.2 e1
  have el2 := el.2 e1
  have hcc : σ.1 110 (3011 : Int).toNat = D.2.1.1 := hN.2.1.1
  rw [show bI (0 ≤ c ∧ c < D.2.1.1) = bI (0 ≤ c ∧ c ≤ D.2.1.1 - 1) from bI_congr (by omega)]
  refine con_of_go mfX10_isChange.1 bI_01 (Nat.le_of_ble_eq_true rfl) rfl (by decide) ?_
  show Go _ _ _ _ 0 [vA _, vI _] [] _ _
  refine go_iload_n (at_of tX10_isChange 0 0 rfl) rfl ?_
  refine go_iconst (at_of tX10_isChange 0 1 rfl) (by unfold in32; omega) ?_
  refine go_aload_n (at_of tX10_isChange 0 2 rfl) rfl ?_
  refine go_getr (q := 110) fl_X10_7 rfl G_109 (by first | exact (hS _ _ rfl).trans rfl | exact (hS1 _ _ rfl).trans rfl | exact (hS2 _ _ rfl).trans rfl | exact (hS3 _ _ rfl).trans rfl | exact (hS4 _ _ rfl).trans rfl) (at_of tX10_isChange 0 3 rfl) ?_
  refine go_sipush (at_of tX10_isChange 0 4 rfl) (by decide) ?_
  refine go_iald G_110 (by omega) (by omega) (at_of tX10_isChange 0 5 rfl) ?_
  rw [hcc]
  refine go_iconst (at_of tX10_isChange 0 6 rfl) (by unfold in32; omega) ?_
  refine go_isub (at_of tX10_isChange 0 7 rfl) (by unfold in32; omega) ?_
  refine go_cS (m_in) lk_X10_124 rfl (at_of tX10_isChange 0 8 rfl) rfl (by decide) rfl (Nat.le_of_ble_eq_true rfl) rfl (by first | decide | exact ⟨Nat.zero_le _, Nat.zero_le _⟩) ?_
  first | exact go_reti (at_of tX10_isChange 0 9 rfl) rfl | exact go_reti (at_of tX10_isChange 0 9 rfl) (le_i (by omega)) | exact go_reti (at_of tX10_isChange 0 9 rfl) (le_i (by first | exact bI_t (by omega) | exact bI_f (by omega)))
theorem m_isField (hS : Str σ.2.1) (h20 : 0 ≤ σ.1 109 13 ∧ σ.1 109 13 ≤ 20) {f : Int} : Con 1 mX10_isField 0 0 [vA 109, vI f] σ (vI (bI (0 ≤ f ∧ f < σ.1 109 13)), σ) := by
  rw [show bI (0 ≤ f ∧ f < σ.1 109 13) = bI (0 ≤ f ∧ f ≤ σ.1 109 13 - 1) from bI_congr (by omega)]
  refine con_of_go mfX10_isField.1 bI_01 (Nat.le_of_ble_eq_true rfl) rfl (by decide) ?_
  show Go _ _ _ _ 0 [vA _, vI _] [] _ _
  refine go_iload_n (at_of tX10_isField 0 0 rfl) rfl ?_
  refine go_iconst (at_of tX10_isField 0 1 rfl) (by unfold in32; omega) ?_
  refine go_aload_n (at_of tX10_isField 0 2 rfl) rfl ?_
  refine go_getf fl_X10_187 rfl G_109 (at_of tX10_isField 0 3 rfl) ?_
  refine go_iconst (at_of tX10_isField 0 4 rfl) (by unfold in32; omega) ?_
  refine go_isub (at_of tX10_isField 0 5 rfl) (by unfold in32; omega) ?_
  refine go_cS (m_in) lk_X10_124 rfl (at_of tX10_isField 0 6 rfl) rfl (by decide) rfl (Nat.le_of_ble_eq_true rfl) rfl (by first | decide | exact ⟨Nat.zero_le _, Nat.zero_le _⟩) ?_
  first | exact go_reti (at_of tX10_isField 0 7 rfl) rfl | exact go_reti (at_of tX10_isField 0 7 rfl) (le_i (by omega)) | exact go_reti (at_of tX10_isField 0 7 rfl) (le_i (by first | exact bI_t (by omega) | exact bI_f (by omega)))
theorem m_paragraphAt (hS : Str σ.2.1) {D : PapD} (hN : RepN (cN σ) D) (hW : WfM D) {p : Int} (h0p : 0 ≤ p) (h1p : p ≤ plOf D.1.1 D.1.2.1 D.1.2.1) : Con 3 mX10_paragraphAt 0 0 [vA 109, vI p] σ (vI (endsA D.1.1 D.1.2.1 (ixOf D.1.1 D.1.2.1 p)), σ) := by
  obtain ⟨hE, hSg, hMk, hRw⟩ := id hW
  obtain ⟨e1, e2, e3, e4⟩ := id hE
  obtain ⟨b1, b2, b3, b4⟩ := id hN.2.2.2
  have hn2 := hN.1.2.1
  have hl := hN.2.1.2
  have hS1 : Str (P1 σ 109 0 0).2.1 := hS
  have hN1 : RepN (cN (P1 σ 109 0 0)) D := by rw [cN_P1]; exact hN
  have pl := plOf_le (F := D.1.1) (n := D.1.2.1) (i := D.1.2.1)
  have el := endsA_le (F := D.1.1) (n := D.1.2.1) (i := D.1.2.1)
  have pl2 := pl.2 e1
  have el2 := el.2 e1
  have hcc : σ.1 110 (3011 : Int).toNat = D.2.1.1 := hN.2.1.1
  obtain ⟨u1, u2, u3, u4⟩ := place_ix hE h0p h1p
  rw [endsA_N u2]
  obtain ⟨u, hu⟩ : ∃ u, u = ixOf D.1.1 D.1.2.1 p := ⟨_, rfl⟩
  have mu := m_unitOf hS hN.1 hE hSg h0p h1p
  rw [← hu] at mu u1 u2 ⊢
  have key : ∀ (m : Nat) (b : Nat × Nat) (k s : Int), 0 ≤ k → k + m = u → s = enN D.1 k → Go (fun _ => 0) 3 mX10_paragraphAt b 11 [vA 109, vI p, vI s, vI u, vI k] [] σ (vI (enN D.1 u), σ) := by
    intro m
    induction m with
    | zero =>
      intro b k s h0 h1 h2
      obtain rfl : k = u := by omega
      refine go_iload (at_of tX10_paragraphAt 0 8 rfl) rfl rfl ?_
      refine go_iload_n (at_of tX10_paragraphAt 0 9 rfl) rfl ?_
      refine go_icmp_ge (tgt := 49) (at_of tX10_paragraphAt 0 10 rfl) (by decide) (fun h14 => ?_) (fun h14 => ?_)
      rotate_left
      · exfalso; omega
      refine go_iload_n (at_of tX10_paragraphAt 1 11 rfl) rfl ?_
      first | exact go_reti (at_of tX10_paragraphAt 1 12 rfl) rfl | exact go_reti (at_of tX10_paragraphAt 1 12 rfl) (le_i (by omega)) | exact go_reti (at_of tX10_paragraphAt 1 12 rfl) (le_i (by first | exact bI_t (by omega) | exact bI_f (by omega)))
    | succ m ih =>
      intro b k s h0 h1 h2
      have si := send_iff (R := D.1) h0 (by omega)
      have es := enN_s (R := D.1) h0
      have eb := enN_ub (R := D.1) h0
      have en := @enN_nn D.1 k
      by_cases hs : D.1.1 3 k = -1
      · by_cases h47 : D.1.1 0 k = 47
        · rw [ind_t (si.mpr ⟨hs, h47⟩)] at es
          refine go_iload (at_of tX10_paragraphAt 0 8 rfl) rfl rfl ?_
          refine go_iload_n (at_of tX10_paragraphAt 0 9 rfl) rfl ?_
          refine go_icmp_ge (tgt := 49) (at_of tX10_paragraphAt 0 10 rfl) (by decide) (fun h14 => ?_) (fun h14 => ?_)
          · exfalso; omega
          refine go_iload_n (at_of tX10_paragraphAt 0 11 rfl) rfl ?_
          refine go_aload_n (at_of tX10_paragraphAt 0 12 rfl) rfl ?_
          refine go_iload (at_of tX10_paragraphAt 0 13 rfl) rfl rfl ?_
          refine go_cV (m_isSeen hS hN.1 (by omega)) lk_X10_114 rfl G_109 (at_of tX10_paragraphAt 0 14 rfl) rfl (by decide) rfl (Nat.le_of_ble_eq_true rfl) rfl (by first | decide | exact ⟨Nat.zero_le _, Nat.zero_le _⟩) ?_
          refine go_if_eq (tgt := 40) (at_of tX10_paragraphAt 0 15 rfl) (by decide) (fun h24 => ?_) (fun h24 => ?_)
          · exfalso; exact bI_0.mp h24 hs
          refine go_aload_n (at_of tX10_paragraphAt 1 0 rfl) rfl ?_
          refine go_iload (at_of tX10_paragraphAt 1 1 rfl) rfl rfl ?_
          refine go_cV (m_isEnd hS hN.1 hSg (by omega)) lk_X10_118 rfl G_109 (at_of tX10_paragraphAt 1 2 rfl) rfl (by decide) rfl (Nat.le_of_ble_eq_true rfl) rfl (by first | decide | exact ⟨Nat.zero_le _, Nat.zero_le _⟩) ?_
          refine go_if_eq (tgt := 40) (at_of tX10_paragraphAt 1 3 rfl) (by decide) (fun h33 => ?_) (fun h33 => ?_)
          · exfalso; exact bI_0.mp h33 h47
          refine go_iconst (at_of tX10_paragraphAt 1 4 rfl) (by unfold in32; omega) ?_
          refine go_goto (tgt := 41) (at_of tX10_paragraphAt 1 5 rfl) (by decide) ?_
          refine go_iadd (at_of tX10_paragraphAt 1 7 rfl) (by unfold in32; omega) ?_
          refine go_istore_n (at_of tX10_paragraphAt 1 8 rfl) rfl rfl ?_
          refine go_iinc (at_of tX10_paragraphAt 1 9 rfl) rfl (by unfold in32; omega) rfl rfl ?_
          refine go_goto (tgt := 11) (at_of tX10_paragraphAt 1 10 rfl) (by decide) ?_
          exact ih _ _ _ (by omega) (by omega) (by omega)
        · rw [ind_f (fun q => h47 (si.mp q).2)] at es
          refine go_iload (at_of tX10_paragraphAt 0 8 rfl) rfl rfl ?_
          refine go_iload_n (at_of tX10_paragraphAt 0 9 rfl) rfl ?_
          refine go_icmp_ge (tgt := 49) (at_of tX10_paragraphAt 0 10 rfl) (by decide) (fun h14 => ?_) (fun h14 => ?_)
          · exfalso; omega
          refine go_iload_n (at_of tX10_paragraphAt 0 11 rfl) rfl ?_
          refine go_aload_n (at_of tX10_paragraphAt 0 12 rfl) rfl ?_
          refine go_iload (at_of tX10_paragraphAt 0 13 rfl) rfl rfl ?_
          refine go_cV (m_isSeen hS hN.1 (by omega)) lk_X10_114 rfl G_109 (at_of tX10_paragraphAt 0 14 rfl) rfl (by decide) rfl (Nat.le_of_ble_eq_true rfl) rfl (by first | decide | exact ⟨Nat.zero_le _, Nat.zero_le _⟩) ?_
          refine go_if_eq (tgt := 40) (at_of tX10_paragraphAt 0 15 rfl) (by decide) (fun h24 => ?_) (fun h24 => ?_)
          · exfalso; exact bI_0.mp h24 hs
          refine go_aload_n (at_of tX10_paragraphAt 1 0 rfl) rfl ?_
          refine go_iload (at_of tX10_paragraphAt 1 1 rfl) rfl rfl ?_
          refine go_cV (m_isEnd hS hN.1 hSg (by omega)) lk_X10_118 rfl G_109 (at_of tX10_paragraphAt 1 2 rfl) rfl (by decide) rfl (Nat.le_of_ble_eq_true rfl) rfl (by first | decide | exact ⟨Nat.zero_le _, Nat.zero_le _⟩) ?_
          refine go_if_eq (tgt := 40) (at_of tX10_paragraphAt 1 3 rfl) (by decide) (fun h33 => ?_) (fun h33 => ?_)
          rotate_left
          · exfalso; exact h47 (bI_1.mp h33)
          refine go_iconst (at_of tX10_paragraphAt 1 6 rfl) (by unfold in32; omega) ?_
          refine go_iadd (at_of tX10_paragraphAt 1 7 rfl) (by unfold in32; omega) ?_
          refine go_istore_n (at_of tX10_paragraphAt 1 8 rfl) rfl rfl ?_
          refine go_iinc (at_of tX10_paragraphAt 1 9 rfl) rfl (by unfold in32; omega) rfl rfl ?_
          refine go_goto (tgt := 11) (at_of tX10_paragraphAt 1 10 rfl) (by decide) ?_
          exact ih _ _ _ (by omega) (by omega) (by omega)
      · rw [ind_f (fun q => hs (si.mp q).1)] at es
        refine go_iload (at_of tX10_paragraphAt 0 8 rfl) rfl rfl ?_
        refine go_iload_n (at_of tX10_paragraphAt 0 9 rfl) rfl ?_
        refine go_icmp_ge (tgt := 49) (at_of tX10_paragraphAt 0 10 rfl) (by decide) (fun h14 => ?_) (fun h14 => ?_)
        · exfalso; omega
        refine go_iload_n (at_of tX10_paragraphAt 0 11 rfl) rfl ?_
        refine go_aload_n (at_of tX10_paragraphAt 0 12 rfl) rfl ?_
        refine go_iload (at_of tX10_paragraphAt 0 13 rfl) rfl rfl ?_
        refine go_cV (m_isSeen hS hN.1 (by omega)) lk_X10_114 rfl G_109 (at_of tX10_paragraphAt 0 14 rfl) rfl (by decide) rfl (Nat.le_of_ble_eq_true rfl) rfl (by first | decide | exact ⟨Nat.zero_le _, Nat.zero_le _⟩) ?_
        refine go_if_eq (tgt := 40) (at_of tX10_paragraphAt 0 15 rfl) (by decide) (fun h24 => ?_) (fun h24 => ?_)
        rotate_left
        · exfalso; exact hs (bI_1.mp h24)
        refine go_iconst (at_of tX10_paragraphAt 1 6 rfl) (by unfold in32; omega) ?_
        refine go_iadd (at_of tX10_paragraphAt 1 7 rfl) (by unfold in32; omega) ?_
        refine go_istore_n (at_of tX10_paragraphAt 1 8 rfl) rfl rfl ?_
        refine go_iinc (at_of tX10_paragraphAt 1 9 rfl) rfl (by unfold in32; omega) rfl rfl ?_
        refine go_goto (tgt := 11) (at_of tX10_paragraphAt 1 10 rfl) (by decide) ?_
        exact ih _ _ _ (by omega) (by omega) (by omega)
  refine con_of_go mfX10_paragraphAt.1 trivial (Nat.le_of_ble_eq_true rfl) rfl (by decide) ?_
  show Go _ _ _ _ 0 [vA _, vI _, vT 9 0, vT 9 0, vT 9 0] [] _ _
  refine go_iconst (at_of tX10_paragraphAt 0 0 rfl) (by unfold in32; omega) ?_
  refine go_istore_n (at_of tX10_paragraphAt 0 1 rfl) rfl rfl ?_
  refine go_aload_n (at_of tX10_paragraphAt 0 2 rfl) rfl ?_
  refine go_iload_n (at_of tX10_paragraphAt 0 3 rfl) rfl ?_
  refine go_cV (mu) lk_X10_157 rfl G_109 (at_of tX10_paragraphAt 0 4 rfl) rfl (by decide) rfl (Nat.le_of_ble_eq_true rfl) rfl (by first | decide | exact ⟨Nat.zero_le _, Nat.zero_le _⟩) ?_
  refine go_istore_n (at_of tX10_paragraphAt 0 5 rfl) rfl rfl ?_
  refine go_iconst (at_of tX10_paragraphAt 0 6 rfl) (by unfold in32; omega) ?_
  refine go_istore (at_of tX10_paragraphAt 0 7 rfl) rfl rfl ?_
  exact key u.toNat _ 0 0 (by omega) (by omega) rfl
theorem m_startAt (hS : Str σ.2.1) {D : PapD} (hN : RepN (cN σ) D) (hW : WfM D) {p : Int} (hp : 0 ≤ p ∧ p ≤ endsA D.1.1 D.1.2.1 D.1.2.1) : Con 3 mX10_startAt 0 0 [vA 109, vI p] σ (vI (if p ≤ 0 then 0 else plOf D.1.1 D.1.2.1 (ixEnd D.1.1 D.1.2.1 (p - 1)) + 1), σ) := by
  obtain ⟨hE, hSg, hMk, hRw⟩ := id hW
  obtain ⟨e1, e2, e3, e4⟩ := id hE
  obtain ⟨b1, b2, b3, b4⟩ := id hN.2.2.2
  have hn2 := hN.1.2.1
  have hl := hN.2.1.2
  have hS1 : Str (P1 σ 109 0 0).2.1 := hS
  have hN1 : RepN (cN (P1 σ 109 0 0)) D := by rw [cN_P1]; exact hN
  have pl := plOf_le (F := D.1.1) (n := D.1.2.1) (i := D.1.2.1)
  have el := endsA_le (F := D.1.1) (n := D.1.2.1) (i := D.1.2.1)
  have pl2 := pl.2 e1
  have el2 := el.2 e1
  have hcc : σ.1 110 (3011 : Int).toNat = D.2.1.1 := hN.2.1.1
  have pq := plOf_le (F := D.1.1) (n := D.1.2.1) (i := ixEnd D.1.1 D.1.2.1 (p - 1))
  have pq2 := pq.2 e1
  refine con_of_go mfX10_startAt.1 trivial (Nat.le_of_ble_eq_true rfl) rfl (by decide) ?_
  show Go _ _ _ _ 0 [vA _, vI _] [] _ _
  refine go_iload_n (at_of tX10_startAt 0 0 rfl) rfl ?_
  refine go_if_ne (tgt := 8) (at_of tX10_startAt 0 1 rfl) (by decide) (fun h1 => ?_) (fun h1 => ?_)
  · refine go_aload_n (at_of tX10_startAt 0 4 rfl) rfl ?_
    refine go_aload_n (at_of tX10_startAt 0 5 rfl) rfl ?_
    refine go_iload_n (at_of tX10_startAt 0 6 rfl) rfl ?_
    refine go_iconst (at_of tX10_startAt 0 7 rfl) (by unfold in32; omega) ?_
    refine go_isub (at_of tX10_startAt 0 8 rfl) (by unfold in32; omega) ?_
    refine go_cV (m_endOfParagraph hS hN.1 hE hSg (by omega) (by omega)) lk_X10_197 rfl G_109 (at_of tX10_startAt 0 9 rfl) rfl (by decide) rfl (Nat.le_of_ble_eq_true rfl) rfl (by first | decide | exact ⟨Nat.zero_le _, Nat.zero_le _⟩) ?_
    refine go_cV (m_placeOf hS hN.1 hE hSg (by have := (ixEnd_iff hE (p := p - 1)).mpr (by omega); have := ixEnd_end e1 this; omega)) lk_X10_213 rfl G_109 (at_of tX10_startAt 0 10 rfl) rfl (by decide) rfl (Nat.le_of_ble_eq_true rfl) rfl (by first | decide | exact ⟨Nat.zero_le _, Nat.zero_le _⟩) ?_
    refine go_iconst (at_of tX10_startAt 0 11 rfl) (by unfold in32; omega) ?_
    refine go_iadd (at_of tX10_startAt 0 12 rfl) (by unfold in32; omega) ?_
    exact go_reti (at_of tX10_startAt 0 13 rfl) (le_i (by first | exact if_pos (by omega) | exact if_neg (by omega)))
  · refine go_iconst (at_of tX10_startAt 0 2 rfl) (by unfold in32; omega) ?_
    refine go_goto (tgt := 21) (at_of tX10_startAt 0 3 rfl) (by decide) ?_
    exact go_reti (at_of tX10_startAt 0 13 rfl) (le_i (by first | exact if_pos (by omega) | exact if_neg (by omega)))
/-- what is handed over is an int -/
theorem con_in32 {d mc ms : Nat} {m : MI} {as : List MV} {out : MV × St} (h : (∀ z : Int, vI z ∈ as → in32 z) → Con d m mc ms as σ out) : Con d m mc ms as σ out := fun hv => h (fun z hz => hv _ hz) hv
theorem m_old (hS : Str σ.2.1) {D : PapD} (hN : RepN (cN σ) D) (hW : WfM D) {i : Int} (h0i : 0 ≤ i) : Con 1 mX10_old 0 0 [vA 109, vI i] σ (vI (ixOld D.1.1 D.1.2.1 i), σ) := by
  obtain ⟨hE, hSg, hMk, hRw⟩ := id hW
  obtain ⟨e1, e2, e3, e4⟩ := id hE
  obtain ⟨b1, b2, b3, b4⟩ := id hN.2.2.2
  have hn2 := hN.1.2.1
  have hl := hN.2.1.2
  have hS1 : Str (P1 σ 109 0 0).2.1 := hS
  have hN1 : RepN (cN (P1 σ 109 0 0)) D := by rw [cN_P1]; exact hN
  have pl := plOf_le (F := D.1.1) (n := D.1.2.1) (i := D.1.2.1)
  have el := endsA_le (F := D.1.1) (n := D.1.2.1) (i := D.1.2.1)
  have pl2 := pl.2 e1
  have el2 := el.2 e1
  have hcc : σ.1 110 (3011 : Int).toNat = D.2.1.1 := hN.2.1.1
  refine con_in32 fun hi => ?_
  unfold ixOld
  have key : ∀ (m : Nat) (b : Nat × Nat) (u l : Int), 0 ≤ u → u + m = D.1.2.1 → l ≤ 2147483647 → 0 ≤ l → Go (fun _ => 0) 1 mX10_old b 4 [vA 109, vI i, vI l, vI u] [] σ (vI (scan (oldB D.1.1 D.1.2.1) m u l), σ) := by
    intro m
    induction m with
    | zero =>
      intro b u l h0 h1 h3 h4
      refine go_iload_n (at_of tX10_old 0 4 rfl) rfl ?_
      refine go_aload_n (at_of tX10_old 0 5 rfl) rfl ?_
      refine go_cV (m_many hS hN.1) lk_X10_110 rfl G_109 (at_of tX10_old 0 6 rfl) rfl (by decide) rfl (Nat.le_of_ble_eq_true rfl) rfl (by first | decide | exact ⟨Nat.zero_le _, Nat.zero_le _⟩) ?_
      refine go_icmp_ge (tgt := 52) (at_of tX10_old 0 7 rfl) (by decide) (fun h9 => ?_) (fun h9 => ?_)
      rotate_left
      · exfalso; omega
      refine go_iconst (at_of tX10_old 2 0 rfl) (by unfold in32; omega) ?_
      exact go_reti (at_of tX10_old 2 1 rfl) (by rw [scan])
    | succ m ih =>
      intro b u l h0 h1 h3 h4
      rw [scan]
      have ob : oldB D.1.1 D.1.2.1 u = true ↔ D.1.1 2 u = -1 := by unfold oldB; rw [decide_eq_true_eq]; omega
      by_cases hs : D.1.1 2 u = -1
      · rw [if_pos (ob.mpr hs)]
        by_cases hl0 : l = 0
        · rw [if_pos hl0]
          refine go_iload_n (at_of tX10_old 0 4 rfl) rfl ?_
          refine go_aload_n (at_of tX10_old 0 5 rfl) rfl ?_
          refine go_cV (m_many hS hN.1) lk_X10_110 rfl G_109 (at_of tX10_old 0 6 rfl) rfl (by decide) rfl (Nat.le_of_ble_eq_true rfl) rfl (by first | decide | exact ⟨Nat.zero_le _, Nat.zero_le _⟩) ?_
          refine go_icmp_ge (tgt := 52) (at_of tX10_old 0 7 rfl) (by decide) (fun h9 => ?_) (fun h9 => ?_)
          · exfalso; omega
          refine go_aload_n (at_of tX10_old 0 8 rfl) rfl ?_
          refine go_iload_n (at_of tX10_old 0 9 rfl) rfl ?_
          refine go_iconst (at_of tX10_old 0 10 rfl) (by unfold in32; omega) ?_
          refine go_cV (m_at1 hS hN.1 (by omega)) lk_X10_106 rfl G_109 (at_of tX10_old 0 11 rfl) rfl (by decide) rfl (Nat.le_of_ble_eq_true rfl) rfl (by first | decide | exact ⟨Nat.zero_le _, Nat.zero_le _⟩) ?_
          refine go_iconst (at_of tX10_old 0 12 rfl) (by unfold in32; omega) ?_
          refine go_icmp_ne (tgt := 28) (at_of tX10_old 0 13 rfl) (by decide) (fun h19 => ?_) (fun h19 => ?_)
          · exfalso; omega
          refine go_iload_n (at_of tX10_old 0 14 rfl) rfl ?_
          refine go_if_ne (tgt := 28) (at_of tX10_old 0 15 rfl) (by decide) (fun h23 => ?_) (fun h23 => ?_)
          · exfalso; omega
          refine go_iload_n (at_of tX10_old 1 0 rfl) rfl ?_
          first | exact go_reti (at_of tX10_old 1 1 rfl) rfl | exact go_reti (at_of tX10_old 1 1 rfl) (le_i (by omega)) | exact go_reti (at_of tX10_old 1 1 rfl) (le_i (by first | exact bI_t (by omega) | exact bI_f (by omega)))
        · rw [if_neg hl0]
          refine go_iload_n (at_of tX10_old 0 4 rfl) rfl ?_
          refine go_aload_n (at_of tX10_old 0 5 rfl) rfl ?_
          refine go_cV (m_many hS hN.1) lk_X10_110 rfl G_109 (at_of tX10_old 0 6 rfl) rfl (by decide) rfl (Nat.le_of_ble_eq_true rfl) rfl (by first | decide | exact ⟨Nat.zero_le _, Nat.zero_le _⟩) ?_
          refine go_icmp_ge (tgt := 52) (at_of tX10_old 0 7 rfl) (by decide) (fun h9 => ?_) (fun h9 => ?_)
          · exfalso; omega
          refine go_aload_n (at_of tX10_old 0 8 rfl) rfl ?_
          refine go_iload_n (at_of tX10_old 0 9 rfl) rfl ?_
          refine go_iconst (at_of tX10_old 0 10 rfl) (by unfold in32; omega) ?_
          refine go_cV (m_at1 hS hN.1 (by omega)) lk_X10_106 rfl G_109 (at_of tX10_old 0 11 rfl) rfl (by decide) rfl (Nat.le_of_ble_eq_true rfl) rfl (by first | decide | exact ⟨Nat.zero_le _, Nat.zero_le _⟩) ?_
          refine go_iconst (at_of tX10_old 0 12 rfl) (by unfold in32; omega) ?_
          refine go_icmp_ne (tgt := 28) (at_of tX10_old 0 13 rfl) (by decide) (fun h19 => ?_) (fun h19 => ?_)
          · exfalso; omega
          refine go_iload_n (at_of tX10_old 0 14 rfl) rfl ?_
          refine go_if_ne (tgt := 28) (at_of tX10_old 0 15 rfl) (by decide) (fun h23 => ?_) (fun h23 => ?_)
          rotate_left
          · exfalso; omega
          refine go_iload_n (at_of tX10_old 1 2 rfl) rfl ?_
          refine go_aload_n (at_of tX10_old 1 3 rfl) rfl ?_
          refine go_iload_n (at_of tX10_old 1 4 rfl) rfl ?_
          refine go_iconst (at_of tX10_old 1 5 rfl) (by unfold in32; omega) ?_
          refine go_cV (m_at1 hS hN.1 (by omega)) lk_X10_106 rfl G_109 (at_of tX10_old 1 6 rfl) rfl (by decide) rfl (Nat.le_of_ble_eq_true rfl) rfl (by first | decide | exact ⟨Nat.zero_le _, Nat.zero_le _⟩) ?_
          refine go_iconst (at_of tX10_old 1 7 rfl) (by unfold in32; omega) ?_
          refine go_icmp_ne (tgt := 43) (at_of tX10_old 1 8 rfl) (by decide) (fun h36 => ?_) (fun h36 => ?_)
          · exfalso; omega
          refine go_iconst (at_of tX10_old 1 9 rfl) (by unfold in32; omega) ?_
          refine go_goto (tgt := 44) (at_of tX10_old 1 10 rfl) (by decide) ?_
          refine go_isub (at_of tX10_old 1 12 rfl) (by unfold in32; omega) ?_
          refine go_istore_n (at_of tX10_old 1 13 rfl) rfl rfl ?_
          refine go_iinc (at_of tX10_old 1 14 rfl) rfl (by unfold in32; omega) rfl rfl ?_
          refine go_goto (tgt := 4) (at_of tX10_old 1 15 rfl) (by decide) ?_
          exact ih _ _ _ (by omega) (by omega) (by omega) (by omega)
      · rw [if_neg (fun q => hs (ob.mp q))]
        refine go_iload_n (at_of tX10_old 0 4 rfl) rfl ?_
        refine go_aload_n (at_of tX10_old 0 5 rfl) rfl ?_
        refine go_cV (m_many hS hN.1) lk_X10_110 rfl G_109 (at_of tX10_old 0 6 rfl) rfl (by decide) rfl (Nat.le_of_ble_eq_true rfl) rfl (by first | decide | exact ⟨Nat.zero_le _, Nat.zero_le _⟩) ?_
        refine go_icmp_ge (tgt := 52) (at_of tX10_old 0 7 rfl) (by decide) (fun h9 => ?_) (fun h9 => ?_)
        · exfalso; omega
        refine go_aload_n (at_of tX10_old 0 8 rfl) rfl ?_
        refine go_iload_n (at_of tX10_old 0 9 rfl) rfl ?_
        refine go_iconst (at_of tX10_old 0 10 rfl) (by unfold in32; omega) ?_
        refine go_cV (m_at1 hS hN.1 (by omega)) lk_X10_106 rfl G_109 (at_of tX10_old 0 11 rfl) rfl (by decide) rfl (Nat.le_of_ble_eq_true rfl) rfl (by first | decide | exact ⟨Nat.zero_le _, Nat.zero_le _⟩) ?_
        refine go_iconst (at_of tX10_old 0 12 rfl) (by unfold in32; omega) ?_
        refine go_icmp_ne (tgt := 28) (at_of tX10_old 0 13 rfl) (by decide) (fun h19 => ?_) (fun h19 => ?_)
        rotate_left
        · exfalso; omega
        refine go_iload_n (at_of tX10_old 1 2 rfl) rfl ?_
        refine go_aload_n (at_of tX10_old 1 3 rfl) rfl ?_
        refine go_iload_n (at_of tX10_old 1 4 rfl) rfl ?_
        refine go_iconst (at_of tX10_old 1 5 rfl) (by unfold in32; omega) ?_
        refine go_cV (m_at1 hS hN.1 (by omega)) lk_X10_106 rfl G_109 (at_of tX10_old 1 6 rfl) rfl (by decide) rfl (Nat.le_of_ble_eq_true rfl) rfl (by first | decide | exact ⟨Nat.zero_le _, Nat.zero_le _⟩) ?_
        refine go_iconst (at_of tX10_old 1 7 rfl) (by unfold in32; omega) ?_
        refine go_icmp_ne (tgt := 43) (at_of tX10_old 1 8 rfl) (by decide) (fun h36 => ?_) (fun h36 => ?_)
        rotate_left
        · exfalso; omega
        refine go_iconst (at_of tX10_old 1 11 rfl) (by unfold in32; omega) ?_
        refine go_isub (at_of tX10_old 1 12 rfl) (by unfold in32; omega) ?_
        refine go_istore_n (at_of tX10_old 1 13 rfl) rfl rfl ?_
        refine go_iinc (at_of tX10_old 1 14 rfl) rfl (by unfold in32; omega) rfl rfl ?_
        refine go_goto (tgt := 4) (at_of tX10_old 1 15 rfl) (by decide) ?_
        have e0 : l - 0 = l := Int.sub_zero l
        rw [show scan (oldB D.1.1 D.1.2.1) m (u + 1) l = scan (oldB D.1.1 D.1.2.1) m (u + 1) (l - 0) by rw [e0]]
        exact ih _ _ _ (by omega) (by omega) (by omega) (by omega)
  refine con_of_go mfX10_old.1 trivial (Nat.le_of_ble_eq_true rfl) rfl (by decide) ?_
  show Go _ _ _ _ 0 [vA _, vI _, vT 9 0, vT 9 0] [] _ _
  refine go_iload_n (at_of tX10_old 0 0 rfl) rfl ?_
  refine go_istore_n (at_of tX10_old 0 1 rfl) rfl rfl ?_
  refine go_iconst (at_of tX10_old 0 2 rfl) (by unfold in32; omega) ?_
  refine go_istore_n (at_of tX10_old 0 3 rfl) rfl rfl ?_
  exact key D.1.2.1.toNat _ 0 i (by omega) (by omega) (by have := hi i (by simp); unfold in32 at this; omega) (by omega)
theorem m_length (hS : Str σ.2.1) {D : PapD} (hN : RepN (cN σ) D) (hW : WfM D) : Con 3 mX10_length 0 0 [vA 109] σ (vI (plOf D.1.1 D.1.2.1 D.1.2.1), P1 σ 109 0 0) := by
  obtain ⟨hE, hSg, hMk, hRw⟩ := id hW
  obtain ⟨e1, e2, e3, e4⟩ := id hE
  obtain ⟨b1, b2, b3, b4⟩ := id hN.2.2.2
  have hn2 := hN.1.2.1
  have hl := hN.2.1.2
  have hS1 : Str (P1 σ 109 0 0).2.1 := hS
  have hN1 : RepN (cN (P1 σ 109 0 0)) D := by rw [cN_P1]; exact hN
  have pl := plOf_le (F := D.1.1) (n := D.1.2.1) (i := D.1.2.1)
  have el := endsA_le (F := D.1.1) (n := D.1.2.1) (i := D.1.2.1)
  have pl2 := pl.2 e1
  have el2 := el.2 e1
  have hcc : σ.1 110 (3011 : Int).toNat = D.2.1.1 := hN.2.1.1
  refine con_of_go mfX10_length.1 trivial (Nat.le_of_ble_eq_true rfl) rfl (by decide) ?_
  show Go _ _ _ _ 0 [vA _] [] _ _
  refine go_aload_n (at_of tX10_length 0 0 rfl) rfl ?_
  refine go_iconst (at_of tX10_length 0 1 rfl) (by unfold in32; omega) ?_
  refine go_put1 fp_X10_103 rfl (Or.inl rfl) G_109 (Or.inl rfl) (at_of tX10_length 0 2 rfl) ?_
  refine go_aload_n (at_of tX10_length 0 3 rfl) rfl ?_
  refine go_cV (m_seen hS1 hN1.1 hE hSg) lk_X10_128 rfl G_109 (at_of tX10_length 0 4 rfl) rfl (by decide) rfl (Nat.le_of_ble_eq_true rfl) rfl (by first | decide | exact ⟨Nat.zero_le _, Nat.zero_le _⟩) ?_
  first | exact go_reti (at_of tX10_length 0 5 rfl) rfl | exact go_reti (at_of tX10_length 0 5 rfl) (le_i (by omega)) | exact go_reti (at_of tX10_length 0 5 rfl) (le_i (by first | exact bI_t (by omega) | exact bI_f (by omega)))
theorem m_paragraphs (hS : Str σ.2.1) {D : PapD} (hN : RepN (cN σ) D) (hW : WfM D) : Con 3 mX10_paragraphs 0 0 [vA 109] σ (vI (endsA D.1.1 D.1.2.1 D.1.2.1 + 1), P1 σ 109 0 0) := by
  obtain ⟨hE, hSg, hMk, hRw⟩ := id hW
  obtain ⟨e1, e2, e3, e4⟩ := id hE
  obtain ⟨b1, b2, b3, b4⟩ := id hN.2.2.2
  have hn2 := hN.1.2.1
  have hl := hN.2.1.2
  have hS1 : Str (P1 σ 109 0 0).2.1 := hS
  have hN1 : RepN (cN (P1 σ 109 0 0)) D := by rw [cN_P1]; exact hN
  have pl := plOf_le (F := D.1.1) (n := D.1.2.1) (i := D.1.2.1)
  have el := endsA_le (F := D.1.1) (n := D.1.2.1) (i := D.1.2.1)
  have pl2 := pl.2 e1
  have el2 := el.2 e1
  have hcc : σ.1 110 (3011 : Int).toNat = D.2.1.1 := hN.2.1.1
  refine con_of_go mfX10_paragraphs.1 trivial (Nat.le_of_ble_eq_true rfl) rfl (by decide) ?_
  show Go _ _ _ _ 0 [vA _] [] _ _
  refine go_aload_n (at_of tX10_paragraphs 0 0 rfl) rfl ?_
  refine go_iconst (at_of tX10_paragraphs 0 1 rfl) (by unfold in32; omega) ?_
  refine go_put1 fp_X10_103 rfl (Or.inl rfl) G_109 (Or.inl rfl) (at_of tX10_paragraphs 0 2 rfl) ?_
  refine go_aload_n (at_of tX10_paragraphs 0 3 rfl) rfl ?_
  refine go_cV (m_paragraphsNow hS1 hN1.1 hE hSg) lk_X10_121 rfl G_109 (at_of tX10_paragraphs 0 4 rfl) rfl (by decide) rfl (Nat.le_of_ble_eq_true rfl) rfl (by first | decide | exact ⟨Nat.zero_le _, Nat.zero_le _⟩) ?_
  first | exact go_reti (at_of tX10_paragraphs 0 5 rfl) rfl | exact go_reti (at_of tX10_paragraphs 0 5 rfl) (le_i (by omega)) | exact go_reti (at_of tX10_paragraphs 0 5 rfl) (le_i (by first | exact bI_t (by omega) | exact bI_f (by omega)))
theorem m_changes (hS : Str σ.2.1) {D : PapD} (hN : RepN (cN σ) D) (hW : WfM D) : Con 0 mX10_changes 0 0 [vA 109] σ (vI D.2.1.1, P1 σ 109 0 0) := by
  obtain ⟨hE, hSg, hMk, hRw⟩ := id hW
  obtain ⟨e1, e2, e3, e4⟩ := id hE
  obtain ⟨b1, b2, b3, b4⟩ := id hN.2.2.2
  have hn2 := hN.1.2.1
  have hl := hN.2.1.2
  have hS1 : Str (P1 σ 109 0 0).2.1 := hS
  have hN1 : RepN (cN (P1 σ 109 0 0)) D := by rw [cN_P1]; exact hN
  have pl := plOf_le (F := D.1.1) (n := D.1.2.1) (i := D.1.2.1)
  have el := endsA_le (F := D.1.1) (n := D.1.2.1) (i := D.1.2.1)
  have pl2 := pl.2 e1
  have el2 := el.2 e1
  have hcc : σ.1 110 (3011 : Int).toNat = D.2.1.1 := hN.2.1.1
  refine con_of_go mfX10_changes.1 trivial (Nat.le_of_ble_eq_true rfl) rfl (by decide) ?_
  show Go _ _ _ _ 0 [vA _] [] _ _
  refine go_aload_n (at_of tX10_changes 0 0 rfl) rfl ?_
  refine go_iconst (at_of tX10_changes 0 1 rfl) (by unfold in32; omega) ?_
  refine go_put1 fp_X10_103 rfl (Or.inl rfl) G_109 (Or.inl rfl) (at_of tX10_changes 0 2 rfl) ?_
  refine go_aload_n (at_of tX10_changes 0 3 rfl) rfl ?_
  refine go_getr (q := 110) fl_X10_7 rfl G_109 (by first | exact (hS _ _ rfl).trans rfl | exact (hS1 _ _ rfl).trans rfl | exact (hS2 _ _ rfl).trans rfl | exact (hS3 _ _ rfl).trans rfl | exact (hS4 _ _ rfl).trans rfl) (at_of tX10_changes 0 4 rfl) ?_
  refine go_sipush (at_of tX10_changes 0 5 rfl) (by decide) ?_
  refine go_iald G_110 (by omega) (by omega) (at_of tX10_changes 0 6 rfl) ?_
  exact go_reti (at_of tX10_changes 0 7 rfl) (le_i (by rw [P1_ne (by omega)]; exact hcc.symm))
theorem m_unitAt_no (hS : Str σ.2.1) {D : PapD} (hN : RepN (cN σ) D) (hW : WfM D) {p : Int} (h : ¬ (0 ≤ p ∧ p < plOf D.1.1 D.1.2.1 D.1.2.1)) : Con 3 mX10_unitAt 0 0 [vA 109, vI p] σ (vI 0, P1 σ 109 0 1) := by
  obtain ⟨hE, hSg, hMk, hRw⟩ := id hW
  obtain ⟨e1, e2, e3, e4⟩ := id hE
  obtain ⟨b1, b2, b3, b4⟩ := id hN.2.2.2
  have hn2 := hN.1.2.1
  have hl := hN.2.1.2
  have hS1 : Str (P1 σ 109 0 0).2.1 := hS
  have hN1 : RepN (cN (P1 σ 109 0 0)) D := by rw [cN_P1]; exact hN
  have pl := plOf_le (F := D.1.1) (n := D.1.2.1) (i := D.1.2.1)
  have el := endsA_le (F := D.1.1) (n := D.1.2.1) (i := D.1.2.1)
  have pl2 := pl.2 e1
  have el2 := el.2 e1
  have hcc : σ.1 110 (3011 : Int).toNat = D.2.1.1 := hN.2.1.1
  refine con_of_go mfX10_unitAt.1 ⟨by omega, by omega⟩ (Nat.le_of_ble_eq_true rfl) rfl (by decide) ?_
  show Go _ _ _ _ 0 [vA _, vI _] [] _ _
  refine go_aload_n (at_of tX10_unitAt 0 0 rfl) rfl ?_
  refine go_iload_n (at_of tX10_unitAt 0 1 rfl) rfl ?_
  refine go_iconst (at_of tX10_unitAt 0 2 rfl) (by unfold in32; omega) ?_
  refine go_aload_n (at_of tX10_unitAt 0 3 rfl) rfl ?_
  refine go_cV (m_seen hS hN.1 hE hSg) lk_X10_128 rfl G_109 (at_of tX10_unitAt 0 4 rfl) rfl (by decide) rfl (Nat.le_of_ble_eq_true rfl) rfl (by first | decide | exact ⟨Nat.zero_le _, Nat.zero_le _⟩) ?_
  refine go_iconst (at_of tX10_unitAt 0 5 rfl) (by unfold in32; omega) ?_
  refine go_isub (at_of tX10_unitAt 0 6 rfl) (by unfold in32; omega) ?_
  refine go_cS (m_in) lk_X10_124 rfl (at_of tX10_unitAt 0 7 rfl) rfl (by decide) rfl (Nat.le_of_ble_eq_true rfl) rfl (by first | decide | exact ⟨Nat.zero_le _, Nat.zero_le _⟩) ?_
  refine go_if_eq (tgt := 19) (at_of tX10_unitAt 0 8 rfl) (by decide) (fun h12 => ?_) (fun h12 => ?_)
  rotate_left
  · exfalso; exact h (by have := bI_1.mp h12; omega)
  refine go_iconst (at_of tX10_unitAt 0 11 rfl) (by unfold in32; omega) ?_
  refine go_cV (m_goesOn) lk_X10_141 rfl G_109 (at_of tX10_unitAt 0 12 rfl) rfl (by decide) rfl (Nat.le_of_ble_eq_true rfl) rfl (by first | decide | exact ⟨Nat.zero_le _, Nat.zero_le _⟩) ?_
  refine go_if_eq (tgt := 42) (at_of tX10_unitAt 0 13 rfl) (by decide) (fun h23 => ?_) (fun h23 => ?_)
  rotate_left
  · exfalso; exact h23 (bI_f (by decide))
  refine go_iconst (at_of tX10_unitAt 1 6 rfl) (by unfold in32; omega) ?_
  first | exact go_reti (at_of tX10_unitAt 1 7 rfl) rfl | exact go_reti (at_of tX10_unitAt 1 7 rfl) (le_i (by omega)) | exact go_reti (at_of tX10_unitAt 1 7 rfl) (le_i (by first | exact bI_t (by omega) | exact bI_f (by omega)))
theorem m_unitAt (hS : Str σ.2.1) {D : PapD} (hN : RepN (cN σ) D) (hW : WfM D) {p : Int} (h : 0 ≤ p ∧ p < plOf D.1.1 D.1.2.1 D.1.2.1) : Con 3 mX10_unitAt 0 0 [vA 109, vI p] σ (vI (if 1000 ≤ mk0 D.1 (ixOf D.1.1 D.1.2.1 p) then 64 else mk0 D.1 (ixOf D.1.1 D.1.2.1 p) % 65536), P1 σ 109 0 0) := by
  obtain ⟨hE, hSg, hMk, hRw⟩ := id hW
  obtain ⟨e1, e2, e3, e4⟩ := id hE
  obtain ⟨b1, b2, b3, b4⟩ := id hN.2.2.2
  have hn2 := hN.1.2.1
  have hl := hN.2.1.2
  have hS1 : Str (P1 σ 109 0 0).2.1 := hS
  have hN1 : RepN (cN (P1 σ 109 0 0)) D := by rw [cN_P1]; exact hN
  have pl := plOf_le (F := D.1.1) (n := D.1.2.1) (i := D.1.2.1)
  have el := endsA_le (F := D.1.1) (n := D.1.2.1) (i := D.1.2.1)
  have pl2 := pl.2 e1
  have el2 := el.2 e1
  have hcc : σ.1 110 (3011 : Int).toNat = D.2.1.1 := hN.2.1.1
  obtain ⟨u1, u2, u3, u4⟩ := place_ix hE h.1 (by omega)
  refine con_of_go mfX10_unitAt.1 ⟨by split <;> omega, by split <;> omega⟩ (Nat.le_of_ble_eq_true rfl) rfl (by decide) ?_
  show Go _ _ _ _ 0 [vA _, vI _] [] _ _
  refine go_aload_n (at_of tX10_unitAt 0 0 rfl) rfl ?_
  refine go_iload_n (at_of tX10_unitAt 0 1 rfl) rfl ?_
  refine go_iconst (at_of tX10_unitAt 0 2 rfl) (by unfold in32; omega) ?_
  refine go_aload_n (at_of tX10_unitAt 0 3 rfl) rfl ?_
  refine go_cV (m_seen hS hN.1 hE hSg) lk_X10_128 rfl G_109 (at_of tX10_unitAt 0 4 rfl) rfl (by decide) rfl (Nat.le_of_ble_eq_true rfl) rfl (by first | decide | exact ⟨Nat.zero_le _, Nat.zero_le _⟩) ?_
  refine go_iconst (at_of tX10_unitAt 0 5 rfl) (by unfold in32; omega) ?_
  refine go_isub (at_of tX10_unitAt 0 6 rfl) (by unfold in32; omega) ?_
  refine go_cS (m_in) lk_X10_124 rfl (at_of tX10_unitAt 0 7 rfl) rfl (by decide) rfl (Nat.le_of_ble_eq_true rfl) rfl (by first | decide | exact ⟨Nat.zero_le _, Nat.zero_le _⟩) ?_
  refine go_if_eq (tgt := 19) (at_of tX10_unitAt 0 8 rfl) (by decide) (fun h12 => ?_) (fun h12 => ?_)
  · exfalso; exact bI_0.mp h12 (by omega)
  refine go_iconst (at_of tX10_unitAt 0 9 rfl) (by unfold in32; omega) ?_
  refine go_goto (tgt := 20) (at_of tX10_unitAt 0 10 rfl) (by decide) ?_
  refine go_cV (m_goesOn) lk_X10_141 rfl G_109 (at_of tX10_unitAt 0 12 rfl) rfl (by decide) rfl (Nat.le_of_ble_eq_true rfl) rfl (by first | decide | exact ⟨Nat.zero_le _, Nat.zero_le _⟩) ?_
  refine go_if_eq (tgt := 42) (at_of tX10_unitAt 0 13 rfl) (by decide) (fun h23 => ?_) (fun h23 => ?_)
  · exfalso; exact absurd h23 (by rw [bI_t rfl]; decide)
  refine go_aload_n (at_of tX10_unitAt 0 14 rfl) rfl ?_
  refine go_aload_n (at_of tX10_unitAt 0 15 rfl) rfl ?_
  refine go_iload_n (at_of tX10_unitAt 1 0 rfl) rfl ?_
  refine go_cV (m_unitOf hS1 hN1.1 hE hSg (by omega) (by omega)) lk_X10_157 rfl G_109 (at_of tX10_unitAt 1 1 rfl) rfl (by decide) rfl (Nat.le_of_ble_eq_true rfl) rfl (by first | decide | exact ⟨Nat.zero_le _, Nat.zero_le _⟩) ?_
  refine go_iconst (at_of tX10_unitAt 1 2 rfl) (by unfold in32; omega) ?_
  refine go_cV (m_at0 hS1 hN1.1 (by omega)) lk_X10_106 rfl G_109 (at_of tX10_unitAt 1 3 rfl) rfl (by decide) rfl (Nat.le_of_ble_eq_true rfl) rfl (by first | decide | exact ⟨Nat.zero_le _, Nat.zero_le _⟩) ?_
  refine go_cS (m_told) lk_X10_206 rfl (at_of tX10_unitAt 1 4 rfl) rfl (by decide) rfl (Nat.le_of_ble_eq_true rfl) rfl (by first | decide | exact ⟨Nat.zero_le _, Nat.zero_le _⟩) ?_
  refine go_goto (tgt := 43) (at_of tX10_unitAt 1 5 rfl) (by decide) ?_
  first | exact go_reti (at_of tX10_unitAt 1 7 rfl) rfl | exact go_reti (at_of tX10_unitAt 1 7 rfl) (le_i (by omega)) | exact go_reti (at_of tX10_unitAt 1 7 rfl) (le_i (by first | exact bI_t (by omega) | exact bI_f (by omega)))
theorem m_paragraphOf_no (hS : Str σ.2.1) {D : PapD} (hN : RepN (cN σ) D) (hW : WfM D) {p : Int} (h : ¬ (0 ≤ p ∧ p ≤ plOf D.1.1 D.1.2.1 D.1.2.1)) : Con 4 mX10_paragraphOf 0 0 [vA 109, vI p] σ (vI 0, P1 σ 109 0 1) := by
  obtain ⟨hE, hSg, hMk, hRw⟩ := id hW
  obtain ⟨e1, e2, e3, e4⟩ := id hE
  obtain ⟨b1, b2, b3, b4⟩ := id hN.2.2.2
  have hn2 := hN.1.2.1
  have hl := hN.2.1.2
  have hS1 : Str (P1 σ 109 0 0).2.1 := hS
  have hN1 : RepN (cN (P1 σ 109 0 0)) D := by rw [cN_P1]; exact hN
  have pl := plOf_le (F := D.1.1) (n := D.1.2.1) (i := D.1.2.1)
  have el := endsA_le (F := D.1.1) (n := D.1.2.1) (i := D.1.2.1)
  have pl2 := pl.2 e1
  have el2 := el.2 e1
  have hcc : σ.1 110 (3011 : Int).toNat = D.2.1.1 := hN.2.1.1
  refine con_of_go mfX10_paragraphOf.1 trivial (Nat.le_of_ble_eq_true rfl) rfl (by decide) ?_
  show Go _ _ _ _ 0 [vA _, vI _] [] _ _
  refine go_aload_n (at_of tX10_paragraphOf 0 0 rfl) rfl ?_
  refine go_aload_n (at_of tX10_paragraphOf 0 1 rfl) rfl ?_
  refine go_iload_n (at_of tX10_paragraphOf 0 2 rfl) rfl ?_
  refine go_cV (m_isPlace hS hN.1 hE hSg) lk_X10_154 rfl G_109 (at_of tX10_paragraphOf 0 3 rfl) rfl (by decide) rfl (Nat.le_of_ble_eq_true rfl) rfl (by first | decide | exact ⟨Nat.zero_le _, Nat.zero_le _⟩) ?_
  refine go_if_eq (tgt := 13) (at_of tX10_paragraphOf 0 4 rfl) (by decide) (fun h6 => ?_) (fun h6 => ?_)
  rotate_left
  · exfalso; exact h (bI_1.mp h6)
  refine go_iconst (at_of tX10_paragraphOf 0 7 rfl) (by unfold in32; omega) ?_
  refine go_cV (m_goesOn) lk_X10_141 rfl G_109 (at_of tX10_paragraphOf 0 8 rfl) rfl (by decide) rfl (Nat.le_of_ble_eq_true rfl) rfl (by first | decide | exact ⟨Nat.zero_le _, Nat.zero_le _⟩) ?_
  refine go_if_eq (tgt := 28) (at_of tX10_paragraphOf 0 9 rfl) (by decide) (fun h17 => ?_) (fun h17 => ?_)
  rotate_left
  · exfalso; exact h17 (bI_f (by decide))
  refine go_iconst (at_of tX10_paragraphOf 0 14 rfl) (by unfold in32; omega) ?_
  first | exact go_reti (at_of tX10_paragraphOf 0 15 rfl) rfl | exact go_reti (at_of tX10_paragraphOf 0 15 rfl) (le_i (by omega)) | exact go_reti (at_of tX10_paragraphOf 0 15 rfl) (le_i (by first | exact bI_t (by omega) | exact bI_f (by omega)))
theorem m_paragraphOf (hS : Str σ.2.1) {D : PapD} (hN : RepN (cN σ) D) (hW : WfM D) {p : Int} (h : 0 ≤ p ∧ p ≤ plOf D.1.1 D.1.2.1 D.1.2.1) : Con 4 mX10_paragraphOf 0 0 [vA 109, vI p] σ (vI (endsA D.1.1 D.1.2.1 (ixOf D.1.1 D.1.2.1 p)), P1 σ 109 0 0) := by
  obtain ⟨hE, hSg, hMk, hRw⟩ := id hW
  obtain ⟨e1, e2, e3, e4⟩ := id hE
  obtain ⟨b1, b2, b3, b4⟩ := id hN.2.2.2
  have hn2 := hN.1.2.1
  have hl := hN.2.1.2
  have hS1 : Str (P1 σ 109 0 0).2.1 := hS
  have hN1 : RepN (cN (P1 σ 109 0 0)) D := by rw [cN_P1]; exact hN
  have pl := plOf_le (F := D.1.1) (n := D.1.2.1) (i := D.1.2.1)
  have el := endsA_le (F := D.1.1) (n := D.1.2.1) (i := D.1.2.1)
  have pl2 := pl.2 e1
  have el2 := el.2 e1
  have hcc : σ.1 110 (3011 : Int).toNat = D.2.1.1 := hN.2.1.1
  refine con_of_go mfX10_paragraphOf.1 trivial (Nat.le_of_ble_eq_true rfl) rfl (by decide) ?_
  show Go _ _ _ _ 0 [vA _, vI _] [] _ _
  refine go_aload_n (at_of tX10_paragraphOf 0 0 rfl) rfl ?_
  refine go_aload_n (at_of tX10_paragraphOf 0 1 rfl) rfl ?_
  refine go_iload_n (at_of tX10_paragraphOf 0 2 rfl) rfl ?_
  refine go_cV (m_isPlace hS hN.1 hE hSg) lk_X10_154 rfl G_109 (at_of tX10_paragraphOf 0 3 rfl) rfl (by decide) rfl (Nat.le_of_ble_eq_true rfl) rfl (by first | decide | exact ⟨Nat.zero_le _, Nat.zero_le _⟩) ?_
  refine go_if_eq (tgt := 13) (at_of tX10_paragraphOf 0 4 rfl) (by decide) (fun h6 => ?_) (fun h6 => ?_)
  · exfalso; exact bI_0.mp h6 h
  refine go_iconst (at_of tX10_paragraphOf 0 5 rfl) (by unfold in32; omega) ?_
  refine go_goto (tgt := 14) (at_of tX10_paragraphOf 0 6 rfl) (by decide) ?_
  refine go_cV (m_goesOn) lk_X10_141 rfl G_109 (at_of tX10_paragraphOf 0 8 rfl) rfl (by decide) rfl (Nat.le_of_ble_eq_true rfl) rfl (by first | decide | exact ⟨Nat.zero_le _, Nat.zero_le _⟩) ?_
  refine go_if_eq (tgt := 28) (at_of tX10_paragraphOf 0 9 rfl) (by decide) (fun h17 => ?_) (fun h17 => ?_)
  · exfalso; exact absurd h17 (by rw [bI_t rfl]; decide)
  refine go_aload_n (at_of tX10_paragraphOf 0 10 rfl) rfl ?_
  refine go_iload_n (at_of tX10_paragraphOf 0 11 rfl) rfl ?_
  refine go_cV (m_paragraphAt hS1 hN1 hW (by omega) (by omega)) lk_X10_194 rfl G_109 (at_of tX10_paragraphOf 0 12 rfl) rfl (by decide) rfl (Nat.le_of_ble_eq_true rfl) rfl (by first | decide | exact ⟨Nat.zero_le _, Nat.zero_le _⟩) ?_
  refine go_goto (tgt := 29) (at_of tX10_paragraphOf 0 13 rfl) (by decide) ?_
  first | exact go_reti (at_of tX10_paragraphOf 0 15 rfl) rfl | exact go_reti (at_of tX10_paragraphOf 0 15 rfl) (le_i (by omega)) | exact go_reti (at_of tX10_paragraphOf 0 15 rfl) (le_i (by first | exact bI_t (by omega) | exact bI_f (by omega)))
theorem m_startOf_no (hS : Str σ.2.1) {D : PapD} (hN : RepN (cN σ) D) (hW : WfM D) {p : Int} (h : ¬ (0 ≤ p ∧ p ≤ endsA D.1.1 D.1.2.1 D.1.2.1)) : Con 4 mX10_startOf 0 0 [vA 109, vI p] σ (vI 0, P1 σ 109 0 1) := by
  obtain ⟨hE, hSg, hMk, hRw⟩ := id hW
  obtain ⟨e1, e2, e3, e4⟩ := id hE
  obtain ⟨b1, b2, b3, b4⟩ := id hN.2.2.2
  have hn2 := hN.1.2.1
  have hl := hN.2.1.2
  have hS1 : Str (P1 σ 109 0 0).2.1 := hS
  have hN1 : RepN (cN (P1 σ 109 0 0)) D := by rw [cN_P1]; exact hN
  have pl := plOf_le (F := D.1.1) (n := D.1.2.1) (i := D.1.2.1)
  have el := endsA_le (F := D.1.1) (n := D.1.2.1) (i := D.1.2.1)
  have pl2 := pl.2 e1
  have el2 := el.2 e1
  have hcc : σ.1 110 (3011 : Int).toNat = D.2.1.1 := hN.2.1.1
  refine con_of_go mfX10_startOf.1 trivial (Nat.le_of_ble_eq_true rfl) rfl (by decide) ?_
  show Go _ _ _ _ 0 [vA _, vI _] [] _ _
  refine go_aload_n (at_of tX10_startOf 0 0 rfl) rfl ?_
  refine go_aload_n (at_of tX10_startOf 0 1 rfl) rfl ?_
  refine go_iload_n (at_of tX10_startOf 0 2 rfl) rfl ?_
  refine go_cV (m_isParagraph hS hN.1 hE hSg) lk_X10_203 rfl G_109 (at_of tX10_startOf 0 3 rfl) rfl (by decide) rfl (Nat.le_of_ble_eq_true rfl) rfl (by first | decide | exact ⟨Nat.zero_le _, Nat.zero_le _⟩) ?_
  refine go_if_eq (tgt := 13) (at_of tX10_startOf 0 4 rfl) (by decide) (fun h6 => ?_) (fun h6 => ?_)
  rotate_left
  · exfalso; exact h (bI_1.mp h6)
  refine go_iconst (at_of tX10_startOf 0 7 rfl) (by unfold in32; omega) ?_
  refine go_cV (m_goesOn) lk_X10_141 rfl G_109 (at_of tX10_startOf 0 8 rfl) rfl (by decide) rfl (Nat.le_of_ble_eq_true rfl) rfl (by first | decide | exact ⟨Nat.zero_le _, Nat.zero_le _⟩) ?_
  refine go_if_eq (tgt := 28) (at_of tX10_startOf 0 9 rfl) (by decide) (fun h17 => ?_) (fun h17 => ?_)
  rotate_left
  · exfalso; exact h17 (bI_f (by decide))
  refine go_iconst (at_of tX10_startOf 0 14 rfl) (by unfold in32; omega) ?_
  first | exact go_reti (at_of tX10_startOf 0 15 rfl) rfl | exact go_reti (at_of tX10_startOf 0 15 rfl) (le_i (by omega)) | exact go_reti (at_of tX10_startOf 0 15 rfl) (le_i (by first | exact bI_t (by omega) | exact bI_f (by omega)))
theorem m_startOf (hS : Str σ.2.1) {D : PapD} (hN : RepN (cN σ) D) (hW : WfM D) {p : Int} (h : 0 ≤ p ∧ p ≤ endsA D.1.1 D.1.2.1 D.1.2.1) : Con 4 mX10_startOf 0 0 [vA 109, vI p] σ (vI (if p ≤ 0 then 0 else plOf D.1.1 D.1.2.1 (ixEnd D.1.1 D.1.2.1 (p - 1)) + 1), P1 σ 109 0 0) := by
  obtain ⟨hE, hSg, hMk, hRw⟩ := id hW
  obtain ⟨e1, e2, e3, e4⟩ := id hE
  obtain ⟨b1, b2, b3, b4⟩ := id hN.2.2.2
  have hn2 := hN.1.2.1
  have hl := hN.2.1.2
  have hS1 : Str (P1 σ 109 0 0).2.1 := hS
  have hN1 : RepN (cN (P1 σ 109 0 0)) D := by rw [cN_P1]; exact hN
  have pl := plOf_le (F := D.1.1) (n := D.1.2.1) (i := D.1.2.1)
  have el := endsA_le (F := D.1.1) (n := D.1.2.1) (i := D.1.2.1)
  have pl2 := pl.2 e1
  have el2 := el.2 e1
  have hcc : σ.1 110 (3011 : Int).toNat = D.2.1.1 := hN.2.1.1
  refine con_of_go mfX10_startOf.1 trivial (Nat.le_of_ble_eq_true rfl) rfl (by decide) ?_
  show Go _ _ _ _ 0 [vA _, vI _] [] _ _
  refine go_aload_n (at_of tX10_startOf 0 0 rfl) rfl ?_
  refine go_aload_n (at_of tX10_startOf 0 1 rfl) rfl ?_
  refine go_iload_n (at_of tX10_startOf 0 2 rfl) rfl ?_
  refine go_cV (m_isParagraph hS hN.1 hE hSg) lk_X10_203 rfl G_109 (at_of tX10_startOf 0 3 rfl) rfl (by decide) rfl (Nat.le_of_ble_eq_true rfl) rfl (by first | decide | exact ⟨Nat.zero_le _, Nat.zero_le _⟩) ?_
  refine go_if_eq (tgt := 13) (at_of tX10_startOf 0 4 rfl) (by decide) (fun h6 => ?_) (fun h6 => ?_)
  · exfalso; exact bI_0.mp h6 h
  refine go_iconst (at_of tX10_startOf 0 5 rfl) (by unfold in32; omega) ?_
  refine go_goto (tgt := 14) (at_of tX10_startOf 0 6 rfl) (by decide) ?_
  refine go_cV (m_goesOn) lk_X10_141 rfl G_109 (at_of tX10_startOf 0 8 rfl) rfl (by decide) rfl (Nat.le_of_ble_eq_true rfl) rfl (by first | decide | exact ⟨Nat.zero_le _, Nat.zero_le _⟩) ?_
  refine go_if_eq (tgt := 28) (at_of tX10_startOf 0 9 rfl) (by decide) (fun h17 => ?_) (fun h17 => ?_)
  · exfalso; exact absurd h17 (by rw [bI_t rfl]; decide)
  refine go_aload_n (at_of tX10_startOf 0 10 rfl) rfl ?_
  refine go_iload_n (at_of tX10_startOf 0 11 rfl) rfl ?_
  refine go_cV (m_startAt hS1 hN1 hW (by omega)) lk_X10_216 rfl G_109 (at_of tX10_startOf 0 12 rfl) rfl (by decide) rfl (Nat.le_of_ble_eq_true rfl) rfl (by first | decide | exact ⟨Nat.zero_le _, Nat.zero_le _⟩) ?_
  refine go_goto (tgt := 29) (at_of tX10_startOf 0 13 rfl) (by decide) ?_
  first | exact go_reti (at_of tX10_startOf 0 15 rfl) rfl | exact go_reti (at_of tX10_startOf 0 15 rfl) (le_i (by omega)) | exact go_reti (at_of tX10_startOf 0 15 rfl) (le_i (by first | exact bI_t (by omega) | exact bI_f (by omega)))
theorem m_kindOf_no (hS : Str σ.2.1) {D : PapD} (hN : RepN (cN σ) D) (hW : WfM D) {c : Int} (h : ¬ (0 ≤ c ∧ c < D.2.1.1)) : Con 2 mX10_kindOf 0 0 [vA 109, vI c] σ (vI 0, P1 σ 109 0 1) := by
  obtain ⟨hE, hSg, hMk, hRw⟩ := id hW
  obtain ⟨e1, e2, e3, e4⟩ := id hE
  obtain ⟨b1, b2, b3, b4⟩ := id hN.2.2.2
  have hn2 := hN.1.2.1
  have hl := hN.2.1.2
  have hS1 : Str (P1 σ 109 0 0).2.1 := hS
  have hN1 : RepN (cN (P1 σ 109 0 0)) D := by rw [cN_P1]; exact hN
  have pl := plOf_le (F := D.1.1) (n := D.1.2.1) (i := D.1.2.1)
  have el := endsA_le (F := D.1.1) (n := D.1.2.1) (i := D.1.2.1)
  have pl2 := pl.2 e1
  have el2 := el.2 e1
  have hcc : σ.1 110 (3011 : Int).toNat = D.2.1.1 := hN.2.1.1
  refine con_of_go mfX10_kindOf.1 ⟨by omega, by omega⟩ (Nat.le_of_ble_eq_true rfl) rfl (by decide) ?_
  show Go _ _ _ _ 0 [vA _, vI _] [] _ _
  refine go_aload_n (at_of tX10_kindOf 0 0 rfl) rfl ?_
  refine go_aload_n (at_of tX10_kindOf 0 1 rfl) rfl ?_
  refine go_iload_n (at_of tX10_kindOf 0 2 rfl) rfl ?_
  refine go_cV (m_isChange hS hN hW) lk_X10_219 rfl G_109 (at_of tX10_kindOf 0 3 rfl) rfl (by decide) rfl (Nat.le_of_ble_eq_true rfl) rfl (by first | decide | exact ⟨Nat.zero_le _, Nat.zero_le _⟩) ?_
  refine go_if_eq (tgt := 13) (at_of tX10_kindOf 0 4 rfl) (by decide) (fun h6 => ?_) (fun h6 => ?_)
  rotate_left
  · exfalso; exact h (bI_1.mp h6)
  refine go_iconst (at_of tX10_kindOf 0 7 rfl) (by unfold in32; omega) ?_
  refine go_cV (m_goesOn) lk_X10_141 rfl G_109 (at_of tX10_kindOf 0 8 rfl) rfl (by decide) rfl (Nat.le_of_ble_eq_true rfl) rfl (by first | decide | exact ⟨Nat.zero_le _, Nat.zero_le _⟩) ?_
  refine go_if_eq (tgt := 34) (at_of tX10_kindOf 0 9 rfl) (by decide) (fun h17 => ?_) (fun h17 => ?_)
  rotate_left
  · exfalso; exact h17 (bI_f (by decide))
  refine go_iconst (at_of tX10_kindOf 1 2 rfl) (by unfold in32; omega) ?_
  first | exact go_reti (at_of tX10_kindOf 1 3 rfl) rfl | exact go_reti (at_of tX10_kindOf 1 3 rfl) (le_i (by omega)) | exact go_reti (at_of tX10_kindOf 1 3 rfl) (le_i (by first | exact bI_t (by omega) | exact bI_f (by omega)))
theorem m_kindOf (hS : Str σ.2.1) {D : PapD} (hN : RepN (cN σ) D) (hW : WfM D) {c : Int} (h : 0 ≤ c ∧ c < D.2.1.1) : Con 2 mX10_kindOf 0 0 [vA 109, vI c] σ (vI (D.2.1.2.1 c % 65536), P1 σ 109 0 0) := by
  obtain ⟨hE, hSg, hMk, hRw⟩ := id hW
  obtain ⟨e1, e2, e3, e4⟩ := id hE
  obtain ⟨b1, b2, b3, b4⟩ := id hN.2.2.2
  have hn2 := hN.1.2.1
  have hl := hN.2.1.2
  have hS1 : Str (P1 σ 109 0 0).2.1 := hS
  have hN1 : RepN (cN (P1 σ 109 0 0)) D := by rw [cN_P1]; exact hN
  have pl := plOf_le (F := D.1.1) (n := D.1.2.1) (i := D.1.2.1)
  have el := endsA_le (F := D.1.1) (n := D.1.2.1) (i := D.1.2.1)
  have pl2 := pl.2 e1
  have el2 := el.2 e1
  have hcc : σ.1 110 (3011 : Int).toNat = D.2.1.1 := hN.2.1.1
  refine con_of_go mfX10_kindOf.1 ⟨by omega, by omega⟩ (Nat.le_of_ble_eq_true rfl) rfl (by decide) ?_
  show Go _ _ _ _ 0 [vA _, vI _] [] _ _
  refine go_aload_n (at_of tX10_kindOf 0 0 rfl) rfl ?_
  refine go_aload_n (at_of tX10_kindOf 0 1 rfl) rfl ?_
  refine go_iload_n (at_of tX10_kindOf 0 2 rfl) rfl ?_
  refine go_cV (m_isChange hS hN hW) lk_X10_219 rfl G_109 (at_of tX10_kindOf 0 3 rfl) rfl (by decide) rfl (Nat.le_of_ble_eq_true rfl) rfl (by first | decide | exact ⟨Nat.zero_le _, Nat.zero_le _⟩) ?_
  refine go_if_eq (tgt := 13) (at_of tX10_kindOf 0 4 rfl) (by decide) (fun h6 => ?_) (fun h6 => ?_)
  · exfalso; exact bI_0.mp h6 h
  refine go_iconst (at_of tX10_kindOf 0 5 rfl) (by unfold in32; omega) ?_
  refine go_goto (tgt := 14) (at_of tX10_kindOf 0 6 rfl) (by decide) ?_
  refine go_cV (m_goesOn) lk_X10_141 rfl G_109 (at_of tX10_kindOf 0 8 rfl) rfl (by decide) rfl (Nat.le_of_ble_eq_true rfl) rfl (by first | decide | exact ⟨Nat.zero_le _, Nat.zero_le _⟩) ?_
  refine go_if_eq (tgt := 34) (at_of tX10_kindOf 0 9 rfl) (by decide) (fun h17 => ?_) (fun h17 => ?_)
  · exfalso; exact absurd h17 (by rw [bI_t rfl]; decide)
  refine go_aload_n (at_of tX10_kindOf 0 10 rfl) rfl ?_
  refine go_getr (q := 110) fl_X10_7 rfl G_109 (by first | exact (hS _ _ rfl).trans rfl | exact (hS1 _ _ rfl).trans rfl | exact (hS2 _ _ rfl).trans rfl | exact (hS3 _ _ rfl).trans rfl | exact (hS4 _ _ rfl).trans rfl) (at_of tX10_kindOf 0 11 rfl) ?_
  refine go_sipush (at_of tX10_kindOf 0 12 rfl) (by decide) ?_
  refine go_iload_n (at_of tX10_kindOf 0 13 rfl) rfl ?_
  refine go_iadd (at_of tX10_kindOf 0 14 rfl) (by unfold in32; omega) ?_
  refine go_iald G_110 (by omega) (by omega) (at_of tX10_kindOf 0 15 rfl) ?_
  rw [show (P1 σ 109 0 0).1 110 (3133 + c).toNat = D.2.1.2.1 c from (P1_ne (by omega)).trans (hl c h.1 h.2).2.2]
  refine go_i2c (at_of tX10_kindOf 1 0 rfl) ?_
  refine go_goto (tgt := 35) (at_of tX10_kindOf 1 1 rfl) (by decide) ?_
  first | exact go_reti (at_of tX10_kindOf 1 3 rfl) rfl | exact go_reti (at_of tX10_kindOf 1 3 rfl) (le_i (by omega)) | exact go_reti (at_of tX10_kindOf 1 3 rfl) (le_i (by first | exact bI_t (by omega) | exact bI_f (by omega)))
theorem m_authorOf_no (hS : Str σ.2.1) {D : PapD} (hN : RepN (cN σ) D) (hW : WfM D) {c : Int} (h : ¬ (0 ≤ c ∧ c < D.2.1.1)) : Con 2 mX10_authorOf 0 0 [vA 109, vI c] σ (vI 0, P1 σ 109 0 1) := by
  obtain ⟨hE, hSg, hMk, hRw⟩ := id hW
  obtain ⟨e1, e2, e3, e4⟩ := id hE
  obtain ⟨b1, b2, b3, b4⟩ := id hN.2.2.2
  have hn2 := hN.1.2.1
  have hl := hN.2.1.2
  have hS1 : Str (P1 σ 109 0 0).2.1 := hS
  have hN1 : RepN (cN (P1 σ 109 0 0)) D := by rw [cN_P1]; exact hN
  have pl := plOf_le (F := D.1.1) (n := D.1.2.1) (i := D.1.2.1)
  have el := endsA_le (F := D.1.1) (n := D.1.2.1) (i := D.1.2.1)
  have pl2 := pl.2 e1
  have el2 := el.2 e1
  have hcc : σ.1 110 (3011 : Int).toNat = D.2.1.1 := hN.2.1.1
  refine con_of_go mfX10_authorOf.1 trivial (Nat.le_of_ble_eq_true rfl) rfl (by decide) ?_
  show Go _ _ _ _ 0 [vA _, vI _] [] _ _
  refine go_aload_n (at_of tX10_authorOf 0 0 rfl) rfl ?_
  refine go_aload_n (at_of tX10_authorOf 0 1 rfl) rfl ?_
  refine go_iload_n (at_of tX10_authorOf 0 2 rfl) rfl ?_
  refine go_cV (m_isChange hS hN hW) lk_X10_219 rfl G_109 (at_of tX10_authorOf 0 3 rfl) rfl (by decide) rfl (Nat.le_of_ble_eq_true rfl) rfl (by first | decide | exact ⟨Nat.zero_le _, Nat.zero_le _⟩) ?_
  refine go_if_eq (tgt := 13) (at_of tX10_authorOf 0 4 rfl) (by decide) (fun h6 => ?_) (fun h6 => ?_)
  rotate_left
  · exfalso; exact h (bI_1.mp h6)
  refine go_iconst (at_of tX10_authorOf 0 7 rfl) (by unfold in32; omega) ?_
  refine go_cV (m_goesOn) lk_X10_141 rfl G_109 (at_of tX10_authorOf 0 8 rfl) rfl (by decide) rfl (Nat.le_of_ble_eq_true rfl) rfl (by first | decide | exact ⟨Nat.zero_le _, Nat.zero_le _⟩) ?_
  refine go_if_eq (tgt := 33) (at_of tX10_authorOf 0 9 rfl) (by decide) (fun h17 => ?_) (fun h17 => ?_)
  rotate_left
  · exfalso; exact h17 (bI_f (by decide))
  refine go_iconst (at_of tX10_authorOf 1 1 rfl) (by unfold in32; omega) ?_
  first | exact go_reti (at_of tX10_authorOf 1 2 rfl) rfl | exact go_reti (at_of tX10_authorOf 1 2 rfl) (le_i (by omega)) | exact go_reti (at_of tX10_authorOf 1 2 rfl) (le_i (by first | exact bI_t (by omega) | exact bI_f (by omega)))
theorem m_authorOf (hS : Str σ.2.1) {D : PapD} (hN : RepN (cN σ) D) (hW : WfM D) {c : Int} (h : 0 ≤ c ∧ c < D.2.1.1) : Con 2 mX10_authorOf 0 0 [vA 109, vI c] σ (vI (D.2.1.2.2.1 c), P1 σ 109 0 0) := by
  obtain ⟨hE, hSg, hMk, hRw⟩ := id hW
  obtain ⟨e1, e2, e3, e4⟩ := id hE
  obtain ⟨b1, b2, b3, b4⟩ := id hN.2.2.2
  have hn2 := hN.1.2.1
  have hl := hN.2.1.2
  have hS1 : Str (P1 σ 109 0 0).2.1 := hS
  have hN1 : RepN (cN (P1 σ 109 0 0)) D := by rw [cN_P1]; exact hN
  have pl := plOf_le (F := D.1.1) (n := D.1.2.1) (i := D.1.2.1)
  have el := endsA_le (F := D.1.1) (n := D.1.2.1) (i := D.1.2.1)
  have pl2 := pl.2 e1
  have el2 := el.2 e1
  have hcc : σ.1 110 (3011 : Int).toNat = D.2.1.1 := hN.2.1.1
  refine con_of_go mfX10_authorOf.1 trivial (Nat.le_of_ble_eq_true rfl) rfl (by decide) ?_
  show Go _ _ _ _ 0 [vA _, vI _] [] _ _
  refine go_aload_n (at_of tX10_authorOf 0 0 rfl) rfl ?_
  refine go_aload_n (at_of tX10_authorOf 0 1 rfl) rfl ?_
  refine go_iload_n (at_of tX10_authorOf 0 2 rfl) rfl ?_
  refine go_cV (m_isChange hS hN hW) lk_X10_219 rfl G_109 (at_of tX10_authorOf 0 3 rfl) rfl (by decide) rfl (Nat.le_of_ble_eq_true rfl) rfl (by first | decide | exact ⟨Nat.zero_le _, Nat.zero_le _⟩) ?_
  refine go_if_eq (tgt := 13) (at_of tX10_authorOf 0 4 rfl) (by decide) (fun h6 => ?_) (fun h6 => ?_)
  · exfalso; exact bI_0.mp h6 h
  refine go_iconst (at_of tX10_authorOf 0 5 rfl) (by unfold in32; omega) ?_
  refine go_goto (tgt := 14) (at_of tX10_authorOf 0 6 rfl) (by decide) ?_
  refine go_cV (m_goesOn) lk_X10_141 rfl G_109 (at_of tX10_authorOf 0 8 rfl) rfl (by decide) rfl (Nat.le_of_ble_eq_true rfl) rfl (by first | decide | exact ⟨Nat.zero_le _, Nat.zero_le _⟩) ?_
  refine go_if_eq (tgt := 33) (at_of tX10_authorOf 0 9 rfl) (by decide) (fun h17 => ?_) (fun h17 => ?_)
  · exfalso; exact absurd h17 (by rw [bI_t rfl]; decide)
  refine go_aload_n (at_of tX10_authorOf 0 10 rfl) rfl ?_
  refine go_getr (q := 110) fl_X10_7 rfl G_109 (by first | exact (hS _ _ rfl).trans rfl | exact (hS1 _ _ rfl).trans rfl | exact (hS2 _ _ rfl).trans rfl | exact (hS3 _ _ rfl).trans rfl | exact (hS4 _ _ rfl).trans rfl) (at_of tX10_authorOf 0 11 rfl) ?_
  refine go_sipush (at_of tX10_authorOf 0 12 rfl) (by decide) ?_
  refine go_iload_n (at_of tX10_authorOf 0 13 rfl) rfl ?_
  refine go_iadd (at_of tX10_authorOf 0 14 rfl) (by unfold in32; omega) ?_
  refine go_iald G_110 (by omega) (by omega) (at_of tX10_authorOf 0 15 rfl) ?_
  rw [show (P1 σ 109 0 0).1 110 (3013 + c).toNat = D.2.1.2.2.1 c from (P1_ne (by omega)).trans (hl c h.1 h.2).1]
  refine go_goto (tgt := 34) (at_of tX10_authorOf 1 0 rfl) (by decide) ?_
  first | exact go_reti (at_of tX10_authorOf 1 2 rfl) rfl | exact go_reti (at_of tX10_authorOf 1 2 rfl) (le_i (by omega)) | exact go_reti (at_of tX10_authorOf 1 2 rfl) (le_i (by first | exact bI_t (by omega) | exact bI_f (by omega)))
theorem m_stateOf_no (hS : Str σ.2.1) {D : PapD} (hN : RepN (cN σ) D) (hW : WfM D) {c : Int} (h : ¬ (0 ≤ c ∧ c < D.2.1.1)) : Con 2 mX10_stateOf 0 0 [vA 109, vI c] σ (vI 0, P1 σ 109 0 1) := by
  obtain ⟨hE, hSg, hMk, hRw⟩ := id hW
  obtain ⟨e1, e2, e3, e4⟩ := id hE
  obtain ⟨b1, b2, b3, b4⟩ := id hN.2.2.2
  have hn2 := hN.1.2.1
  have hl := hN.2.1.2
  have hS1 : Str (P1 σ 109 0 0).2.1 := hS
  have hN1 : RepN (cN (P1 σ 109 0 0)) D := by rw [cN_P1]; exact hN
  have pl := plOf_le (F := D.1.1) (n := D.1.2.1) (i := D.1.2.1)
  have el := endsA_le (F := D.1.1) (n := D.1.2.1) (i := D.1.2.1)
  have pl2 := pl.2 e1
  have el2 := el.2 e1
  have hcc : σ.1 110 (3011 : Int).toNat = D.2.1.1 := hN.2.1.1
  refine con_of_go mfX10_stateOf.1 ⟨by omega, by omega⟩ (Nat.le_of_ble_eq_true rfl) rfl (by decide) ?_
  show Go _ _ _ _ 0 [vA _, vI _] [] _ _
  refine go_aload_n (at_of tX10_stateOf 0 0 rfl) rfl ?_
  refine go_aload_n (at_of tX10_stateOf 0 1 rfl) rfl ?_
  refine go_iload_n (at_of tX10_stateOf 0 2 rfl) rfl ?_
  refine go_cV (m_isChange hS hN hW) lk_X10_219 rfl G_109 (at_of tX10_stateOf 0 3 rfl) rfl (by decide) rfl (Nat.le_of_ble_eq_true rfl) rfl (by first | decide | exact ⟨Nat.zero_le _, Nat.zero_le _⟩) ?_
  refine go_if_eq (tgt := 13) (at_of tX10_stateOf 0 4 rfl) (by decide) (fun h6 => ?_) (fun h6 => ?_)
  rotate_left
  · exfalso; exact h (bI_1.mp h6)
  refine go_iconst (at_of tX10_stateOf 0 7 rfl) (by unfold in32; omega) ?_
  refine go_cV (m_goesOn) lk_X10_141 rfl G_109 (at_of tX10_stateOf 0 8 rfl) rfl (by decide) rfl (Nat.le_of_ble_eq_true rfl) rfl (by first | decide | exact ⟨Nat.zero_le _, Nat.zero_le _⟩) ?_
  refine go_if_eq (tgt := 34) (at_of tX10_stateOf 0 9 rfl) (by decide) (fun h17 => ?_) (fun h17 => ?_)
  rotate_left
  · exfalso; exact h17 (bI_f (by decide))
  refine go_iconst (at_of tX10_stateOf 1 2 rfl) (by unfold in32; omega) ?_
  first | exact go_reti (at_of tX10_stateOf 1 3 rfl) rfl | exact go_reti (at_of tX10_stateOf 1 3 rfl) (le_i (by omega)) | exact go_reti (at_of tX10_stateOf 1 3 rfl) (le_i (by first | exact bI_t (by omega) | exact bI_f (by omega)))
theorem m_stateOf (hS : Str σ.2.1) {D : PapD} (hN : RepN (cN σ) D) (hW : WfM D) {c : Int} (h : 0 ≤ c ∧ c < D.2.1.1) : Con 2 mX10_stateOf 0 0 [vA 109, vI c] σ (vI (D.2.1.2.2.2 c % 65536), P1 σ 109 0 0) := by
  obtain ⟨hE, hSg, hMk, hRw⟩ := id hW
  obtain ⟨e1, e2, e3, e4⟩ := id hE
  obtain ⟨b1, b2, b3, b4⟩ := id hN.2.2.2
  have hn2 := hN.1.2.1
  have hl := hN.2.1.2
  have hS1 : Str (P1 σ 109 0 0).2.1 := hS
  have hN1 : RepN (cN (P1 σ 109 0 0)) D := by rw [cN_P1]; exact hN
  have pl := plOf_le (F := D.1.1) (n := D.1.2.1) (i := D.1.2.1)
  have el := endsA_le (F := D.1.1) (n := D.1.2.1) (i := D.1.2.1)
  have pl2 := pl.2 e1
  have el2 := el.2 e1
  have hcc : σ.1 110 (3011 : Int).toNat = D.2.1.1 := hN.2.1.1
  refine con_of_go mfX10_stateOf.1 ⟨by omega, by omega⟩ (Nat.le_of_ble_eq_true rfl) rfl (by decide) ?_
  show Go _ _ _ _ 0 [vA _, vI _] [] _ _
  refine go_aload_n (at_of tX10_stateOf 0 0 rfl) rfl ?_
  refine go_aload_n (at_of tX10_stateOf 0 1 rfl) rfl ?_
  refine go_iload_n (at_of tX10_stateOf 0 2 rfl) rfl ?_
  refine go_cV (m_isChange hS hN hW) lk_X10_219 rfl G_109 (at_of tX10_stateOf 0 3 rfl) rfl (by decide) rfl (Nat.le_of_ble_eq_true rfl) rfl (by first | decide | exact ⟨Nat.zero_le _, Nat.zero_le _⟩) ?_
  refine go_if_eq (tgt := 13) (at_of tX10_stateOf 0 4 rfl) (by decide) (fun h6 => ?_) (fun h6 => ?_)
  · exfalso; exact bI_0.mp h6 h
  refine go_iconst (at_of tX10_stateOf 0 5 rfl) (by unfold in32; omega) ?_
  refine go_goto (tgt := 14) (at_of tX10_stateOf 0 6 rfl) (by decide) ?_
  refine go_cV (m_goesOn) lk_X10_141 rfl G_109 (at_of tX10_stateOf 0 8 rfl) rfl (by decide) rfl (Nat.le_of_ble_eq_true rfl) rfl (by first | decide | exact ⟨Nat.zero_le _, Nat.zero_le _⟩) ?_
  refine go_if_eq (tgt := 34) (at_of tX10_stateOf 0 9 rfl) (by decide) (fun h17 => ?_) (fun h17 => ?_)
  · exfalso; exact absurd h17 (by rw [bI_t rfl]; decide)
  refine go_aload_n (at_of tX10_stateOf 0 10 rfl) rfl ?_
  refine go_getr (q := 110) fl_X10_7 rfl G_109 (by first | exact (hS _ _ rfl).trans rfl | exact (hS1 _ _ rfl).trans rfl | exact (hS2 _ _ rfl).trans rfl | exact (hS3 _ _ rfl).trans rfl | exact (hS4 _ _ rfl).trans rfl) (at_of tX10_stateOf 0 11 rfl) ?_
  refine go_sipush (at_of tX10_stateOf 0 12 rfl) (by decide) ?_
  refine go_iload_n (at_of tX10_stateOf 0 13 rfl) rfl ?_
  refine go_iadd (at_of tX10_stateOf 0 14 rfl) (by unfold in32; omega) ?_
  refine go_iald G_110 (by omega) (by omega) (at_of tX10_stateOf 0 15 rfl) ?_
  rw [show (P1 σ 109 0 0).1 110 (3073 + c).toNat = D.2.1.2.2.2 c from (P1_ne (by omega)).trans (hl c h.1 h.2).2.1]
  refine go_i2c (at_of tX10_stateOf 1 0 rfl) ?_
  refine go_goto (tgt := 35) (at_of tX10_stateOf 1 1 rfl) (by decide) ?_
  first | exact go_reti (at_of tX10_stateOf 1 3 rfl) rfl | exact go_reti (at_of tX10_stateOf 1 3 rfl) (le_i (by omega)) | exact go_reti (at_of tX10_stateOf 1 3 rfl) (le_i (by first | exact bI_t (by omega) | exact bI_f (by omega)))
theorem m_unitsOf_no (hS : Str σ.2.1) {D : PapD} (hN : RepN (cN σ) D) (hW : WfM D) {c : Int} (h : ¬ (0 ≤ c ∧ c < D.2.1.1)) : Con 2 mX10_unitsOf 0 0 [vA 109, vI c] σ (vI 0, P1 σ 109 0 1) := by
  obtain ⟨hE, hSg, hMk, hRw⟩ := id hW
  obtain ⟨e1, e2, e3, e4⟩ := id hE
  obtain ⟨b1, b2, b3, b4⟩ := id hN.2.2.2
  have hn2 := hN.1.2.1
  have hl := hN.2.1.2
  have hS1 : Str (P1 σ 109 0 0).2.1 := hS
  have hN1 : RepN (cN (P1 σ 109 0 0)) D := by rw [cN_P1]; exact hN
  have pl := plOf_le (F := D.1.1) (n := D.1.2.1) (i := D.1.2.1)
  have el := endsA_le (F := D.1.1) (n := D.1.2.1) (i := D.1.2.1)
  have pl2 := pl.2 e1
  have el2 := el.2 e1
  have hcc : σ.1 110 (3011 : Int).toNat = D.2.1.1 := hN.2.1.1
  refine con_of_go mfX10_unitsOf.1 trivial (Nat.le_of_ble_eq_true rfl) rfl (by decide) ?_
  show Go _ _ _ _ 0 [vA _, vI _] [] _ _
  refine go_aload_n (at_of tX10_unitsOf 0 0 rfl) rfl ?_
  refine go_aload_n (at_of tX10_unitsOf 0 1 rfl) rfl ?_
  refine go_iload_n (at_of tX10_unitsOf 0 2 rfl) rfl ?_
  refine go_cV (m_isChange hS hN hW) lk_X10_219 rfl G_109 (at_of tX10_unitsOf 0 3 rfl) rfl (by decide) rfl (Nat.le_of_ble_eq_true rfl) rfl (by first | decide | exact ⟨Nat.zero_le _, Nat.zero_le _⟩) ?_
  refine go_if_eq (tgt := 13) (at_of tX10_unitsOf 0 4 rfl) (by decide) (fun h6 => ?_) (fun h6 => ?_)
  rotate_left
  · exfalso; exact h (bI_1.mp h6)
  refine go_iconst (at_of tX10_unitsOf 0 7 rfl) (by unfold in32; omega) ?_
  refine go_cV (m_goesOn) lk_X10_141 rfl G_109 (at_of tX10_unitsOf 0 8 rfl) rfl (by decide) rfl (Nat.le_of_ble_eq_true rfl) rfl (by first | decide | exact ⟨Nat.zero_le _, Nat.zero_le _⟩) ?_
  refine go_if_eq (tgt := 28) (at_of tX10_unitsOf 0 9 rfl) (by decide) (fun h17 => ?_) (fun h17 => ?_)
  rotate_left
  · exfalso; exact h17 (bI_f (by decide))
  refine go_iconst (at_of tX10_unitsOf 0 14 rfl) (by unfold in32; omega) ?_
  first | exact go_reti (at_of tX10_unitsOf 0 15 rfl) rfl | exact go_reti (at_of tX10_unitsOf 0 15 rfl) (le_i (by omega)) | exact go_reti (at_of tX10_unitsOf 0 15 rfl) (le_i (by first | exact bI_t (by omega) | exact bI_f (by omega)))
theorem m_unitsOf (hS : Str σ.2.1) {D : PapD} (hN : RepN (cN σ) D) (hW : WfM D) {c : Int} (h : 0 ≤ c ∧ c < D.2.1.1) : Con 2 mX10_unitsOf 0 0 [vA 109, vI c] σ (vI (concN D.1.1 D.1.2.1 c), P1 σ 109 0 0) := by
  obtain ⟨hE, hSg, hMk, hRw⟩ := id hW
  obtain ⟨e1, e2, e3, e4⟩ := id hE
  obtain ⟨b1, b2, b3, b4⟩ := id hN.2.2.2
  have hn2 := hN.1.2.1
  have hl := hN.2.1.2
  have hS1 : Str (P1 σ 109 0 0).2.1 := hS
  have hN1 : RepN (cN (P1 σ 109 0 0)) D := by rw [cN_P1]; exact hN
  have pl := plOf_le (F := D.1.1) (n := D.1.2.1) (i := D.1.2.1)
  have el := endsA_le (F := D.1.1) (n := D.1.2.1) (i := D.1.2.1)
  have pl2 := pl.2 e1
  have el2 := el.2 e1
  have hcc : σ.1 110 (3011 : Int).toNat = D.2.1.1 := hN.2.1.1
  refine con_of_go mfX10_unitsOf.1 trivial (Nat.le_of_ble_eq_true rfl) rfl (by decide) ?_
  show Go _ _ _ _ 0 [vA _, vI _] [] _ _
  refine go_aload_n (at_of tX10_unitsOf 0 0 rfl) rfl ?_
  refine go_aload_n (at_of tX10_unitsOf 0 1 rfl) rfl ?_
  refine go_iload_n (at_of tX10_unitsOf 0 2 rfl) rfl ?_
  refine go_cV (m_isChange hS hN hW) lk_X10_219 rfl G_109 (at_of tX10_unitsOf 0 3 rfl) rfl (by decide) rfl (Nat.le_of_ble_eq_true rfl) rfl (by first | decide | exact ⟨Nat.zero_le _, Nat.zero_le _⟩) ?_
  refine go_if_eq (tgt := 13) (at_of tX10_unitsOf 0 4 rfl) (by decide) (fun h6 => ?_) (fun h6 => ?_)
  · exfalso; exact bI_0.mp h6 h
  refine go_iconst (at_of tX10_unitsOf 0 5 rfl) (by unfold in32; omega) ?_
  refine go_goto (tgt := 14) (at_of tX10_unitsOf 0 6 rfl) (by decide) ?_
  refine go_cV (m_goesOn) lk_X10_141 rfl G_109 (at_of tX10_unitsOf 0 8 rfl) rfl (by decide) rfl (Nat.le_of_ble_eq_true rfl) rfl (by first | decide | exact ⟨Nat.zero_le _, Nat.zero_le _⟩) ?_
  refine go_if_eq (tgt := 28) (at_of tX10_unitsOf 0 9 rfl) (by decide) (fun h17 => ?_) (fun h17 => ?_)
  · exfalso; exact absurd h17 (by rw [bI_t rfl]; decide)
  refine go_aload_n (at_of tX10_unitsOf 0 10 rfl) rfl ?_
  refine go_iload_n (at_of tX10_unitsOf 0 11 rfl) rfl ?_
  refine go_cV (m_concerns hS1 hN1.1 ⟨e1, e2⟩) lk_X10_222 rfl G_109 (at_of tX10_unitsOf 0 12 rfl) rfl (by decide) rfl (Nat.le_of_ble_eq_true rfl) rfl (by first | decide | exact ⟨Nat.zero_le _, Nat.zero_le _⟩) ?_
  refine go_goto (tgt := 29) (at_of tX10_unitsOf 0 13 rfl) (by decide) ?_
  first | exact go_reti (at_of tX10_unitsOf 0 15 rfl) rfl | exact go_reti (at_of tX10_unitsOf 0 15 rfl) (le_i (by omega)) | exact go_reti (at_of tX10_unitsOf 0 15 rfl) (le_i (by first | exact bI_t (by omega) | exact bI_f (by omega)))
theorem m_styleOf_no (hS : Str σ.2.1) {D : PapD} (hN : RepN (cN σ) D) (hW : WfM D) {p : Int} (h : ¬ (0 ≤ p ∧ p ≤ endsA D.1.1 D.1.2.1 D.1.2.1)) : Con 4 mX10_styleOf 0 0 [vA 109, vI p] σ (vI 0, P1 σ 109 0 1) := by
  obtain ⟨hE, hSg, hMk, hRw⟩ := id hW
  obtain ⟨e1, e2, e3, e4⟩ := id hE
  obtain ⟨b1, b2, b3, b4⟩ := id hN.2.2.2
  have hn2 := hN.1.2.1
  have hl := hN.2.1.2
  have hS1 : Str (P1 σ 109 0 0).2.1 := hS
  have hN1 : RepN (cN (P1 σ 109 0 0)) D := by rw [cN_P1]; exact hN
  have pl := plOf_le (F := D.1.1) (n := D.1.2.1) (i := D.1.2.1)
  have el := endsA_le (F := D.1.1) (n := D.1.2.1) (i := D.1.2.1)
  have pl2 := pl.2 e1
  have el2 := el.2 e1
  have hcc : σ.1 110 (3011 : Int).toNat = D.2.1.1 := hN.2.1.1
  refine con_of_go mfX10_styleOf.1 trivial (Nat.le_of_ble_eq_true rfl) rfl (by decide) ?_
  show Go _ _ _ _ 0 [vA _, vI _] [] _ _
  refine go_aload_n (at_of tX10_styleOf 0 0 rfl) rfl ?_
  refine go_aload_n (at_of tX10_styleOf 0 1 rfl) rfl ?_
  refine go_iload_n (at_of tX10_styleOf 0 2 rfl) rfl ?_
  refine go_cV (m_isParagraph hS hN.1 hE hSg) lk_X10_203 rfl G_109 (at_of tX10_styleOf 0 3 rfl) rfl (by decide) rfl (Nat.le_of_ble_eq_true rfl) rfl (by first | decide | exact ⟨Nat.zero_le _, Nat.zero_le _⟩) ?_
  refine go_if_eq (tgt := 13) (at_of tX10_styleOf 0 4 rfl) (by decide) (fun h6 => ?_) (fun h6 => ?_)
  rotate_left
  · exfalso; exact h (bI_1.mp h6)
  refine go_iconst (at_of tX10_styleOf 0 7 rfl) (by unfold in32; omega) ?_
  refine go_cV (m_goesOn) lk_X10_141 rfl G_109 (at_of tX10_styleOf 0 8 rfl) rfl (by decide) rfl (Nat.le_of_ble_eq_true rfl) rfl (by first | decide | exact ⟨Nat.zero_le _, Nat.zero_le _⟩) ?_
  refine go_if_eq (tgt := 33) (at_of tX10_styleOf 0 9 rfl) (by decide) (fun h17 => ?_) (fun h17 => ?_)
  rotate_left
  · exfalso; exact h17 (bI_f (by decide))
  refine go_iconst (at_of tX10_styleOf 1 1 rfl) (by unfold in32; omega) ?_
  first | exact go_reti (at_of tX10_styleOf 1 2 rfl) rfl | exact go_reti (at_of tX10_styleOf 1 2 rfl) (le_i (by omega)) | exact go_reti (at_of tX10_styleOf 1 2 rfl) (le_i (by first | exact bI_t (by omega) | exact bI_f (by omega)))
theorem m_styleOf (hS : Str σ.2.1) {D : PapD} (hN : RepN (cN σ) D) (hW : WfM D) {p : Int} (h : 0 ≤ p ∧ p ≤ endsA D.1.1 D.1.2.1 D.1.2.1) : Con 4 mX10_styleOf 0 0 [vA 109, vI p] σ (vI (D.1.1 5 (ixEnd D.1.1 D.1.2.1 p)), P1 σ 109 0 0) := by
  obtain ⟨hE, hSg, hMk, hRw⟩ := id hW
  obtain ⟨e1, e2, e3, e4⟩ := id hE
  obtain ⟨b1, b2, b3, b4⟩ := id hN.2.2.2
  have hn2 := hN.1.2.1
  have hl := hN.2.1.2
  have hS1 : Str (P1 σ 109 0 0).2.1 := hS
  have hN1 : RepN (cN (P1 σ 109 0 0)) D := by rw [cN_P1]; exact hN
  have pl := plOf_le (F := D.1.1) (n := D.1.2.1) (i := D.1.2.1)
  have el := endsA_le (F := D.1.1) (n := D.1.2.1) (i := D.1.2.1)
  have pl2 := pl.2 e1
  have el2 := el.2 e1
  have hcc : σ.1 110 (3011 : Int).toNat = D.2.1.1 := hN.2.1.1
  obtain ⟨u1, u2, u3, h47⟩ := ixEnd_end e1 ((ixEnd_iff hE).mpr h)
  refine con_of_go mfX10_styleOf.1 trivial (Nat.le_of_ble_eq_true rfl) rfl (by decide) ?_
  show Go _ _ _ _ 0 [vA _, vI _] [] _ _
  refine go_aload_n (at_of tX10_styleOf 0 0 rfl) rfl ?_
  refine go_aload_n (at_of tX10_styleOf 0 1 rfl) rfl ?_
  refine go_iload_n (at_of tX10_styleOf 0 2 rfl) rfl ?_
  refine go_cV (m_isParagraph hS hN.1 hE hSg) lk_X10_203 rfl G_109 (at_of tX10_styleOf 0 3 rfl) rfl (by decide) rfl (Nat.le_of_ble_eq_true rfl) rfl (by first | decide | exact ⟨Nat.zero_le _, Nat.zero_le _⟩) ?_
  refine go_if_eq (tgt := 13) (at_of tX10_styleOf 0 4 rfl) (by decide) (fun h6 => ?_) (fun h6 => ?_)
  · exfalso; exact bI_0.mp h6 h
  refine go_iconst (at_of tX10_styleOf 0 5 rfl) (by unfold in32; omega) ?_
  refine go_goto (tgt := 14) (at_of tX10_styleOf 0 6 rfl) (by decide) ?_
  refine go_cV (m_goesOn) lk_X10_141 rfl G_109 (at_of tX10_styleOf 0 8 rfl) rfl (by decide) rfl (Nat.le_of_ble_eq_true rfl) rfl (by first | decide | exact ⟨Nat.zero_le _, Nat.zero_le _⟩) ?_
  refine go_if_eq (tgt := 33) (at_of tX10_styleOf 0 9 rfl) (by decide) (fun h17 => ?_) (fun h17 => ?_)
  · exfalso; exact absurd h17 (by rw [bI_t rfl]; decide)
  refine go_aload_n (at_of tX10_styleOf 0 10 rfl) rfl ?_
  refine go_aload_n (at_of tX10_styleOf 0 11 rfl) rfl ?_
  refine go_iload_n (at_of tX10_styleOf 0 12 rfl) rfl ?_
  refine go_cV (m_endOfParagraph hS1 hN1.1 hE hSg (by omega) (by omega)) lk_X10_197 rfl G_109 (at_of tX10_styleOf 0 13 rfl) rfl (by decide) rfl (Nat.le_of_ble_eq_true rfl) rfl (by first | decide | exact ⟨Nat.zero_le _, Nat.zero_le _⟩) ?_
  refine go_iconst (at_of tX10_styleOf 0 14 rfl) (by unfold in32; omega) ?_
  refine go_cV (m_at3 hS1 hN1.1 (by omega) h47) lk_X10_106 rfl G_109 (at_of tX10_styleOf 0 15 rfl) rfl (by decide) rfl (Nat.le_of_ble_eq_true rfl) rfl (by first | decide | exact ⟨Nat.zero_le _, Nat.zero_le _⟩) ?_
  refine go_goto (tgt := 34) (at_of tX10_styleOf 1 0 rfl) (by decide) ?_
  first | exact go_reti (at_of tX10_styleOf 1 2 rfl) rfl | exact go_reti (at_of tX10_styleOf 1 2 rfl) (le_i (by omega)) | exact go_reti (at_of tX10_styleOf 1 2 rfl) (le_i (by first | exact bI_t (by omega) | exact bI_f (by omega)))
theorem m_oldLength (hS : Str σ.2.1) {D : PapD} (hN : RepN (cN σ) D) (hW : WfM D) : Con 1 mX10_oldLength 0 0 [vA 109] σ (vI (oldN D.1.1 D.1.2.1), P1 σ 109 0 0) := by
  obtain ⟨hE, hSg, hMk, hRw⟩ := id hW
  obtain ⟨e1, e2, e3, e4⟩ := id hE
  obtain ⟨b1, b2, b3, b4⟩ := id hN.2.2.2
  have hn2 := hN.1.2.1
  have hl := hN.2.1.2
  have hS1 : Str (P1 σ 109 0 0).2.1 := hS
  have hN1 : RepN (cN (P1 σ 109 0 0)) D := by rw [cN_P1]; exact hN
  have pl := plOf_le (F := D.1.1) (n := D.1.2.1) (i := D.1.2.1)
  have el := endsA_le (F := D.1.1) (n := D.1.2.1) (i := D.1.2.1)
  have pl2 := pl.2 e1
  have el2 := el.2 e1
  have hcc : σ.1 110 (3011 : Int).toNat = D.2.1.1 := hN.2.1.1
  unfold oldN
  have key : ∀ (m : Nat) (b : Nat × Nat) (u s : Int), 0 ≤ u → u + m = D.1.2.1 → 0 ≤ s → s ≤ u → Go (fun _ => 0) 1 mX10_oldLength b 9 [vA 109, vI s, vI u] [] (P1 σ 109 0 0) (vI (s + cntF (oldB D.1.1 D.1.2.1) m u), P1 σ 109 0 0) := by
    intro m
    induction m with
    | zero =>
      intro b u s h0 h1 h2 h3
      refine go_iload_n (at_of tX10_oldLength 0 7 rfl) rfl ?_
      refine go_aload_n (at_of tX10_oldLength 0 8 rfl) rfl ?_
      refine go_cV (m_many hS1 hN1.1) lk_X10_110 rfl G_109 (at_of tX10_oldLength 0 9 rfl) rfl (by decide) rfl (Nat.le_of_ble_eq_true rfl) rfl (by first | decide | exact ⟨Nat.zero_le _, Nat.zero_le _⟩) ?_
      refine go_icmp_ge (tgt := 41) (at_of tX10_oldLength 0 10 rfl) (by decide) (fun h14 => ?_) (fun h14 => ?_)
      rotate_left
      · exfalso; omega
      refine go_iload_n (at_of tX10_oldLength 1 9 rfl) rfl ?_
      exact go_reti (at_of tX10_oldLength 1 10 rfl) (le_i (by rw [cntF]; omega))
    | succ m ih =>
      intro b u s h0 h1 h2 h3
      rw [cntF]
      have ob : oldB D.1.1 D.1.2.1 u = true ↔ D.1.1 2 u = -1 := by unfold oldB; rw [decide_eq_true_eq]; omega
      by_cases hs : D.1.1 2 u = -1
      · rw [if_pos (ob.mpr hs), show s + (1 + cntF (oldB D.1.1 D.1.2.1) m (u + 1)) = s + 1 + cntF (oldB D.1.1 D.1.2.1) m (u + 1) by omega]
        refine go_iload_n (at_of tX10_oldLength 0 7 rfl) rfl ?_
        refine go_aload_n (at_of tX10_oldLength 0 8 rfl) rfl ?_
        refine go_cV (m_many hS1 hN1.1) lk_X10_110 rfl G_109 (at_of tX10_oldLength 0 9 rfl) rfl (by decide) rfl (Nat.le_of_ble_eq_true rfl) rfl (by first | decide | exact ⟨Nat.zero_le _, Nat.zero_le _⟩) ?_
        refine go_icmp_ge (tgt := 41) (at_of tX10_oldLength 0 10 rfl) (by decide) (fun h14 => ?_) (fun h14 => ?_)
        · exfalso; omega
        refine go_iload_n (at_of tX10_oldLength 0 11 rfl) rfl ?_
        refine go_aload_n (at_of tX10_oldLength 0 12 rfl) rfl ?_
        refine go_iload_n (at_of tX10_oldLength 0 13 rfl) rfl ?_
        refine go_iconst (at_of tX10_oldLength 0 14 rfl) (by unfold in32; omega) ?_
        refine go_cV (m_at1 hS1 hN1.1 (by omega)) lk_X10_106 rfl G_109 (at_of tX10_oldLength 0 15 rfl) rfl (by decide) rfl (Nat.le_of_ble_eq_true rfl) rfl (by first | decide | exact ⟨Nat.zero_le _, Nat.zero_le _⟩) ?_
        refine go_iconst (at_of tX10_oldLength 1 0 rfl) (by unfold in32; omega) ?_
        refine go_icmp_ne (tgt := 32) (at_of tX10_oldLength 1 1 rfl) (by decide) (fun h25 => ?_) (fun h25 => ?_)
        · exfalso; omega
        refine go_iconst (at_of tX10_oldLength 1 2 rfl) (by unfold in32; omega) ?_
        refine go_goto (tgt := 33) (at_of tX10_oldLength 1 3 rfl) (by decide) ?_
        refine go_iadd (at_of tX10_oldLength 1 5 rfl) (by unfold in32; omega) ?_
        refine go_istore_n (at_of tX10_oldLength 1 6 rfl) rfl rfl ?_
        refine go_iinc (at_of tX10_oldLength 1 7 rfl) rfl (by unfold in32; omega) rfl rfl ?_
        refine go_goto (tgt := 9) (at_of tX10_oldLength 1 8 rfl) (by decide) ?_
        exact ih _ _ _ (by omega) (by omega) (by omega) (by omega)
      · rw [if_neg (fun q => hs (ob.mp q)), show s + (0 + cntF (oldB D.1.1 D.1.2.1) m (u + 1)) = s + 0 + cntF (oldB D.1.1 D.1.2.1) m (u + 1) by omega]
        refine go_iload_n (at_of tX10_oldLength 0 7 rfl) rfl ?_
        refine go_aload_n (at_of tX10_oldLength 0 8 rfl) rfl ?_
        refine go_cV (m_many hS1 hN1.1) lk_X10_110 rfl G_109 (at_of tX10_oldLength 0 9 rfl) rfl (by decide) rfl (Nat.le_of_ble_eq_true rfl) rfl (by first | decide | exact ⟨Nat.zero_le _, Nat.zero_le _⟩) ?_
        refine go_icmp_ge (tgt := 41) (at_of tX10_oldLength 0 10 rfl) (by decide) (fun h14 => ?_) (fun h14 => ?_)
        · exfalso; omega
        refine go_iload_n (at_of tX10_oldLength 0 11 rfl) rfl ?_
        refine go_aload_n (at_of tX10_oldLength 0 12 rfl) rfl ?_
        refine go_iload_n (at_of tX10_oldLength 0 13 rfl) rfl ?_
        refine go_iconst (at_of tX10_oldLength 0 14 rfl) (by unfold in32; omega) ?_
        refine go_cV (m_at1 hS1 hN1.1 (by omega)) lk_X10_106 rfl G_109 (at_of tX10_oldLength 0 15 rfl) rfl (by decide) rfl (Nat.le_of_ble_eq_true rfl) rfl (by first | decide | exact ⟨Nat.zero_le _, Nat.zero_le _⟩) ?_
        refine go_iconst (at_of tX10_oldLength 1 0 rfl) (by unfold in32; omega) ?_
        refine go_icmp_ne (tgt := 32) (at_of tX10_oldLength 1 1 rfl) (by decide) (fun h25 => ?_) (fun h25 => ?_)
        rotate_left
        · exfalso; omega
        refine go_iconst (at_of tX10_oldLength 1 4 rfl) (by unfold in32; omega) ?_
        refine go_iadd (at_of tX10_oldLength 1 5 rfl) (by unfold in32; omega) ?_
        refine go_istore_n (at_of tX10_oldLength 1 6 rfl) rfl rfl ?_
        refine go_iinc (at_of tX10_oldLength 1 7 rfl) rfl (by unfold in32; omega) rfl rfl ?_
        refine go_goto (tgt := 9) (at_of tX10_oldLength 1 8 rfl) (by decide) ?_
        exact ih _ _ _ (by omega) (by omega) (by omega) (by omega)
  refine con_of_go mfX10_oldLength.1 trivial (Nat.le_of_ble_eq_true rfl) rfl (by decide) ?_
  show Go _ _ _ _ 0 [vA _, vT 9 0, vT 9 0] [] _ _
  refine go_aload_n (at_of tX10_oldLength 0 0 rfl) rfl ?_
  refine go_iconst (at_of tX10_oldLength 0 1 rfl) (by unfold in32; omega) ?_
  refine go_put1 fp_X10_103 rfl (Or.inl rfl) G_109 (Or.inl rfl) (at_of tX10_oldLength 0 2 rfl) ?_
  refine go_iconst (at_of tX10_oldLength 0 3 rfl) (by unfold in32; omega) ?_
  refine go_istore_n (at_of tX10_oldLength 0 4 rfl) rfl rfl ?_
  refine go_iconst (at_of tX10_oldLength 0 5 rfl) (by unfold in32; omega) ?_
  refine go_istore_n (at_of tX10_oldLength 0 6 rfl) rfl rfl ?_
  have z := key D.1.2.1.toNat (0, 0) 0 0 (by omega) (by omega) (by omega) (by omega)
  rw [Int.zero_add] at z
  exact z
theorem m_oldAt_no (hS : Str σ.2.1) {D : PapD} (hN : RepN (cN σ) D) (hW : WfM D) {i : Int} (h : i < 0 ∨ ixOld D.1.1 D.1.2.1 i = -1) : Con 2 mX10_oldAt 0 0 [vA 109, vI i] σ (vI 0, P1 σ 109 0 1) := by
  obtain ⟨hE, hSg, hMk, hRw⟩ := id hW
  obtain ⟨e1, e2, e3, e4⟩ := id hE
  obtain ⟨b1, b2, b3, b4⟩ := id hN.2.2.2
  have hn2 := hN.1.2.1
  have hl := hN.2.1.2
  have hS1 : Str (P1 σ 109 0 0).2.1 := hS
  have hN1 : RepN (cN (P1 σ 109 0 0)) D := by rw [cN_P1]; exact hN
  have pl := plOf_le (F := D.1.1) (n := D.1.2.1) (i := D.1.2.1)
  have el := endsA_le (F := D.1.1) (n := D.1.2.1) (i := D.1.2.1)
  have pl2 := pl.2 e1
  have el2 := el.2 e1
  have hcc : σ.1 110 (3011 : Int).toNat = D.2.1.1 := hN.2.1.1
  by_cases h0i : 0 ≤ i
  · skip
    refine con_of_go mfX10_oldAt.1 ⟨by omega, by omega⟩ (Nat.le_of_ble_eq_true rfl) rfl (by decide) ?_
    show Go _ _ _ _ 0 [vA _, vI _, vT 9 0] [] _ _
    refine go_iload_n (at_of tX10_oldAt 0 0 rfl) rfl ?_
    refine go_if_ge (tgt := 8) (at_of tX10_oldAt 0 1 rfl) (by decide) (fun h1 => ?_) (fun h1 => ?_)
    rotate_left
    · exfalso; omega
    refine go_aload_n (at_of tX10_oldAt 0 4 rfl) rfl ?_
    refine go_iload_n (at_of tX10_oldAt 0 5 rfl) rfl ?_
    refine go_cV (m_old hS hN hW h0i) lk_X10_210 rfl G_109 (at_of tX10_oldAt 0 6 rfl) rfl (by decide) rfl (Nat.le_of_ble_eq_true rfl) rfl (by first | decide | exact ⟨Nat.zero_le _, Nat.zero_le _⟩) ?_
    refine go_istore_n (at_of tX10_oldAt 0 7 rfl) rfl rfl ?_
    refine go_aload_n (at_of tX10_oldAt 0 8 rfl) rfl ?_
    refine go_iload_n (at_of tX10_oldAt 0 9 rfl) rfl ?_
    refine go_iconst (at_of tX10_oldAt 0 10 rfl) (by unfold in32; omega) ?_
    refine go_icmp_ne (tgt := 24) (at_of tX10_oldAt 0 11 rfl) (by decide) (fun h17 => ?_) (fun h17 => ?_)
    · exfalso; omega
    refine go_iconst (at_of tX10_oldAt 0 12 rfl) (by unfold in32; omega) ?_
    refine go_goto (tgt := 25) (at_of tX10_oldAt 0 13 rfl) (by decide) ?_
    refine go_cV (m_goesOn) lk_X10_141 rfl G_109 (at_of tX10_oldAt 0 15 rfl) rfl (by decide) rfl (Nat.le_of_ble_eq_true rfl) rfl (by first | decide | exact ⟨Nat.zero_le _, Nat.zero_le _⟩) ?_
    refine go_if_eq (tgt := 43) (at_of tX10_oldAt 1 0 rfl) (by decide) (fun h28 => ?_) (fun h28 => ?_)
    rotate_left
    · exfalso; exact h28 (bI_f (by decide))
    refine go_iconst (at_of tX10_oldAt 1 7 rfl) (by unfold in32; omega) ?_
    first | exact go_reti (at_of tX10_oldAt 1 8 rfl) rfl | exact go_reti (at_of tX10_oldAt 1 8 rfl) (le_i (by omega)) | exact go_reti (at_of tX10_oldAt 1 8 rfl) (le_i (by first | exact bI_t (by omega) | exact bI_f (by omega)))
  · skip
    refine con_of_go mfX10_oldAt.1 ⟨by omega, by omega⟩ (Nat.le_of_ble_eq_true rfl) rfl (by decide) ?_
    show Go _ _ _ _ 0 [vA _, vI _, vT 9 0] [] _ _
    refine go_iload_n (at_of tX10_oldAt 0 0 rfl) rfl ?_
    refine go_if_ge (tgt := 8) (at_of tX10_oldAt 0 1 rfl) (by decide) (fun h1 => ?_) (fun h1 => ?_)
    · exfalso; omega
    refine go_iconst (at_of tX10_oldAt 0 2 rfl) (by unfold in32; omega) ?_
    refine go_goto (tgt := 13) (at_of tX10_oldAt 0 3 rfl) (by decide) ?_
    refine go_istore_n (at_of tX10_oldAt 0 7 rfl) rfl rfl ?_
    refine go_aload_n (at_of tX10_oldAt 0 8 rfl) rfl ?_
    refine go_iload_n (at_of tX10_oldAt 0 9 rfl) rfl ?_
    refine go_iconst (at_of tX10_oldAt 0 10 rfl) (by unfold in32; omega) ?_
    refine go_icmp_ne (tgt := 24) (at_of tX10_oldAt 0 11 rfl) (by decide) (fun h17 => ?_) (fun h17 => ?_)
    · exfalso; omega
    refine go_iconst (at_of tX10_oldAt 0 12 rfl) (by unfold in32; omega) ?_
    refine go_goto (tgt := 25) (at_of tX10_oldAt 0 13 rfl) (by decide) ?_
    refine go_cV (m_goesOn) lk_X10_141 rfl G_109 (at_of tX10_oldAt 0 15 rfl) rfl (by decide) rfl (Nat.le_of_ble_eq_true rfl) rfl (by first | decide | exact ⟨Nat.zero_le _, Nat.zero_le _⟩) ?_
    refine go_if_eq (tgt := 43) (at_of tX10_oldAt 1 0 rfl) (by decide) (fun h28 => ?_) (fun h28 => ?_)
    rotate_left
    · exfalso; exact h28 (bI_f (by decide))
    refine go_iconst (at_of tX10_oldAt 1 7 rfl) (by unfold in32; omega) ?_
    first | exact go_reti (at_of tX10_oldAt 1 8 rfl) rfl | exact go_reti (at_of tX10_oldAt 1 8 rfl) (le_i (by omega)) | exact go_reti (at_of tX10_oldAt 1 8 rfl) (le_i (by first | exact bI_t (by omega) | exact bI_f (by omega)))
theorem m_oldAt (hS : Str σ.2.1) {D : PapD} (hN : RepN (cN σ) D) (hW : WfM D) {i : Int} (h0i : 0 ≤ i) (h : ixOld D.1.1 D.1.2.1 i ≠ -1) : Con 2 mX10_oldAt 0 0 [vA 109, vI i] σ (vI (if 1000 ≤ mk0 D.1 (ixOld D.1.1 D.1.2.1 i) then 64 else mk0 D.1 (ixOld D.1.1 D.1.2.1 i) % 65536), P1 σ 109 0 0) := by
  obtain ⟨hE, hSg, hMk, hRw⟩ := id hW
  obtain ⟨e1, e2, e3, e4⟩ := id hE
  obtain ⟨b1, b2, b3, b4⟩ := id hN.2.2.2
  have hn2 := hN.1.2.1
  have hl := hN.2.1.2
  have hS1 : Str (P1 σ 109 0 0).2.1 := hS
  have hN1 : RepN (cN (P1 σ 109 0 0)) D := by rw [cN_P1]; exact hN
  have pl := plOf_le (F := D.1.1) (n := D.1.2.1) (i := D.1.2.1)
  have el := endsA_le (F := D.1.1) (n := D.1.2.1) (i := D.1.2.1)
  have pl2 := pl.2 e1
  have el2 := el.2 e1
  have hcc : σ.1 110 (3011 : Int).toNat = D.2.1.1 := hN.2.1.1
  have hx := (@ixOld_le D.1.1 D.1.2.1 i e1).resolve_left h
  refine con_of_go mfX10_oldAt.1 ⟨by split <;> omega, by split <;> omega⟩ (Nat.le_of_ble_eq_true rfl) rfl (by decide) ?_
  show Go _ _ _ _ 0 [vA _, vI _, vT 9 0] [] _ _
  refine go_iload_n (at_of tX10_oldAt 0 0 rfl) rfl ?_
  refine go_if_ge (tgt := 8) (at_of tX10_oldAt 0 1 rfl) (by decide) (fun h1 => ?_) (fun h1 => ?_)
  rotate_left
  · exfalso; omega
  refine go_aload_n (at_of tX10_oldAt 0 4 rfl) rfl ?_
  refine go_iload_n (at_of tX10_oldAt 0 5 rfl) rfl ?_
  refine go_cV (m_old hS hN hW h0i) lk_X10_210 rfl G_109 (at_of tX10_oldAt 0 6 rfl) rfl (by decide) rfl (Nat.le_of_ble_eq_true rfl) rfl (by first | decide | exact ⟨Nat.zero_le _, Nat.zero_le _⟩) ?_
  refine go_istore_n (at_of tX10_oldAt 0 7 rfl) rfl rfl ?_
  refine go_aload_n (at_of tX10_oldAt 0 8 rfl) rfl ?_
  refine go_iload_n (at_of tX10_oldAt 0 9 rfl) rfl ?_
  refine go_iconst (at_of tX10_oldAt 0 10 rfl) (by unfold in32; omega) ?_
  refine go_icmp_ne (tgt := 24) (at_of tX10_oldAt 0 11 rfl) (by decide) (fun h17 => ?_) (fun h17 => ?_)
  rotate_left
  · exfalso; omega
  refine go_iconst (at_of tX10_oldAt 0 14 rfl) (by unfold in32; omega) ?_
  refine go_cV (m_goesOn) lk_X10_141 rfl G_109 (at_of tX10_oldAt 0 15 rfl) rfl (by decide) rfl (Nat.le_of_ble_eq_true rfl) rfl (by first | decide | exact ⟨Nat.zero_le _, Nat.zero_le _⟩) ?_
  refine go_if_eq (tgt := 43) (at_of tX10_oldAt 1 0 rfl) (by decide) (fun h28 => ?_) (fun h28 => ?_)
  · exfalso; exact absurd h28 (by rw [bI_t rfl]; decide)
  refine go_aload_n (at_of tX10_oldAt 1 1 rfl) rfl ?_
  refine go_iload_n (at_of tX10_oldAt 1 2 rfl) rfl ?_
  refine go_iconst (at_of tX10_oldAt 1 3 rfl) (by unfold in32; omega) ?_
  refine go_cV (m_at0 hS1 hN1.1 (by omega)) lk_X10_106 rfl G_109 (at_of tX10_oldAt 1 4 rfl) rfl (by decide) rfl (Nat.le_of_ble_eq_true rfl) rfl (by first | decide | exact ⟨Nat.zero_le _, Nat.zero_le _⟩) ?_
  refine go_cS (m_told) lk_X10_206 rfl (at_of tX10_oldAt 1 5 rfl) rfl (by decide) rfl (Nat.le_of_ble_eq_true rfl) rfl (by first | decide | exact ⟨Nat.zero_le _, Nat.zero_le _⟩) ?_
  refine go_goto (tgt := 44) (at_of tX10_oldAt 1 6 rfl) (by decide) ?_
  first | exact go_reti (at_of tX10_oldAt 1 8 rfl) rfl | exact go_reti (at_of tX10_oldAt 1 8 rfl) (le_i (by omega)) | exact go_reti (at_of tX10_oldAt 1 8 rfl) (le_i (by first | exact bI_t (by omega) | exact bI_f (by omega)))
theorem m_changeAt_1 (hS : Str σ.2.1) {D : PapD} (hN : RepN (cN σ) D) (hW : WfM D) {p : Int} (h : ¬ (0 ≤ p ∧ p < plOf D.1.1 D.1.2.1 D.1.2.1)) : Con 3 mX10_changeAt 0 0 [vA 109, vI p] σ (vI 0, P1 σ 109 0 1) := by
  obtain ⟨hE, hSg, hMk, hRw⟩ := id hW
  obtain ⟨e1, e2, e3, e4⟩ := id hE
  obtain ⟨b1, b2, b3, b4⟩ := id hN.2.2.2
  have hn2 := hN.1.2.1
  have hl := hN.2.1.2
  have hS1 : Str (P1 σ 109 0 0).2.1 := hS
  have hN1 : RepN (cN (P1 σ 109 0 0)) D := by rw [cN_P1]; exact hN
  have pl := plOf_le (F := D.1.1) (n := D.1.2.1) (i := D.1.2.1)
  have el := endsA_le (F := D.1.1) (n := D.1.2.1) (i := D.1.2.1)
  have pl2 := pl.2 e1
  have el2 := el.2 e1
  have hcc : σ.1 110 (3011 : Int).toNat = D.2.1.1 := hN.2.1.1
  rw [show (0 : Int) = 0 from rfl]
  have g : bI (0 ≤ p ∧ p ≤ plOf D.1.1 D.1.2.1 D.1.2.1 - 1) = 0 := bI_f (by omega)
  refine con_of_go mfX10_changeAt.1 trivial (Nat.le_of_ble_eq_true rfl) rfl (by decide) ?_
  show Go _ _ _ _ 0 [vA _, vI _, vT 9 0, vT 9 0] [] _ _
  refine go_iload_n (at_of tX10_changeAt 0 0 rfl) rfl ?_
  refine go_iconst (at_of tX10_changeAt 0 1 rfl) (by unfold in32; omega) ?_
  refine go_aload_n (at_of tX10_changeAt 0 2 rfl) rfl ?_
  refine go_cV (m_seen hS hN.1 hE hSg) lk_X10_128 rfl G_109 (at_of tX10_changeAt 0 3 rfl) rfl (by decide) rfl (Nat.le_of_ble_eq_true rfl) rfl (by first | decide | exact ⟨Nat.zero_le _, Nat.zero_le _⟩) ?_
  refine go_iconst (at_of tX10_changeAt 0 4 rfl) (by unfold in32; omega) ?_
  refine go_isub (at_of tX10_changeAt 0 5 rfl) (by unfold in32; omega) ?_
  refine go_cS (m_in) lk_X10_124 rfl (at_of tX10_changeAt 0 6 rfl) rfl (by decide) rfl (Nat.le_of_ble_eq_true rfl) rfl (by first | decide | exact ⟨Nat.zero_le _, Nat.zero_le _⟩) ?_
  rw [g]
  refine go_istore_n (at_of tX10_changeAt 0 7 rfl) rfl rfl ?_
  refine go_iload_n (at_of tX10_changeAt 0 8 rfl) rfl ?_
  refine go_if_eq (tgt := 29) (at_of tX10_changeAt 0 9 rfl) (by decide) (fun h13 => ?_) (fun h13 => ?_)
  · first
    | exfalso; omega
    | refine go_iconst (at_of tX10_changeAt 1 1 rfl) (by unfold in32; omega) ?_
      refine go_istore_n (at_of tX10_changeAt 1 2 rfl) rfl rfl ?_
      refine go_aload_n (at_of tX10_changeAt 1 3 rfl) rfl ?_
      refine go_iload_n (at_of tX10_changeAt 1 4 rfl) rfl ?_
      refine go_if_ne (tgt := 40) (at_of tX10_changeAt 1 5 rfl) (by decide) (fun h33 => ?_) (fun h33 => ?_)
      · first
        | exfalso; omega
        | refine go_iload_n (at_of tX10_changeAt 1 8 rfl) rfl ?_
          refine go_iconst (at_of tX10_changeAt 1 9 rfl) (by unfold in32; omega) ?_
          refine go_icmp_ne (tgt := 49) (at_of tX10_changeAt 1 10 rfl) (by decide) (fun h42 => ?_) (fun h42 => ?_)
          · exfalso; omega
          refine go_iconst (at_of tX10_changeAt 1 11 rfl) (by unfold in32; omega) ?_
          refine go_goto (tgt := 50) (at_of tX10_changeAt 1 12 rfl) (by decide) ?_
          refine go_cV (m_goesOn) lk_X10_141 rfl G_109 (at_of tX10_changeAt 1 14 rfl) rfl (by decide) rfl (Nat.le_of_ble_eq_true rfl) rfl (by first | decide | exact ⟨Nat.zero_le _, Nat.zero_le _⟩) ?_
          refine go_if_eq (tgt := 60) (at_of tX10_changeAt 1 15 rfl) (by decide) (fun h53 => ?_) (fun h53 => ?_)
          rotate_left
          · exfalso; exact h53 (bI_f (by decide))
          refine go_iconst (at_of tX10_changeAt 2 2 rfl) (by unfold in32; omega) ?_
          first | exact go_reti (at_of tX10_changeAt 2 3 rfl) rfl | exact go_reti (at_of tX10_changeAt 2 3 rfl) (le_i (by omega)) | exact go_reti (at_of tX10_changeAt 2 3 rfl) (le_i (by first | exact bI_t (by omega) | exact bI_f (by omega)))
      · first
        | exfalso; omega
        | refine go_iconst (at_of tX10_changeAt 1 6 rfl) (by unfold in32; omega) ?_
          refine go_goto (tgt := 50) (at_of tX10_changeAt 1 7 rfl) (by decide) ?_
          refine go_cV (m_goesOn) lk_X10_141 rfl G_109 (at_of tX10_changeAt 1 14 rfl) rfl (by decide) rfl (Nat.le_of_ble_eq_true rfl) rfl (by first | decide | exact ⟨Nat.zero_le _, Nat.zero_le _⟩) ?_
          refine go_if_eq (tgt := 60) (at_of tX10_changeAt 1 15 rfl) (by decide) (fun h53 => ?_) (fun h53 => ?_)
          rotate_left
          · exfalso; exact h53 (bI_f (by decide))
          refine go_iconst (at_of tX10_changeAt 2 2 rfl) (by unfold in32; omega) ?_
          first | exact go_reti (at_of tX10_changeAt 2 3 rfl) rfl | exact go_reti (at_of tX10_changeAt 2 3 rfl) (le_i (by omega)) | exact go_reti (at_of tX10_changeAt 2 3 rfl) (le_i (by first | exact bI_t (by omega) | exact bI_f (by omega)))
  · first
    | exfalso; omega
    | refine go_aload_n (at_of tX10_changeAt 0 10 rfl) rfl ?_
      refine go_aload_n (at_of tX10_changeAt 0 11 rfl) rfl ?_
      refine go_iload_n (at_of tX10_changeAt 0 12 rfl) rfl ?_
      refine go_cV (m_unitOf hS hN.1 hE hSg (by omega) (by omega)) lk_X10_157 rfl G_109 (at_of tX10_changeAt 0 13 rfl) rfl (by decide) rfl (Nat.le_of_ble_eq_true rfl) rfl (by first | decide | exact ⟨Nat.zero_le _, Nat.zero_le _⟩) ?_
      refine go_iconst (at_of tX10_changeAt 0 14 rfl) (by unfold in32; omega) ?_
      refine go_cV (m_at1 hS hN.1 (by omega)) lk_X10_106 rfl G_109 (at_of tX10_changeAt 0 15 rfl) rfl (by decide) rfl (Nat.le_of_ble_eq_true rfl) rfl (by first | decide | exact ⟨Nat.zero_le _, Nat.zero_le _⟩) ?_
      refine go_goto (tgt := 30) (at_of tX10_changeAt 1 0 rfl) (by decide) ?_
      refine go_istore_n (at_of tX10_changeAt 1 2 rfl) rfl rfl ?_
      refine go_aload_n (at_of tX10_changeAt 1 3 rfl) rfl ?_
      refine go_iload_n (at_of tX10_changeAt 1 4 rfl) rfl ?_
      refine go_if_ne (tgt := 40) (at_of tX10_changeAt 1 5 rfl) (by decide) (fun h33 => ?_) (fun h33 => ?_)
      · first
        | exfalso; omega
        | refine go_iload_n (at_of tX10_changeAt 1 8 rfl) rfl ?_
          refine go_iconst (at_of tX10_changeAt 1 9 rfl) (by unfold in32; omega) ?_
          refine go_icmp_ne (tgt := 49) (at_of tX10_changeAt 1 10 rfl) (by decide) (fun h42 => ?_) (fun h42 => ?_)
          · first
            | exfalso; omega
            | refine go_iconst (at_of tX10_changeAt 1 13 rfl) (by unfold in32; omega) ?_
              refine go_cV (m_goesOn) lk_X10_141 rfl G_109 (at_of tX10_changeAt 1 14 rfl) rfl (by decide) rfl (Nat.le_of_ble_eq_true rfl) rfl (by first | decide | exact ⟨Nat.zero_le _, Nat.zero_le _⟩) ?_
              refine go_if_eq (tgt := 60) (at_of tX10_changeAt 1 15 rfl) (by decide) (fun h53 => ?_) (fun h53 => ?_)
              rotate_left
              · exfalso; exact h53 (bI_f (by decide))
              refine go_iconst (at_of tX10_changeAt 2 2 rfl) (by unfold in32; omega) ?_
              first | exact go_reti (at_of tX10_changeAt 2 3 rfl) rfl | exact go_reti (at_of tX10_changeAt 2 3 rfl) (le_i (by omega)) | exact go_reti (at_of tX10_changeAt 2 3 rfl) (le_i (by first | exact bI_t (by omega) | exact bI_f (by omega)))
          · first
            | exfalso; omega
            | refine go_iconst (at_of tX10_changeAt 1 11 rfl) (by unfold in32; omega) ?_
              refine go_goto (tgt := 50) (at_of tX10_changeAt 1 12 rfl) (by decide) ?_
              refine go_cV (m_goesOn) lk_X10_141 rfl G_109 (at_of tX10_changeAt 1 14 rfl) rfl (by decide) rfl (Nat.le_of_ble_eq_true rfl) rfl (by first | decide | exact ⟨Nat.zero_le _, Nat.zero_le _⟩) ?_
              refine go_if_eq (tgt := 60) (at_of tX10_changeAt 1 15 rfl) (by decide) (fun h53 => ?_) (fun h53 => ?_)
              rotate_left
              · exfalso; exact h53 (bI_f (by decide))
              refine go_iconst (at_of tX10_changeAt 2 2 rfl) (by unfold in32; omega) ?_
              first | exact go_reti (at_of tX10_changeAt 2 3 rfl) rfl | exact go_reti (at_of tX10_changeAt 2 3 rfl) (le_i (by omega)) | exact go_reti (at_of tX10_changeAt 2 3 rfl) (le_i (by first | exact bI_t (by omega) | exact bI_f (by omega)))
      · first
        | exfalso; omega
        | refine go_iconst (at_of tX10_changeAt 1 6 rfl) (by unfold in32; omega) ?_
          refine go_goto (tgt := 50) (at_of tX10_changeAt 1 7 rfl) (by decide) ?_
          refine go_cV (m_goesOn) lk_X10_141 rfl G_109 (at_of tX10_changeAt 1 14 rfl) rfl (by decide) rfl (Nat.le_of_ble_eq_true rfl) rfl (by first | decide | exact ⟨Nat.zero_le _, Nat.zero_le _⟩) ?_
          refine go_if_eq (tgt := 60) (at_of tX10_changeAt 1 15 rfl) (by decide) (fun h53 => ?_) (fun h53 => ?_)
          rotate_left
          · exfalso; exact h53 (bI_f (by decide))
          refine go_iconst (at_of tX10_changeAt 2 2 rfl) (by unfold in32; omega) ?_
          first | exact go_reti (at_of tX10_changeAt 2 3 rfl) rfl | exact go_reti (at_of tX10_changeAt 2 3 rfl) (le_i (by omega)) | exact go_reti (at_of tX10_changeAt 2 3 rfl) (le_i (by first | exact bI_t (by omega) | exact bI_f (by omega)))
theorem m_changeAt_2 (hS : Str σ.2.1) {D : PapD} (hN : RepN (cN σ) D) (hW : WfM D) {p : Int} (h : 0 ≤ p ∧ p < plOf D.1.1 D.1.2.1 D.1.2.1) (h2 : D.1.1 2 (ixOf D.1.1 D.1.2.1 p) = -1) : Con 3 mX10_changeAt 0 0 [vA 109, vI p] σ (vI 0, P1 σ 109 0 2) := by
  obtain ⟨hE, hSg, hMk, hRw⟩ := id hW
  obtain ⟨e1, e2, e3, e4⟩ := id hE
  obtain ⟨b1, b2, b3, b4⟩ := id hN.2.2.2
  have hn2 := hN.1.2.1
  have hl := hN.2.1.2
  have hS1 : Str (P1 σ 109 0 0).2.1 := hS
  have hN1 : RepN (cN (P1 σ 109 0 0)) D := by rw [cN_P1]; exact hN
  have pl := plOf_le (F := D.1.1) (n := D.1.2.1) (i := D.1.2.1)
  have el := endsA_le (F := D.1.1) (n := D.1.2.1) (i := D.1.2.1)
  have pl2 := pl.2 e1
  have el2 := el.2 e1
  have hcc : σ.1 110 (3011 : Int).toNat = D.2.1.1 := hN.2.1.1
  obtain ⟨u1, u2, u3, u4⟩ := place_ix hE h.1 (by omega)
  have g : bI (0 ≤ p ∧ p ≤ plOf D.1.1 D.1.2.1 D.1.2.1 - 1) = 1 := bI_t (by omega)
  refine con_of_go mfX10_changeAt.1 trivial (Nat.le_of_ble_eq_true rfl) rfl (by decide) ?_
  show Go _ _ _ _ 0 [vA _, vI _, vT 9 0, vT 9 0] [] _ _
  refine go_iload_n (at_of tX10_changeAt 0 0 rfl) rfl ?_
  refine go_iconst (at_of tX10_changeAt 0 1 rfl) (by unfold in32; omega) ?_
  refine go_aload_n (at_of tX10_changeAt 0 2 rfl) rfl ?_
  refine go_cV (m_seen hS hN.1 hE hSg) lk_X10_128 rfl G_109 (at_of tX10_changeAt 0 3 rfl) rfl (by decide) rfl (Nat.le_of_ble_eq_true rfl) rfl (by first | decide | exact ⟨Nat.zero_le _, Nat.zero_le _⟩) ?_
  refine go_iconst (at_of tX10_changeAt 0 4 rfl) (by unfold in32; omega) ?_
  refine go_isub (at_of tX10_changeAt 0 5 rfl) (by unfold in32; omega) ?_
  refine go_cS (m_in) lk_X10_124 rfl (at_of tX10_changeAt 0 6 rfl) rfl (by decide) rfl (Nat.le_of_ble_eq_true rfl) rfl (by first | decide | exact ⟨Nat.zero_le _, Nat.zero_le _⟩) ?_
  rw [g]
  refine go_istore_n (at_of tX10_changeAt 0 7 rfl) rfl rfl ?_
  refine go_iload_n (at_of tX10_changeAt 0 8 rfl) rfl ?_
  refine go_if_eq (tgt := 29) (at_of tX10_changeAt 0 9 rfl) (by decide) (fun h13 => ?_) (fun h13 => ?_)
  · first
    | exfalso; omega
    | refine go_iconst (at_of tX10_changeAt 1 1 rfl) (by unfold in32; omega) ?_
      refine go_istore_n (at_of tX10_changeAt 1 2 rfl) rfl rfl ?_
      refine go_aload_n (at_of tX10_changeAt 1 3 rfl) rfl ?_
      refine go_iload_n (at_of tX10_changeAt 1 4 rfl) rfl ?_
      refine go_if_ne (tgt := 40) (at_of tX10_changeAt 1 5 rfl) (by decide) (fun h33 => ?_) (fun h33 => ?_)
      · first
        | exfalso; omega
        | refine go_iload_n (at_of tX10_changeAt 1 8 rfl) rfl ?_
          refine go_iconst (at_of tX10_changeAt 1 9 rfl) (by unfold in32; omega) ?_
          refine go_icmp_ne (tgt := 49) (at_of tX10_changeAt 1 10 rfl) (by decide) (fun h42 => ?_) (fun h42 => ?_)
          · exfalso; omega
          refine go_iconst (at_of tX10_changeAt 1 11 rfl) (by unfold in32; omega) ?_
          refine go_goto (tgt := 50) (at_of tX10_changeAt 1 12 rfl) (by decide) ?_
          refine go_cV (m_goesOn) lk_X10_141 rfl G_109 (at_of tX10_changeAt 1 14 rfl) rfl (by decide) rfl (Nat.le_of_ble_eq_true rfl) rfl (by first | decide | exact ⟨Nat.zero_le _, Nat.zero_le _⟩) ?_
          refine go_if_eq (tgt := 60) (at_of tX10_changeAt 1 15 rfl) (by decide) (fun h53 => ?_) (fun h53 => ?_)
          rotate_left
          · exfalso; exact h53 (bI_f (by decide))
          refine go_iconst (at_of tX10_changeAt 2 2 rfl) (by unfold in32; omega) ?_
          first | exact go_reti (at_of tX10_changeAt 2 3 rfl) rfl | exact go_reti (at_of tX10_changeAt 2 3 rfl) (le_i (by omega)) | exact go_reti (at_of tX10_changeAt 2 3 rfl) (le_i (by first | exact bI_t (by omega) | exact bI_f (by omega)))
      · first
        | exfalso; omega
        | refine go_iconst (at_of tX10_changeAt 1 6 rfl) (by unfold in32; omega) ?_
          refine go_goto (tgt := 50) (at_of tX10_changeAt 1 7 rfl) (by decide) ?_
          refine go_cV (m_goesOn) lk_X10_141 rfl G_109 (at_of tX10_changeAt 1 14 rfl) rfl (by decide) rfl (Nat.le_of_ble_eq_true rfl) rfl (by first | decide | exact ⟨Nat.zero_le _, Nat.zero_le _⟩) ?_
          refine go_if_eq (tgt := 60) (at_of tX10_changeAt 1 15 rfl) (by decide) (fun h53 => ?_) (fun h53 => ?_)
          rotate_left
          · exfalso; exact h53 (bI_f (by decide))
          refine go_iconst (at_of tX10_changeAt 2 2 rfl) (by unfold in32; omega) ?_
          first | exact go_reti (at_of tX10_changeAt 2 3 rfl) rfl | exact go_reti (at_of tX10_changeAt 2 3 rfl) (le_i (by omega)) | exact go_reti (at_of tX10_changeAt 2 3 rfl) (le_i (by first | exact bI_t (by omega) | exact bI_f (by omega)))
  · first
    | exfalso; omega
    | refine go_aload_n (at_of tX10_changeAt 0 10 rfl) rfl ?_
      refine go_aload_n (at_of tX10_changeAt 0 11 rfl) rfl ?_
      refine go_iload_n (at_of tX10_changeAt 0 12 rfl) rfl ?_
      refine go_cV (m_unitOf hS hN.1 hE hSg (by omega) (by omega)) lk_X10_157 rfl G_109 (at_of tX10_changeAt 0 13 rfl) rfl (by decide) rfl (Nat.le_of_ble_eq_true rfl) rfl (by first | decide | exact ⟨Nat.zero_le _, Nat.zero_le _⟩) ?_
      refine go_iconst (at_of tX10_changeAt 0 14 rfl) (by unfold in32; omega) ?_
      refine go_cV (m_at1 hS hN.1 (by omega)) lk_X10_106 rfl G_109 (at_of tX10_changeAt 0 15 rfl) rfl (by decide) rfl (Nat.le_of_ble_eq_true rfl) rfl (by first | decide | exact ⟨Nat.zero_le _, Nat.zero_le _⟩) ?_
      refine go_goto (tgt := 30) (at_of tX10_changeAt 1 0 rfl) (by decide) ?_
      refine go_istore_n (at_of tX10_changeAt 1 2 rfl) rfl rfl ?_
      refine go_aload_n (at_of tX10_changeAt 1 3 rfl) rfl ?_
      refine go_iload_n (at_of tX10_changeAt 1 4 rfl) rfl ?_
      refine go_if_ne (tgt := 40) (at_of tX10_changeAt 1 5 rfl) (by decide) (fun h33 => ?_) (fun h33 => ?_)
      · first
        | exfalso; omega
        | refine go_iload_n (at_of tX10_changeAt 1 8 rfl) rfl ?_
          refine go_iconst (at_of tX10_changeAt 1 9 rfl) (by unfold in32; omega) ?_
          refine go_icmp_ne (tgt := 49) (at_of tX10_changeAt 1 10 rfl) (by decide) (fun h42 => ?_) (fun h42 => ?_)
          · exfalso; omega
          refine go_iconst (at_of tX10_changeAt 1 11 rfl) (by unfold in32; omega) ?_
          refine go_goto (tgt := 50) (at_of tX10_changeAt 1 12 rfl) (by decide) ?_
          refine go_cV (m_goesOn) lk_X10_141 rfl G_109 (at_of tX10_changeAt 1 14 rfl) rfl (by decide) rfl (Nat.le_of_ble_eq_true rfl) rfl (by first | decide | exact ⟨Nat.zero_le _, Nat.zero_le _⟩) ?_
          refine go_if_eq (tgt := 60) (at_of tX10_changeAt 1 15 rfl) (by decide) (fun h53 => ?_) (fun h53 => ?_)
          rotate_left
          · exfalso; exact h53 (bI_f (by decide))
          refine go_iconst (at_of tX10_changeAt 2 2 rfl) (by unfold in32; omega) ?_
          first | exact go_reti (at_of tX10_changeAt 2 3 rfl) rfl | exact go_reti (at_of tX10_changeAt 2 3 rfl) (le_i (by omega)) | exact go_reti (at_of tX10_changeAt 2 3 rfl) (le_i (by first | exact bI_t (by omega) | exact bI_f (by omega)))
      · first
        | exfalso; omega
        | refine go_iconst (at_of tX10_changeAt 1 6 rfl) (by unfold in32; omega) ?_
          refine go_goto (tgt := 50) (at_of tX10_changeAt 1 7 rfl) (by decide) ?_
          refine go_cV (m_goesOn) lk_X10_141 rfl G_109 (at_of tX10_changeAt 1 14 rfl) rfl (by decide) rfl (Nat.le_of_ble_eq_true rfl) rfl (by first | decide | exact ⟨Nat.zero_le _, Nat.zero_le _⟩) ?_
          refine go_if_eq (tgt := 60) (at_of tX10_changeAt 1 15 rfl) (by decide) (fun h53 => ?_) (fun h53 => ?_)
          rotate_left
          · exfalso; exact h53 (bI_f (by decide))
          refine go_iconst (at_of tX10_changeAt 2 2 rfl) (by unfold in32; omega) ?_
          first | exact go_reti (at_of tX10_changeAt 2 3 rfl) rfl | exact go_reti (at_of tX10_changeAt 2 3 rfl) (le_i (by omega)) | exact go_reti (at_of tX10_changeAt 2 3 rfl) (le_i (by first | exact bI_t (by omega) | exact bI_f (by omega)))
theorem m_changeAt (hS : Str σ.2.1) {D : PapD} (hN : RepN (cN σ) D) (hW : WfM D) {p : Int} (h : 0 ≤ p ∧ p < plOf D.1.1 D.1.2.1 D.1.2.1) (h2 : D.1.1 2 (ixOf D.1.1 D.1.2.1 p) ≠ -1) : Con 3 mX10_changeAt 0 0 [vA 109, vI p] σ (vI (D.1.1 2 (ixOf D.1.1 D.1.2.1 p)), P1 σ 109 0 0) := by
  obtain ⟨hE, hSg, hMk, hRw⟩ := id hW
  obtain ⟨e1, e2, e3, e4⟩ := id hE
  obtain ⟨b1, b2, b3, b4⟩ := id hN.2.2.2
  have hn2 := hN.1.2.1
  have hl := hN.2.1.2
  have hS1 : Str (P1 σ 109 0 0).2.1 := hS
  have hN1 : RepN (cN (P1 σ 109 0 0)) D := by rw [cN_P1]; exact hN
  have pl := plOf_le (F := D.1.1) (n := D.1.2.1) (i := D.1.2.1)
  have el := endsA_le (F := D.1.1) (n := D.1.2.1) (i := D.1.2.1)
  have pl2 := pl.2 e1
  have el2 := el.2 e1
  have hcc : σ.1 110 (3011 : Int).toNat = D.2.1.1 := hN.2.1.1
  obtain ⟨u1, u2, u3, u4⟩ := place_ix hE h.1 (by omega)
  have g : bI (0 ≤ p ∧ p ≤ plOf D.1.1 D.1.2.1 D.1.2.1 - 1) = 1 := bI_t (by omega)
  refine con_of_go mfX10_changeAt.1 trivial (Nat.le_of_ble_eq_true rfl) rfl (by decide) ?_
  show Go _ _ _ _ 0 [vA _, vI _, vT 9 0, vT 9 0] [] _ _
  refine go_iload_n (at_of tX10_changeAt 0 0 rfl) rfl ?_
  refine go_iconst (at_of tX10_changeAt 0 1 rfl) (by unfold in32; omega) ?_
  refine go_aload_n (at_of tX10_changeAt 0 2 rfl) rfl ?_
  refine go_cV (m_seen hS hN.1 hE hSg) lk_X10_128 rfl G_109 (at_of tX10_changeAt 0 3 rfl) rfl (by decide) rfl (Nat.le_of_ble_eq_true rfl) rfl (by first | decide | exact ⟨Nat.zero_le _, Nat.zero_le _⟩) ?_
  refine go_iconst (at_of tX10_changeAt 0 4 rfl) (by unfold in32; omega) ?_
  refine go_isub (at_of tX10_changeAt 0 5 rfl) (by unfold in32; omega) ?_
  refine go_cS (m_in) lk_X10_124 rfl (at_of tX10_changeAt 0 6 rfl) rfl (by decide) rfl (Nat.le_of_ble_eq_true rfl) rfl (by first | decide | exact ⟨Nat.zero_le _, Nat.zero_le _⟩) ?_
  rw [g]
  refine go_istore_n (at_of tX10_changeAt 0 7 rfl) rfl rfl ?_
  refine go_iload_n (at_of tX10_changeAt 0 8 rfl) rfl ?_
  refine go_if_eq (tgt := 29) (at_of tX10_changeAt 0 9 rfl) (by decide) (fun h13 => ?_) (fun h13 => ?_)
  · first
    | exfalso; omega
    | refine go_iconst (at_of tX10_changeAt 1 1 rfl) (by unfold in32; omega) ?_
      refine go_istore_n (at_of tX10_changeAt 1 2 rfl) rfl rfl ?_
      refine go_aload_n (at_of tX10_changeAt 1 3 rfl) rfl ?_
      refine go_iload_n (at_of tX10_changeAt 1 4 rfl) rfl ?_
      refine go_if_ne (tgt := 40) (at_of tX10_changeAt 1 5 rfl) (by decide) (fun h33 => ?_) (fun h33 => ?_)
      · first
        | exfalso; omega
        | refine go_iload_n (at_of tX10_changeAt 1 8 rfl) rfl ?_
          refine go_iconst (at_of tX10_changeAt 1 9 rfl) (by unfold in32; omega) ?_
          refine go_icmp_ne (tgt := 49) (at_of tX10_changeAt 1 10 rfl) (by decide) (fun h42 => ?_) (fun h42 => ?_)
          rotate_left
          · exfalso; omega
          refine go_iconst (at_of tX10_changeAt 1 13 rfl) (by unfold in32; omega) ?_
          refine go_cV (m_goesOn) lk_X10_141 rfl G_109 (at_of tX10_changeAt 1 14 rfl) rfl (by decide) rfl (Nat.le_of_ble_eq_true rfl) rfl (by first | decide | exact ⟨Nat.zero_le _, Nat.zero_le _⟩) ?_
          refine go_if_eq (tgt := 60) (at_of tX10_changeAt 1 15 rfl) (by decide) (fun h53 => ?_) (fun h53 => ?_)
          · exfalso; exact absurd h53 (by rw [bI_t rfl]; decide)
          refine go_iload_n (at_of tX10_changeAt 2 0 rfl) rfl ?_
          refine go_goto (tgt := 61) (at_of tX10_changeAt 2 1 rfl) (by decide) ?_
          first | exact go_reti (at_of tX10_changeAt 2 3 rfl) rfl | exact go_reti (at_of tX10_changeAt 2 3 rfl) (le_i (by omega)) | exact go_reti (at_of tX10_changeAt 2 3 rfl) (le_i (by first | exact bI_t (by omega) | exact bI_f (by omega)))
      · first
        | exfalso; omega
        | refine go_iconst (at_of tX10_changeAt 1 6 rfl) (by unfold in32; omega) ?_
          refine go_goto (tgt := 50) (at_of tX10_changeAt 1 7 rfl) (by decide) ?_
          refine go_cV (m_goesOn) lk_X10_141 rfl G_109 (at_of tX10_changeAt 1 14 rfl) rfl (by decide) rfl (Nat.le_of_ble_eq_true rfl) rfl (by first | decide | exact ⟨Nat.zero_le _, Nat.zero_le _⟩) ?_
          refine go_if_eq (tgt := 60) (at_of tX10_changeAt 1 15 rfl) (by decide) (fun h53 => ?_) (fun h53 => ?_)
          · exfalso; exact absurd h53 (by rw [bI_t rfl]; decide)
          refine go_iload_n (at_of tX10_changeAt 2 0 rfl) rfl ?_
          refine go_goto (tgt := 61) (at_of tX10_changeAt 2 1 rfl) (by decide) ?_
          first | exact go_reti (at_of tX10_changeAt 2 3 rfl) rfl | exact go_reti (at_of tX10_changeAt 2 3 rfl) (le_i (by omega)) | exact go_reti (at_of tX10_changeAt 2 3 rfl) (le_i (by first | exact bI_t (by omega) | exact bI_f (by omega)))
  · first
    | exfalso; omega
    | refine go_aload_n (at_of tX10_changeAt 0 10 rfl) rfl ?_
      refine go_aload_n (at_of tX10_changeAt 0 11 rfl) rfl ?_
      refine go_iload_n (at_of tX10_changeAt 0 12 rfl) rfl ?_
      refine go_cV (m_unitOf hS hN.1 hE hSg (by omega) (by omega)) lk_X10_157 rfl G_109 (at_of tX10_changeAt 0 13 rfl) rfl (by decide) rfl (Nat.le_of_ble_eq_true rfl) rfl (by first | decide | exact ⟨Nat.zero_le _, Nat.zero_le _⟩) ?_
      refine go_iconst (at_of tX10_changeAt 0 14 rfl) (by unfold in32; omega) ?_
      refine go_cV (m_at1 hS hN.1 (by omega)) lk_X10_106 rfl G_109 (at_of tX10_changeAt 0 15 rfl) rfl (by decide) rfl (Nat.le_of_ble_eq_true rfl) rfl (by first | decide | exact ⟨Nat.zero_le _, Nat.zero_le _⟩) ?_
      refine go_goto (tgt := 30) (at_of tX10_changeAt 1 0 rfl) (by decide) ?_
      refine go_istore_n (at_of tX10_changeAt 1 2 rfl) rfl rfl ?_
      refine go_aload_n (at_of tX10_changeAt 1 3 rfl) rfl ?_
      refine go_iload_n (at_of tX10_changeAt 1 4 rfl) rfl ?_
      refine go_if_ne (tgt := 40) (at_of tX10_changeAt 1 5 rfl) (by decide) (fun h33 => ?_) (fun h33 => ?_)
      · first
        | exfalso; omega
        | refine go_iload_n (at_of tX10_changeAt 1 8 rfl) rfl ?_
          refine go_iconst (at_of tX10_changeAt 1 9 rfl) (by unfold in32; omega) ?_
          refine go_icmp_ne (tgt := 49) (at_of tX10_changeAt 1 10 rfl) (by decide) (fun h42 => ?_) (fun h42 => ?_)
          rotate_left
          · exfalso; omega
          refine go_iconst (at_of tX10_changeAt 1 13 rfl) (by unfold in32; omega) ?_
          refine go_cV (m_goesOn) lk_X10_141 rfl G_109 (at_of tX10_changeAt 1 14 rfl) rfl (by decide) rfl (Nat.le_of_ble_eq_true rfl) rfl (by first | decide | exact ⟨Nat.zero_le _, Nat.zero_le _⟩) ?_
          refine go_if_eq (tgt := 60) (at_of tX10_changeAt 1 15 rfl) (by decide) (fun h53 => ?_) (fun h53 => ?_)
          · exfalso; exact absurd h53 (by rw [bI_t rfl]; decide)
          refine go_iload_n (at_of tX10_changeAt 2 0 rfl) rfl ?_
          refine go_goto (tgt := 61) (at_of tX10_changeAt 2 1 rfl) (by decide) ?_
          first | exact go_reti (at_of tX10_changeAt 2 3 rfl) rfl | exact go_reti (at_of tX10_changeAt 2 3 rfl) (le_i (by omega)) | exact go_reti (at_of tX10_changeAt 2 3 rfl) (le_i (by first | exact bI_t (by omega) | exact bI_f (by omega)))
      · first
        | exfalso; omega
        | refine go_iconst (at_of tX10_changeAt 1 6 rfl) (by unfold in32; omega) ?_
          refine go_goto (tgt := 50) (at_of tX10_changeAt 1 7 rfl) (by decide) ?_
          refine go_cV (m_goesOn) lk_X10_141 rfl G_109 (at_of tX10_changeAt 1 14 rfl) rfl (by decide) rfl (Nat.le_of_ble_eq_true rfl) rfl (by first | decide | exact ⟨Nat.zero_le _, Nat.zero_le _⟩) ?_
          refine go_if_eq (tgt := 60) (at_of tX10_changeAt 1 15 rfl) (by decide) (fun h53 => ?_) (fun h53 => ?_)
          · exfalso; exact absurd h53 (by rw [bI_t rfl]; decide)
          refine go_iload_n (at_of tX10_changeAt 2 0 rfl) rfl ?_
          refine go_goto (tgt := 61) (at_of tX10_changeAt 2 1 rfl) (by decide) ?_
          first | exact go_reti (at_of tX10_changeAt 2 3 rfl) rfl | exact go_reti (at_of tX10_changeAt 2 3 rfl) (le_i (by omega)) | exact go_reti (at_of tX10_changeAt 2 3 rfl) (le_i (by first | exact bI_t (by omega) | exact bI_f (by omega)))
theorem m_fromPlace (hS : Str σ.2.1) {D : PapD} (hN : RepN (cN σ) D) (hW : WfM D) {b : Int} (hb6 : 0 ≤ b ∧ b < 6) : Con 3 mX10_fromPlace 0 0 [vA 109, vI b] σ (vI (bmP D.1 b), σ) := by
  obtain ⟨hE, hSg, hMk, hRw⟩ := id hW
  obtain ⟨e1, e2, e3, e4⟩ := id hE
  obtain ⟨b1, b2, b3, b4⟩ := id hN.2.2.2
  have hn2 := hN.1.2.1
  have hl := hN.2.1.2
  have hS1 : Str (P1 σ 109 0 0).2.1 := hS
  have hN1 : RepN (cN (P1 σ 109 0 0)) D := by rw [cN_P1]; exact hN
  have pl := plOf_le (F := D.1.1) (n := D.1.2.1) (i := D.1.2.1)
  have el := endsA_le (F := D.1.1) (n := D.1.2.1) (i := D.1.2.1)
  have pl2 := pl.2 e1
  have el2 := el.2 e1
  have hcc : σ.1 110 (3011 : Int).toNat = D.2.1.1 := hN.2.1.1
  refine con_of_go mfX10_fromPlace.1 trivial (Nat.le_of_ble_eq_true rfl) rfl (by decide) ?_
  show Go _ _ _ _ 0 [vA _, vI _] [] _ _
  refine go_aload_n (at_of tX10_fromPlace 0 0 rfl) rfl ?_
  refine go_aload_n (at_of tX10_fromPlace 0 1 rfl) rfl ?_
  refine go_getr (q := 110) fl_X10_7 rfl G_109 (by first | exact (hS _ _ rfl).trans rfl | exact (hS1 _ _ rfl).trans rfl | exact (hS2 _ _ rfl).trans rfl | exact (hS3 _ _ rfl).trans rfl | exact (hS4 _ _ rfl).trans rfl) (at_of tX10_fromPlace 0 2 rfl) ?_
  refine go_sipush (at_of tX10_fromPlace 0 3 rfl) (by decide) ?_
  refine go_iload_n (at_of tX10_fromPlace 0 4 rfl) rfl ?_
  refine go_iadd (at_of tX10_fromPlace 0 5 rfl) (by unfold in32; omega) ?_
  refine go_iald G_110 (by omega) (by omega) (at_of tX10_fromPlace 0 6 rfl) ?_
  rw [show σ.1 110 (3193 + b).toNat = D.1.2.2.1 b from (hN.1.2.2.2 b hb6.1 hb6.2).1]
  refine go_cV (m_placeOf hS hN.1 hE hSg (by have := hRw.2.2 b hb6.1 hb6.2; omega)) lk_X10_213 rfl G_109 (at_of tX10_fromPlace 0 7 rfl) rfl (by decide) rfl (Nat.le_of_ble_eq_true rfl) rfl (by first | decide | exact ⟨Nat.zero_le _, Nat.zero_le _⟩) ?_
  first | exact go_reti (at_of tX10_fromPlace 0 8 rfl) rfl | exact go_reti (at_of tX10_fromPlace 0 8 rfl) (le_i (by omega)) | exact go_reti (at_of tX10_fromPlace 0 8 rfl) (le_i (by first | exact bI_t (by omega) | exact bI_f (by omega)))
theorem m_toPlace (hS : Str σ.2.1) {D : PapD} (hN : RepN (cN σ) D) (hW : WfM D) {b : Int} (hb6 : 0 ≤ b ∧ b < 6) : Con 4 mX10_toPlace 0 0 [vA 109, vI b] σ (vI (max (plOf D.1.1 D.1.2.1 (D.1.2.2.2 b)) (bmP D.1 b)), σ) := by
  obtain ⟨hE, hSg, hMk, hRw⟩ := id hW
  obtain ⟨e1, e2, e3, e4⟩ := id hE
  obtain ⟨b1, b2, b3, b4⟩ := id hN.2.2.2
  have hn2 := hN.1.2.1
  have hl := hN.2.1.2
  have hS1 : Str (P1 σ 109 0 0).2.1 := hS
  have hN1 : RepN (cN (P1 σ 109 0 0)) D := by rw [cN_P1]; exact hN
  have pl := plOf_le (F := D.1.1) (n := D.1.2.1) (i := D.1.2.1)
  have el := endsA_le (F := D.1.1) (n := D.1.2.1) (i := D.1.2.1)
  have pl2 := pl.2 e1
  have el2 := el.2 e1
  have hcc : σ.1 110 (3011 : Int).toNat = D.2.1.1 := hN.2.1.1
  refine con_of_go mfX10_toPlace.1 trivial (Nat.le_of_ble_eq_true rfl) rfl (by decide) ?_
  show Go _ _ _ _ 0 [vA _, vI _, vT 9 0] [] _ _
  refine go_aload_n (at_of tX10_toPlace 0 0 rfl) rfl ?_
  refine go_aload_n (at_of tX10_toPlace 0 1 rfl) rfl ?_
  refine go_getr (q := 110) fl_X10_7 rfl G_109 (by first | exact (hS _ _ rfl).trans rfl | exact (hS1 _ _ rfl).trans rfl | exact (hS2 _ _ rfl).trans rfl | exact (hS3 _ _ rfl).trans rfl | exact (hS4 _ _ rfl).trans rfl) (at_of tX10_toPlace 0 2 rfl) ?_
  refine go_sipush (at_of tX10_toPlace 0 3 rfl) (by decide) ?_
  refine go_iload_n (at_of tX10_toPlace 0 4 rfl) rfl ?_
  refine go_iadd (at_of tX10_toPlace 0 5 rfl) (by unfold in32; omega) ?_
  refine go_iald G_110 (by omega) (by omega) (at_of tX10_toPlace 0 6 rfl) ?_
  rw [show σ.1 110 (3199 + b).toNat = D.1.2.2.2 b from (hN.1.2.2.2 b hb6.1 hb6.2).2]
  refine go_cV (m_placeOf hS hN.1 hE hSg (by have := hRw.2.2 b hb6.1 hb6.2; omega)) lk_X10_213 rfl G_109 (at_of tX10_toPlace 0 7 rfl) rfl (by decide) rfl (Nat.le_of_ble_eq_true rfl) rfl (by first | decide | exact ⟨Nat.zero_le _, Nat.zero_le _⟩) ?_
  refine go_istore_n (at_of tX10_toPlace 0 8 rfl) rfl rfl ?_
  refine go_iload_n (at_of tX10_toPlace 0 9 rfl) rfl ?_
  refine go_aload_n (at_of tX10_toPlace 0 10 rfl) rfl ?_
  refine go_iload_n (at_of tX10_toPlace 0 11 rfl) rfl ?_
  refine go_cV (m_fromPlace hS hN hW hb6) lk_X10_257 rfl G_109 (at_of tX10_toPlace 0 12 rfl) rfl (by decide) rfl (Nat.le_of_ble_eq_true rfl) rfl (by first | decide | exact ⟨Nat.zero_le _, Nat.zero_le _⟩) ?_
  refine go_icmp_ge (tgt := 32) (at_of tX10_toPlace 0 13 rfl) (by decide) (fun h21 => ?_) (fun h21 => ?_)
  · refine go_iload_n (at_of tX10_toPlace 1 2 rfl) rfl ?_
    first | exact go_reti (at_of tX10_toPlace 1 3 rfl) rfl | exact go_reti (at_of tX10_toPlace 1 3 rfl) (le_i (by omega)) | exact go_reti (at_of tX10_toPlace 1 3 rfl) (le_i (by first | exact bI_t (by omega) | exact bI_f (by omega)))
  · refine go_aload_n (at_of tX10_toPlace 0 14 rfl) rfl ?_
    refine go_iload_n (at_of tX10_toPlace 0 15 rfl) rfl ?_
    refine go_cV (m_fromPlace hS hN hW hb6) lk_X10_257 rfl G_109 (at_of tX10_toPlace 1 0 rfl) rfl (by decide) rfl (Nat.le_of_ble_eq_true rfl) rfl (by first | decide | exact ⟨Nat.zero_le _, Nat.zero_le _⟩) ?_
    refine go_goto (tgt := 33) (at_of tX10_toPlace 1 1 rfl) (by decide) ?_
    first | exact go_reti (at_of tX10_toPlace 1 3 rfl) rfl | exact go_reti (at_of tX10_toPlace 1 3 rfl) (le_i (by omega)) | exact go_reti (at_of tX10_toPlace 1 3 rfl) (le_i (by first | exact bI_t (by omega) | exact bI_f (by omega)))
theorem m_bookmarkFault (hS : Str σ.2.1) {D : PapD} (hN : RepN (cN σ) D) (hW : WfM D) {b : Int} : Con 2 mX10_bookmarkFault 0 0 [vA 109, vI b] σ (vI (if ¬ (0 ≤ b ∧ b ≤ 5) then (1 : Int) else if D.1.2.2.1 b = -1 then 2 else 0), σ) := by
  obtain ⟨hE, hSg, hMk, hRw⟩ := id hW
  obtain ⟨e1, e2, e3, e4⟩ := id hE
  obtain ⟨b1, b2, b3, b4⟩ := id hN.2.2.2
  have hn2 := hN.1.2.1
  have hl := hN.2.1.2
  have hS1 : Str (P1 σ 109 0 0).2.1 := hS
  have hN1 : RepN (cN (P1 σ 109 0 0)) D := by rw [cN_P1]; exact hN
  have pl := plOf_le (F := D.1.1) (n := D.1.2.1) (i := D.1.2.1)
  have el := endsA_le (F := D.1.1) (n := D.1.2.1) (i := D.1.2.1)
  have pl2 := pl.2 e1
  have el2 := el.2 e1
  have hcc : σ.1 110 (3011 : Int).toNat = D.2.1.1 := hN.2.1.1
  by_cases hb : 0 ≤ b ∧ b ≤ 5
  · rw [if_neg (fun q => q hb)]
    have z : σ.1 110 (3193 + b).toNat = D.1.2.2.1 b := (hN.1.2.2.2 b hb.1 (by omega)).1
    by_cases h1 : D.1.2.2.1 b = -1
    · rw [if_pos h1]
      refine con_of_go mfX10_bookmarkFault.1 trivial (Nat.le_of_ble_eq_true rfl) rfl (by decide) ?_
      show Go _ _ _ _ 0 [vA _, vI _] [] _ _
      refine go_iload_n (at_of tX10_bookmarkFault 0 0 rfl) rfl ?_
      refine go_cS (m_isBookmark) lk_X10_184 rfl (at_of tX10_bookmarkFault 0 1 rfl) rfl (by decide) rfl (Nat.le_of_ble_eq_true rfl) rfl (by first | decide | exact ⟨Nat.zero_le _, Nat.zero_le _⟩) ?_
      refine go_if_ne (tgt := 11) (at_of tX10_bookmarkFault 0 2 rfl) (by decide) (fun h4 => ?_) (fun h4 => ?_)
      rotate_left
      · exfalso; exact bI_0.mp h4 hb
      refine go_aload_n (at_of tX10_bookmarkFault 0 5 rfl) rfl ?_
      refine go_getr (q := 110) fl_X10_7 rfl G_109 (by first | exact (hS _ _ rfl).trans rfl | exact (hS1 _ _ rfl).trans rfl | exact (hS2 _ _ rfl).trans rfl | exact (hS3 _ _ rfl).trans rfl | exact (hS4 _ _ rfl).trans rfl) (at_of tX10_bookmarkFault 0 6 rfl) ?_
      refine go_sipush (at_of tX10_bookmarkFault 0 7 rfl) (by decide) ?_
      refine go_iload_n (at_of tX10_bookmarkFault 0 8 rfl) rfl ?_
      refine go_iadd (at_of tX10_bookmarkFault 0 9 rfl) (by unfold in32; omega) ?_
      refine go_iald G_110 (by omega) (by omega) (at_of tX10_bookmarkFault 0 10 rfl) ?_
      refine go_iconst (at_of tX10_bookmarkFault 0 11 rfl) (by unfold in32; omega) ?_
      refine go_icmp_ne (tgt := 29) (at_of tX10_bookmarkFault 0 12 rfl) (by decide) (fun h22 => ?_) (fun h22 => ?_)
      · exfalso; omega
      refine go_iconst (at_of tX10_bookmarkFault 0 13 rfl) (by unfold in32; omega) ?_
      refine go_goto (tgt := 30) (at_of tX10_bookmarkFault 0 14 rfl) (by decide) ?_
      first | exact go_reti (at_of tX10_bookmarkFault 1 0 rfl) rfl | exact go_reti (at_of tX10_bookmarkFault 1 0 rfl) (le_i (by omega)) | exact go_reti (at_of tX10_bookmarkFault 1 0 rfl) (le_i (by first | exact bI_t (by omega) | exact bI_f (by omega)))
    · rw [if_neg h1]
      refine con_of_go mfX10_bookmarkFault.1 trivial (Nat.le_of_ble_eq_true rfl) rfl (by decide) ?_
      show Go _ _ _ _ 0 [vA _, vI _] [] _ _
      refine go_iload_n (at_of tX10_bookmarkFault 0 0 rfl) rfl ?_
      refine go_cS (m_isBookmark) lk_X10_184 rfl (at_of tX10_bookmarkFault 0 1 rfl) rfl (by decide) rfl (Nat.le_of_ble_eq_true rfl) rfl (by first | decide | exact ⟨Nat.zero_le _, Nat.zero_le _⟩) ?_
      refine go_if_ne (tgt := 11) (at_of tX10_bookmarkFault 0 2 rfl) (by decide) (fun h4 => ?_) (fun h4 => ?_)
      rotate_left
      · exfalso; exact bI_0.mp h4 hb
      refine go_aload_n (at_of tX10_bookmarkFault 0 5 rfl) rfl ?_
      refine go_getr (q := 110) fl_X10_7 rfl G_109 (by first | exact (hS _ _ rfl).trans rfl | exact (hS1 _ _ rfl).trans rfl | exact (hS2 _ _ rfl).trans rfl | exact (hS3 _ _ rfl).trans rfl | exact (hS4 _ _ rfl).trans rfl) (at_of tX10_bookmarkFault 0 6 rfl) ?_
      refine go_sipush (at_of tX10_bookmarkFault 0 7 rfl) (by decide) ?_
      refine go_iload_n (at_of tX10_bookmarkFault 0 8 rfl) rfl ?_
      refine go_iadd (at_of tX10_bookmarkFault 0 9 rfl) (by unfold in32; omega) ?_
      refine go_iald G_110 (by omega) (by omega) (at_of tX10_bookmarkFault 0 10 rfl) ?_
      refine go_iconst (at_of tX10_bookmarkFault 0 11 rfl) (by unfold in32; omega) ?_
      refine go_icmp_ne (tgt := 29) (at_of tX10_bookmarkFault 0 12 rfl) (by decide) (fun h22 => ?_) (fun h22 => ?_)
      rotate_left
      · exfalso; omega
      refine go_iconst (at_of tX10_bookmarkFault 0 15 rfl) (by unfold in32; omega) ?_
      first | exact go_reti (at_of tX10_bookmarkFault 1 0 rfl) rfl | exact go_reti (at_of tX10_bookmarkFault 1 0 rfl) (le_i (by omega)) | exact go_reti (at_of tX10_bookmarkFault 1 0 rfl) (le_i (by first | exact bI_t (by omega) | exact bI_f (by omega)))
  · rw [if_pos hb]
    refine con_of_go mfX10_bookmarkFault.1 trivial (Nat.le_of_ble_eq_true rfl) rfl (by decide) ?_
    show Go _ _ _ _ 0 [vA _, vI _] [] _ _
    refine go_iload_n (at_of tX10_bookmarkFault 0 0 rfl) rfl ?_
    refine go_cS (m_isBookmark) lk_X10_184 rfl (at_of tX10_bookmarkFault 0 1 rfl) rfl (by decide) rfl (Nat.le_of_ble_eq_true rfl) rfl (by first | decide | exact ⟨Nat.zero_le _, Nat.zero_le _⟩) ?_
    refine go_if_ne (tgt := 11) (at_of tX10_bookmarkFault 0 2 rfl) (by decide) (fun h4 => ?_) (fun h4 => ?_)
    · exfalso; exact hb (bI_1.mp h4)
    refine go_iconst (at_of tX10_bookmarkFault 0 3 rfl) (by unfold in32; omega) ?_
    refine go_goto (tgt := 30) (at_of tX10_bookmarkFault 0 4 rfl) (by decide) ?_
    first | exact go_reti (at_of tX10_bookmarkFault 1 0 rfl) rfl | exact go_reti (at_of tX10_bookmarkFault 1 0 rfl) (le_i (by omega)) | exact go_reti (at_of tX10_bookmarkFault 1 0 rfl) (le_i (by first | exact bI_t (by omega) | exact bI_f (by omega)))
theorem m_bookmarkFrom_no (hS : Str σ.2.1) {D : PapD} (hN : RepN (cN σ) D) (hW : WfM D) {b : Int} (h : (if ¬ (0 ≤ b ∧ b ≤ 5) then (1 : Int) else if D.1.2.2.1 b = -1 then 2 else 0) ≠ 0) : Con 4 mX10_bookmarkFrom 0 0 [vA 109, vI b] σ (vI 0, P1 σ 109 0 (if ¬ (0 ≤ b ∧ b ≤ 5) then (1 : Int) else if D.1.2.2.1 b = -1 then 2 else 0)) := by
  obtain ⟨hE, hSg, hMk, hRw⟩ := id hW
  obtain ⟨e1, e2, e3, e4⟩ := id hE
  obtain ⟨b1, b2, b3, b4⟩ := id hN.2.2.2
  have hn2 := hN.1.2.1
  have hl := hN.2.1.2
  have hS1 : Str (P1 σ 109 0 0).2.1 := hS
  have hN1 : RepN (cN (P1 σ 109 0 0)) D := by rw [cN_P1]; exact hN
  have pl := plOf_le (F := D.1.1) (n := D.1.2.1) (i := D.1.2.1)
  have el := endsA_le (F := D.1.1) (n := D.1.2.1) (i := D.1.2.1)
  have pl2 := pl.2 e1
  have el2 := el.2 e1
  have hcc : σ.1 110 (3011 : Int).toNat = D.2.1.1 := hN.2.1.1
  refine con_of_go mfX10_bookmarkFrom.1 trivial (Nat.le_of_ble_eq_true rfl) rfl (by decide) ?_
  show Go _ _ _ _ 0 [vA _, vI _] [] _ _
  refine go_aload_n (at_of tX10_bookmarkFrom 0 0 rfl) rfl ?_
  refine go_aload_n (at_of tX10_bookmarkFrom 0 1 rfl) rfl ?_
  refine go_iload_n (at_of tX10_bookmarkFrom 0 2 rfl) rfl ?_
  refine go_cV (m_bookmarkFault hS hN hW) lk_X10_260 rfl G_109 (at_of tX10_bookmarkFrom 0 3 rfl) rfl (by decide) rfl (Nat.le_of_ble_eq_true rfl) rfl (by first | decide | exact ⟨Nat.zero_le _, Nat.zero_le _⟩) ?_
  refine go_cV (m_goesOn) lk_X10_141 rfl G_109 (at_of tX10_bookmarkFrom 0 4 rfl) rfl (by decide) rfl (Nat.le_of_ble_eq_true rfl) rfl (by first | decide | exact ⟨Nat.zero_le _, Nat.zero_le _⟩) ?_
  refine go_if_eq (tgt := 20) (at_of tX10_bookmarkFrom 0 5 rfl) (by decide) (fun h9 => ?_) (fun h9 => ?_)
  rotate_left
  · exfalso; exact h (bI_1.mp h9)
  refine go_iconst (at_of tX10_bookmarkFrom 0 10 rfl) (by unfold in32; omega) ?_
  first | exact go_reti (at_of tX10_bookmarkFrom 0 11 rfl) rfl | exact go_reti (at_of tX10_bookmarkFrom 0 11 rfl) (le_i (by omega)) | exact go_reti (at_of tX10_bookmarkFrom 0 11 rfl) (le_i (by first | exact bI_t (by omega) | exact bI_f (by omega)))
theorem m_bookmarkFrom (hS : Str σ.2.1) {D : PapD} (hN : RepN (cN σ) D) (hW : WfM D) {b : Int} (hb6 : 0 ≤ b ∧ b < 6) (h2 : D.1.2.2.1 b ≠ -1) : Con 4 mX10_bookmarkFrom 0 0 [vA 109, vI b] σ (vI (bmP D.1 b), P1 σ 109 0 0) := by
  obtain ⟨hE, hSg, hMk, hRw⟩ := id hW
  obtain ⟨e1, e2, e3, e4⟩ := id hE
  obtain ⟨b1, b2, b3, b4⟩ := id hN.2.2.2
  have hn2 := hN.1.2.1
  have hl := hN.2.1.2
  have hS1 : Str (P1 σ 109 0 0).2.1 := hS
  have hN1 : RepN (cN (P1 σ 109 0 0)) D := by rw [cN_P1]; exact hN
  have pl := plOf_le (F := D.1.1) (n := D.1.2.1) (i := D.1.2.1)
  have el := endsA_le (F := D.1.1) (n := D.1.2.1) (i := D.1.2.1)
  have pl2 := pl.2 e1
  have el2 := el.2 e1
  have hcc : σ.1 110 (3011 : Int).toNat = D.2.1.1 := hN.2.1.1
  have g : (if ¬ (0 ≤ b ∧ b ≤ 5) then (1 : Int) else if D.1.2.2.1 b = -1 then 2 else 0) = 0 := by rw [if_neg (fun q => q (by omega)), if_neg h2]
  have mb := m_bookmarkFault hS hN hW (b := b)
  rw [g] at mb
  refine con_of_go mfX10_bookmarkFrom.1 trivial (Nat.le_of_ble_eq_true rfl) rfl (by decide) ?_
  show Go _ _ _ _ 0 [vA _, vI _] [] _ _
  refine go_aload_n (at_of tX10_bookmarkFrom 0 0 rfl) rfl ?_
  refine go_aload_n (at_of tX10_bookmarkFrom 0 1 rfl) rfl ?_
  refine go_iload_n (at_of tX10_bookmarkFrom 0 2 rfl) rfl ?_
  refine go_cV (mb) lk_X10_260 rfl G_109 (at_of tX10_bookmarkFrom 0 3 rfl) rfl (by decide) rfl (Nat.le_of_ble_eq_true rfl) rfl (by first | decide | exact ⟨Nat.zero_le _, Nat.zero_le _⟩) ?_
  refine go_cV (m_goesOn) lk_X10_141 rfl G_109 (at_of tX10_bookmarkFrom 0 4 rfl) rfl (by decide) rfl (Nat.le_of_ble_eq_true rfl) rfl (by first | decide | exact ⟨Nat.zero_le _, Nat.zero_le _⟩) ?_
  refine go_if_eq (tgt := 20) (at_of tX10_bookmarkFrom 0 5 rfl) (by decide) (fun h9 => ?_) (fun h9 => ?_)
  · exfalso; exact absurd h9 (by rw [bI_t rfl]; decide)
  refine go_aload_n (at_of tX10_bookmarkFrom 0 6 rfl) rfl ?_
  refine go_iload_n (at_of tX10_bookmarkFrom 0 7 rfl) rfl ?_
  refine go_cV (m_fromPlace hS1 hN1 hW hb6) lk_X10_257 rfl G_109 (at_of tX10_bookmarkFrom 0 8 rfl) rfl (by decide) rfl (Nat.le_of_ble_eq_true rfl) rfl (by first | decide | exact ⟨Nat.zero_le _, Nat.zero_le _⟩) ?_
  refine go_goto (tgt := 21) (at_of tX10_bookmarkFrom 0 9 rfl) (by decide) ?_
  first | exact go_reti (at_of tX10_bookmarkFrom 0 11 rfl) rfl | exact go_reti (at_of tX10_bookmarkFrom 0 11 rfl) (le_i (by omega)) | exact go_reti (at_of tX10_bookmarkFrom 0 11 rfl) (le_i (by first | exact bI_t (by omega) | exact bI_f (by omega)))
theorem m_bookmarkTo_no (hS : Str σ.2.1) {D : PapD} (hN : RepN (cN σ) D) (hW : WfM D) {b : Int} (h : (if ¬ (0 ≤ b ∧ b ≤ 5) then (1 : Int) else if D.1.2.2.1 b = -1 then 2 else 0) ≠ 0) : Con 5 mX10_bookmarkTo 0 0 [vA 109, vI b] σ (vI 0, P1 σ 109 0 (if ¬ (0 ≤ b ∧ b ≤ 5) then (1 : Int) else if D.1.2.2.1 b = -1 then 2 else 0)) := by
  obtain ⟨hE, hSg, hMk, hRw⟩ := id hW
  obtain ⟨e1, e2, e3, e4⟩ := id hE
  obtain ⟨b1, b2, b3, b4⟩ := id hN.2.2.2
  have hn2 := hN.1.2.1
  have hl := hN.2.1.2
  have hS1 : Str (P1 σ 109 0 0).2.1 := hS
  have hN1 : RepN (cN (P1 σ 109 0 0)) D := by rw [cN_P1]; exact hN
  have pl := plOf_le (F := D.1.1) (n := D.1.2.1) (i := D.1.2.1)
  have el := endsA_le (F := D.1.1) (n := D.1.2.1) (i := D.1.2.1)
  have pl2 := pl.2 e1
  have el2 := el.2 e1
  have hcc : σ.1 110 (3011 : Int).toNat = D.2.1.1 := hN.2.1.1
  refine con_of_go mfX10_bookmarkTo.1 trivial (Nat.le_of_ble_eq_true rfl) rfl (by decide) ?_
  show Go _ _ _ _ 0 [vA _, vI _] [] _ _
  refine go_aload_n (at_of tX10_bookmarkTo 0 0 rfl) rfl ?_
  refine go_aload_n (at_of tX10_bookmarkTo 0 1 rfl) rfl ?_
  refine go_iload_n (at_of tX10_bookmarkTo 0 2 rfl) rfl ?_
  refine go_cV (m_bookmarkFault hS hN hW) lk_X10_260 rfl G_109 (at_of tX10_bookmarkTo 0 3 rfl) rfl (by decide) rfl (Nat.le_of_ble_eq_true rfl) rfl (by first | decide | exact ⟨Nat.zero_le _, Nat.zero_le _⟩) ?_
  refine go_cV (m_goesOn) lk_X10_141 rfl G_109 (at_of tX10_bookmarkTo 0 4 rfl) rfl (by decide) rfl (Nat.le_of_ble_eq_true rfl) rfl (by first | decide | exact ⟨Nat.zero_le _, Nat.zero_le _⟩) ?_
  refine go_if_eq (tgt := 20) (at_of tX10_bookmarkTo 0 5 rfl) (by decide) (fun h9 => ?_) (fun h9 => ?_)
  rotate_left
  · exfalso; exact h (bI_1.mp h9)
  refine go_iconst (at_of tX10_bookmarkTo 0 10 rfl) (by unfold in32; omega) ?_
  first | exact go_reti (at_of tX10_bookmarkTo 0 11 rfl) rfl | exact go_reti (at_of tX10_bookmarkTo 0 11 rfl) (le_i (by omega)) | exact go_reti (at_of tX10_bookmarkTo 0 11 rfl) (le_i (by first | exact bI_t (by omega) | exact bI_f (by omega)))
theorem m_bookmarkTo (hS : Str σ.2.1) {D : PapD} (hN : RepN (cN σ) D) (hW : WfM D) {b : Int} (hb6 : 0 ≤ b ∧ b < 6) (h2 : D.1.2.2.1 b ≠ -1) : Con 5 mX10_bookmarkTo 0 0 [vA 109, vI b] σ (vI (max (plOf D.1.1 D.1.2.1 (D.1.2.2.2 b)) (bmP D.1 b)), P1 σ 109 0 0) := by
  obtain ⟨hE, hSg, hMk, hRw⟩ := id hW
  obtain ⟨e1, e2, e3, e4⟩ := id hE
  obtain ⟨b1, b2, b3, b4⟩ := id hN.2.2.2
  have hn2 := hN.1.2.1
  have hl := hN.2.1.2
  have hS1 : Str (P1 σ 109 0 0).2.1 := hS
  have hN1 : RepN (cN (P1 σ 109 0 0)) D := by rw [cN_P1]; exact hN
  have pl := plOf_le (F := D.1.1) (n := D.1.2.1) (i := D.1.2.1)
  have el := endsA_le (F := D.1.1) (n := D.1.2.1) (i := D.1.2.1)
  have pl2 := pl.2 e1
  have el2 := el.2 e1
  have hcc : σ.1 110 (3011 : Int).toNat = D.2.1.1 := hN.2.1.1
  have g : (if ¬ (0 ≤ b ∧ b ≤ 5) then (1 : Int) else if D.1.2.2.1 b = -1 then 2 else 0) = 0 := by rw [if_neg (fun q => q (by omega)), if_neg h2]
  have mb := m_bookmarkFault hS hN hW (b := b)
  rw [g] at mb
  refine con_of_go mfX10_bookmarkTo.1 trivial (Nat.le_of_ble_eq_true rfl) rfl (by decide) ?_
  show Go _ _ _ _ 0 [vA _, vI _] [] _ _
  refine go_aload_n (at_of tX10_bookmarkTo 0 0 rfl) rfl ?_
  refine go_aload_n (at_of tX10_bookmarkTo 0 1 rfl) rfl ?_
  refine go_iload_n (at_of tX10_bookmarkTo 0 2 rfl) rfl ?_
  refine go_cV (mb) lk_X10_260 rfl G_109 (at_of tX10_bookmarkTo 0 3 rfl) rfl (by decide) rfl (Nat.le_of_ble_eq_true rfl) rfl (by first | decide | exact ⟨Nat.zero_le _, Nat.zero_le _⟩) ?_
  refine go_cV (m_goesOn) lk_X10_141 rfl G_109 (at_of tX10_bookmarkTo 0 4 rfl) rfl (by decide) rfl (Nat.le_of_ble_eq_true rfl) rfl (by first | decide | exact ⟨Nat.zero_le _, Nat.zero_le _⟩) ?_
  refine go_if_eq (tgt := 20) (at_of tX10_bookmarkTo 0 5 rfl) (by decide) (fun h9 => ?_) (fun h9 => ?_)
  · exfalso; exact absurd h9 (by rw [bI_t rfl]; decide)
  refine go_aload_n (at_of tX10_bookmarkTo 0 6 rfl) rfl ?_
  refine go_iload_n (at_of tX10_bookmarkTo 0 7 rfl) rfl ?_
  refine go_cV (m_toPlace hS1 hN1 hW hb6) lk_X10_263 rfl G_109 (at_of tX10_bookmarkTo 0 8 rfl) rfl (by decide) rfl (Nat.le_of_ble_eq_true rfl) rfl (by first | decide | exact ⟨Nat.zero_le _, Nat.zero_le _⟩) ?_
  refine go_goto (tgt := 21) (at_of tX10_bookmarkTo 0 9 rfl) (by decide) ?_
  first | exact go_reti (at_of tX10_bookmarkTo 0 11 rfl) rfl | exact go_reti (at_of tX10_bookmarkTo 0 11 rfl) (le_i (by omega)) | exact go_reti (at_of tX10_bookmarkTo 0 11 rfl) (le_i (by first | exact bI_t (by omega) | exact bI_f (by omega)))
end Mod8
