/-! The reference: its row of numbers, and its questions. -/
section Mod
variable {σ : St}
def cN (σ : St) : Int → Int := fun j => σ.1 110 j.toNat
def mk0 (R : RowD) (i : Int) : Int := if R.1 1 i = -1 then R.1 0 i else 1000 + R.1 1 i
/-- numbers that hold a row, a log, results -/
def RepNr (c : Int → Int) (R : RowD) : Prop := c 3010 = R.2.1 ∧
  (∀ i, 0 ≤ i → i ≤ R.2.1 → c (10 * i + 0) = mk0 R i ∧ c (10 * i + 1) = R.1 2 i ∧ c (10 * i + 2) = R.1 3 i ∧ c (10 * i + 9) = R.1 4 i) ∧
  (∀ i, 0 ≤ i → i ≤ R.2.1 → R.1 0 i = 47 → c (10 * i + 3) = R.1 5 i ∧ c (10 * i + 4) = R.1 7 i ∧ c (10 * i + 5) = R.1 8 i ∧ c (10 * i + 6) = R.1 9 i ∧ c (10 * i + 7) = R.1 10 i ∧ c (10 * i + 8) = R.1 6 i) ∧
  ∀ b, 0 ≤ b → b < 6 → c (3193 + b) = R.2.2.1 b ∧ c (3199 + b) = R.2.2.2 b
def RepNl (c : Int → Int) (L : LogD) : Prop := c 3011 = L.1 ∧ ∀ j, 0 ≤ j → j < L.1 → c (3013 + j) = L.2.2.1 j ∧ c (3073 + j) = L.2.2.2 j ∧ c (3133 + j) = L.2.1 j
def RepNq (c : Int → Int) (Q : Int → Int) : Prop := ∀ f, 0 ≤ f → f < 20 → c (3205 + f) = Q f
def BdD (D : PapD) : Prop := 0 ≤ D.1.2.1 ∧ D.1.2.1 ≤ 200 ∧ 0 ≤ D.2.1.1 ∧ D.2.1.1 ≤ 60
def RepN (c : Int → Int) (D : PapD) : Prop := RepNr c D.1 ∧ RepNl c D.2.1 ∧ RepNq c D.2.2 ∧ BdD D
theorem mk0_47 {R : RowD} (hSg : SgW R) {i : Int} (h0 : 0 ≤ i) (h1 : i ≤ R.2.1) : mk0 R i = 47 ↔ R.1 0 i = 47 := by
  unfold mk0
  rcases hSg i h0 h1 with h | h
  · rw [if_pos h]
  · rw [if_neg (by omega)]; omega
theorem m_in {v l h : Int} : Con 0 mX10_in 0 0 [vI v, vI l, vI h] σ (vI (bI (l ≤ v ∧ v ≤ h)), σ) := by
  refine con_of_go mfX10_in.1 bI_01 (Nat.le_of_ble_eq_true rfl) rfl (by decide) ?_
  show Go _ _ _ _ 0 [vI _, vI _, vI _] [] _ _
  refine go_iload_n (at_of tX10_in 0 0 rfl) rfl ?_
  refine go_iload_n (at_of tX10_in 0 1 rfl) rfl ?_
  refine go_icmp_lt (tgt := 14) (at_of tX10_in 0 2 rfl) (by decide) (fun h2 => ?_) (fun h2 => ?_)
  · first
    | exfalso; omega
    | refine go_iconst (at_of tX10_in 0 8 rfl) (by unfold in32; omega) ?_
      first | exact go_reti (at_of tX10_in 0 9 rfl) rfl | exact go_reti (at_of tX10_in 0 9 rfl) (le_i (by omega)) | exact go_reti (at_of tX10_in 0 9 rfl) (le_i (by first | exact bI_t (by omega) | exact bI_f (by omega)))
  · first
    | exfalso; omega
    | refine go_iload_n (at_of tX10_in 0 3 rfl) rfl ?_
      refine go_iload_n (at_of tX10_in 0 4 rfl) rfl ?_
      refine go_icmp_gt (tgt := 14) (at_of tX10_in 0 5 rfl) (by decide) (fun h7 => ?_) (fun h7 => ?_)
      · first
        | exfalso; omega
        | refine go_iconst (at_of tX10_in 0 8 rfl) (by unfold in32; omega) ?_
          first | exact go_reti (at_of tX10_in 0 9 rfl) rfl | exact go_reti (at_of tX10_in 0 9 rfl) (le_i (by omega)) | exact go_reti (at_of tX10_in 0 9 rfl) (le_i (by first | exact bI_t (by omega) | exact bI_f (by omega)))
      · first
        | exfalso; omega
        | refine go_iconst (at_of tX10_in 0 6 rfl) (by unfold in32; omega) ?_
          refine go_goto (tgt := 15) (at_of tX10_in 0 7 rfl) (by decide) ?_
          first | exact go_reti (at_of tX10_in 0 9 rfl) rfl | exact go_reti (at_of tX10_in 0 9 rfl) (le_i (by omega)) | exact go_reti (at_of tX10_in 0 9 rfl) (le_i (by first | exact bI_t (by omega) | exact bI_f (by omega)))
theorem m_isAuthor {a : Int} : Con 1 mX10_isAuthor 0 0 [vI a] σ (vI (bI (0 ≤ a ∧ a ≤ 3)), σ) := by
  refine con_of_go mfX10_isAuthor.1 bI_01 (Nat.le_of_ble_eq_true rfl) rfl (by decide) ?_
  show Go _ _ _ _ 0 [vI _] [] _ _
  refine go_iload_n (at_of tX10_isAuthor 0 0 rfl) rfl ?_
  refine go_iconst (at_of tX10_isAuthor 0 1 rfl) (by unfold in32; omega) ?_
  refine go_iconst (at_of tX10_isAuthor 0 2 rfl) (by unfold in32; omega) ?_
  refine go_cS (m_in) lk_X10_124 rfl (at_of tX10_isAuthor 0 3 rfl) rfl (by decide) rfl (Nat.le_of_ble_eq_true rfl) rfl (by first | decide | exact ⟨Nat.zero_le _, Nat.zero_le _⟩) ?_
  first | exact go_reti (at_of tX10_isAuthor 0 4 rfl) rfl | exact go_reti (at_of tX10_isAuthor 0 4 rfl) (le_i (by omega)) | exact go_reti (at_of tX10_isAuthor 0 4 rfl) (le_i (by first | exact bI_t (by omega) | exact bI_f (by omega)))
theorem m_goesOn {z : Int} : Con 0 mX10_goesOn 0 0 [vA 109, vI z] σ (vI (bI (z = 0)), P1 σ 109 0 z) := by
  refine con_of_go mfX10_goesOn.1 bI_01 (Nat.le_of_ble_eq_true rfl) rfl (by decide) ?_
  show Go _ _ _ _ 0 [vA _, vI _] [] _ _
  refine go_aload_n (at_of tX10_goesOn 0 0 rfl) rfl ?_
  refine go_iload_n (at_of tX10_goesOn 0 1 rfl) rfl ?_
  refine go_put1 fp_X10_103 rfl (Or.inl rfl) G_109 (Or.inl rfl) (at_of tX10_goesOn 0 2 rfl) ?_
  refine go_iload_n (at_of tX10_goesOn 0 3 rfl) rfl ?_
  refine go_if_ne (tgt := 13) (at_of tX10_goesOn 0 4 rfl) (by decide) (fun h6 => ?_) (fun h6 => ?_)
  · first
    | exfalso; omega
    | refine go_iconst (at_of tX10_goesOn 0 7 rfl) (by unfold in32; omega) ?_
      first | exact go_reti (at_of tX10_goesOn 0 8 rfl) rfl | exact go_reti (at_of tX10_goesOn 0 8 rfl) (le_i (by omega)) | exact go_reti (at_of tX10_goesOn 0 8 rfl) (le_i (by first | exact bI_t (by omega) | exact bI_f (by omega)))
  · first
    | exfalso; omega
    | refine go_iconst (at_of tX10_goesOn 0 5 rfl) (by unfold in32; omega) ?_
      refine go_goto (tgt := 14) (at_of tX10_goesOn 0 6 rfl) (by decide) ?_
      first | exact go_reti (at_of tX10_goesOn 0 8 rfl) rfl | exact go_reti (at_of tX10_goesOn 0 8 rfl) (le_i (by omega)) | exact go_reti (at_of tX10_goesOn 0 8 rfl) (le_i (by first | exact bI_t (by omega) | exact bI_f (by omega)))
theorem m_thrown : Con 0 mX10_thrown 0 0 [vA 109] σ (vI (σ.1 109 0), σ) := by
  refine con_of_go mfX10_thrown.1 trivial (Nat.le_of_ble_eq_true rfl) rfl (by decide) ?_
  show Go _ _ _ _ 0 [vA _] [] _ _
  refine go_aload_n (at_of tX10_thrown 0 0 rfl) rfl ?_
  refine go_getf fl_X10_103 rfl G_109 (at_of tX10_thrown 0 1 rfl) ?_
  first | exact go_reti (at_of tX10_thrown 0 2 rfl) rfl | exact go_reti (at_of tX10_thrown 0 2 rfl) (le_i (by omega)) | exact go_reti (at_of tX10_thrown 0 2 rfl) (le_i (by first | exact bI_t (by omega) | exact bI_f (by omega)))
theorem m_at (hS : Str σ.2.1) {u p : Int} (h : 0 ≤ u ∧ u ≤ 321 ∧ 0 ≤ p ∧ p ≤ 9) : Con 0 mX10_at 0 0 [vA 109, vI u, vI p] σ (vI (σ.1 110 (10 * u + p).toNat), σ) := by
  refine con_of_go mfX10_at.1 trivial (Nat.le_of_ble_eq_true rfl) rfl (by decide) ?_
  show Go _ _ _ _ 0 [vA _, vI _, vI _] [] _ _
  refine go_aload_n (at_of tX10_at 0 0 rfl) rfl ?_
  refine go_getr (q := 110) fl_X10_7 rfl G_109 ((hS _ _ rfl).trans rfl) (at_of tX10_at 0 1 rfl) ?_
  refine go_bipush (at_of tX10_at 0 2 rfl) (by decide) ?_
  refine go_iload_n (at_of tX10_at 0 3 rfl) rfl ?_
  refine go_imul (at_of tX10_at 0 4 rfl) (by unfold in32; omega) ?_
  refine go_iload_n (at_of tX10_at 0 5 rfl) rfl ?_
  refine go_iadd (at_of tX10_at 0 6 rfl) (by unfold in32; omega) ?_
  refine go_iald G_110 (by omega) (by omega) (at_of tX10_at 0 7 rfl) ?_
  first | exact go_reti (at_of tX10_at 0 8 rfl) rfl | exact go_reti (at_of tX10_at 0 8 rfl) (le_i (by omega)) | exact go_reti (at_of tX10_at 0 8 rfl) (le_i (by first | exact bI_t (by omega) | exact bI_f (by omega)))
theorem m_setAt (hS : Str σ.2.1) {u p z : Int} (h : 0 ≤ u ∧ u ≤ 321 ∧ 0 ≤ p ∧ p ≤ 9) : Con 0 mX10_setAt 0 0 [vA 109, vI u, vI p, vI z] σ (vT 8 0, M1 σ 110 (10 * u + p) z) := by
  refine con_of_go mfX10_setAt.1 trivial (Nat.le_of_ble_eq_true rfl) rfl (by decide) ?_
  show Go _ _ _ _ 0 [vA _, vI _, vI _, vI _] [] _ _
  refine go_aload_n (at_of tX10_setAt 0 0 rfl) rfl ?_
  refine go_getr (q := 110) fl_X10_7 rfl G_109 ((hS _ _ rfl).trans rfl) (at_of tX10_setAt 0 1 rfl) ?_
  refine go_bipush (at_of tX10_setAt 0 2 rfl) (by decide) ?_
  refine go_iload_n (at_of tX10_setAt 0 3 rfl) rfl ?_
  refine go_imul (at_of tX10_setAt 0 4 rfl) (by unfold in32; omega) ?_
  refine go_iload_n (at_of tX10_setAt 0 5 rfl) rfl ?_
  refine go_iadd (at_of tX10_setAt 0 6 rfl) (by unfold in32; omega) ?_
  refine go_iload_n (at_of tX10_setAt 0 7 rfl) rfl ?_
  refine go_iast1 G_110 (by omega) (by omega) (at_of tX10_setAt 0 8 rfl) ?_
  exact go_retv (at_of tX10_setAt 0 9 rfl) rfl
theorem m_many (hS : Str σ.2.1) {R : RowD} (hN : RepNr (cN σ) R) : Con 0 mX10_many 0 0 [vA 109] σ (vI R.2.1, σ) := by
  have n1 : σ.1 110 (3010 : Int).toNat = R.2.1 := hN.1
  refine con_of_go mfX10_many.1 trivial (Nat.le_of_ble_eq_true rfl) rfl (by decide) ?_
  show Go _ _ _ _ 0 [vA _] [] _ _
  refine go_aload_n (at_of tX10_many 0 0 rfl) rfl ?_
  refine go_getr (q := 110) fl_X10_7 rfl G_109 ((hS _ _ rfl).trans rfl) (at_of tX10_many 0 1 rfl) ?_
  refine go_sipush (at_of tX10_many 0 2 rfl) (by decide) ?_
  refine go_iald G_110 (by omega) (by omega) (at_of tX10_many 0 3 rfl) ?_
  exact go_reti (at_of tX10_many 0 4 rfl) (le_i n1.symm)
theorem m_at0 (hS : Str σ.2.1) {R : RowD} (hN : RepNr (cN σ) R) {u : Int} (hu : 0 ≤ u ∧ u ≤ R.2.1 ∧ R.2.1 ≤ 200) : Con 0 mX10_at 0 0 [vA 109, vI u, vI 0] σ (vI (mk0 R u), σ) := by
  have z : σ.1 110 (10 * u + 0).toNat = mk0 R u := (hN.2.1 u hu.1 hu.2.1).1
  rw [← z]
  exact m_at hS (by omega)
theorem m_at1 (hS : Str σ.2.1) {R : RowD} (hN : RepNr (cN σ) R) {u : Int} (hu : 0 ≤ u ∧ u ≤ R.2.1 ∧ R.2.1 ≤ 200) : Con 0 mX10_at 0 0 [vA 109, vI u, vI 1] σ (vI (R.1 2 u), σ) := by
  have z : σ.1 110 (10 * u + 1).toNat = R.1 2 u := (hN.2.1 u hu.1 hu.2.1).2.1
  rw [← z]
  exact m_at hS (by omega)
theorem m_at2 (hS : Str σ.2.1) {R : RowD} (hN : RepNr (cN σ) R) {u : Int} (hu : 0 ≤ u ∧ u ≤ R.2.1 ∧ R.2.1 ≤ 200) : Con 0 mX10_at 0 0 [vA 109, vI u, vI 2] σ (vI (R.1 3 u), σ) := by
  have z : σ.1 110 (10 * u + 2).toNat = R.1 3 u := (hN.2.1 u hu.1 hu.2.1).2.2.1
  rw [← z]
  exact m_at hS (by omega)
theorem m_at9 (hS : Str σ.2.1) {R : RowD} (hN : RepNr (cN σ) R) {u : Int} (hu : 0 ≤ u ∧ u ≤ R.2.1 ∧ R.2.1 ≤ 200) : Con 0 mX10_at 0 0 [vA 109, vI u, vI 9] σ (vI (R.1 4 u), σ) := by
  have z : σ.1 110 (10 * u + 9).toNat = R.1 4 u := (hN.2.1 u hu.1 hu.2.1).2.2.2
  rw [← z]
  exact m_at hS (by omega)
theorem m_at3 (hS : Str σ.2.1) {R : RowD} (hN : RepNr (cN σ) R) {u : Int} (hu : 0 ≤ u ∧ u ≤ R.2.1 ∧ R.2.1 ≤ 200) (h47 : R.1 0 u = 47) : Con 0 mX10_at 0 0 [vA 109, vI u, vI 3] σ (vI (R.1 5 u), σ) := by
  have z : σ.1 110 (10 * u + 3).toNat = R.1 5 u := (hN.2.2.1 u hu.1 hu.2.1 h47).1
  rw [← z]
  exact m_at hS (by omega)
theorem m_at4 (hS : Str σ.2.1) {R : RowD} (hN : RepNr (cN σ) R) {u : Int} (hu : 0 ≤ u ∧ u ≤ R.2.1 ∧ R.2.1 ≤ 200) (h47 : R.1 0 u = 47) : Con 0 mX10_at 0 0 [vA 109, vI u, vI 4] σ (vI (R.1 7 u), σ) := by
  have z : σ.1 110 (10 * u + 4).toNat = R.1 7 u := (hN.2.2.1 u hu.1 hu.2.1 h47).2.1
  rw [← z]
  exact m_at hS (by omega)
theorem m_at5 (hS : Str σ.2.1) {R : RowD} (hN : RepNr (cN σ) R) {u : Int} (hu : 0 ≤ u ∧ u ≤ R.2.1 ∧ R.2.1 ≤ 200) (h47 : R.1 0 u = 47) : Con 0 mX10_at 0 0 [vA 109, vI u, vI 5] σ (vI (R.1 8 u), σ) := by
  have z : σ.1 110 (10 * u + 5).toNat = R.1 8 u := (hN.2.2.1 u hu.1 hu.2.1 h47).2.2.1
  rw [← z]
  exact m_at hS (by omega)
theorem m_at6 (hS : Str σ.2.1) {R : RowD} (hN : RepNr (cN σ) R) {u : Int} (hu : 0 ≤ u ∧ u ≤ R.2.1 ∧ R.2.1 ≤ 200) (h47 : R.1 0 u = 47) : Con 0 mX10_at 0 0 [vA 109, vI u, vI 6] σ (vI (R.1 9 u), σ) := by
  have z : σ.1 110 (10 * u + 6).toNat = R.1 9 u := (hN.2.2.1 u hu.1 hu.2.1 h47).2.2.2.1
  rw [← z]
  exact m_at hS (by omega)
theorem m_at7 (hS : Str σ.2.1) {R : RowD} (hN : RepNr (cN σ) R) {u : Int} (hu : 0 ≤ u ∧ u ≤ R.2.1 ∧ R.2.1 ≤ 200) (h47 : R.1 0 u = 47) : Con 0 mX10_at 0 0 [vA 109, vI u, vI 7] σ (vI (R.1 10 u), σ) := by
  have z : σ.1 110 (10 * u + 7).toNat = R.1 10 u := (hN.2.2.1 u hu.1 hu.2.1 h47).2.2.2.2.1
  rw [← z]
  exact m_at hS (by omega)
theorem m_at8 (hS : Str σ.2.1) {R : RowD} (hN : RepNr (cN σ) R) {u : Int} (hu : 0 ≤ u ∧ u ≤ R.2.1 ∧ R.2.1 ≤ 200) (h47 : R.1 0 u = 47) : Con 0 mX10_at 0 0 [vA 109, vI u, vI 8] σ (vI (R.1 6 u), σ) := by
  have z : σ.1 110 (10 * u + 8).toNat = R.1 6 u := (hN.2.2.1 u hu.1 hu.2.1 h47).2.2.2.2.2
  rw [← z]
  exact m_at hS (by omega)
theorem m_isSeen (hS : Str σ.2.1) {R : RowD} (hN : RepNr (cN σ) R) {u : Int} (hu : 0 ≤ u ∧ u ≤ R.2.1 ∧ R.2.1 ≤ 200) : Con 1 mX10_isSeen 0 0 [vA 109, vI u] σ (vI (bI (R.1 3 u = -1)), σ) := by
  refine con_of_go mfX10_isSeen.1 bI_01 (Nat.le_of_ble_eq_true rfl) rfl (by decide) ?_
  show Go _ _ _ _ 0 [vA _, vI _] [] _ _
  refine go_aload_n (at_of tX10_isSeen 0 0 rfl) rfl ?_
  refine go_iload_n (at_of tX10_isSeen 0 1 rfl) rfl ?_
  refine go_iconst (at_of tX10_isSeen 0 2 rfl) (by unfold in32; omega) ?_
  refine go_cV (m_at2 hS hN (by omega)) lk_X10_106 rfl G_109 (at_of tX10_isSeen 0 3 rfl) rfl (by decide) rfl (Nat.le_of_ble_eq_true rfl) rfl (by first | decide | exact ⟨Nat.zero_le _, Nat.zero_le _⟩) ?_
  refine go_iconst (at_of tX10_isSeen 0 4 rfl) (by unfold in32; omega) ?_
  refine go_icmp_ne (tgt := 14) (at_of tX10_isSeen 0 5 rfl) (by decide) (fun h7 => ?_) (fun h7 => ?_)
  · first
    | exfalso; omega
    | refine go_iconst (at_of tX10_isSeen 0 8 rfl) (by unfold in32; omega) ?_
      first | exact go_reti (at_of tX10_isSeen 0 9 rfl) rfl | exact go_reti (at_of tX10_isSeen 0 9 rfl) (le_i (by omega)) | exact go_reti (at_of tX10_isSeen 0 9 rfl) (le_i (by first | exact bI_t (by omega) | exact bI_f (by omega)))
  · first
    | exfalso; omega
    | refine go_iconst (at_of tX10_isSeen 0 6 rfl) (by unfold in32; omega) ?_
      refine go_goto (tgt := 15) (at_of tX10_isSeen 0 7 rfl) (by decide) ?_
      first | exact go_reti (at_of tX10_isSeen 0 9 rfl) rfl | exact go_reti (at_of tX10_isSeen 0 9 rfl) (le_i (by omega)) | exact go_reti (at_of tX10_isSeen 0 9 rfl) (le_i (by first | exact bI_t (by omega) | exact bI_f (by omega)))
theorem m_isEnd (hS : Str σ.2.1) {R : RowD} (hN : RepNr (cN σ) R) (hSg : SgW R) {u : Int} (hu : 0 ≤ u ∧ u ≤ R.2.1 ∧ R.2.1 ≤ 200) : Con 1 mX10_isEnd 0 0 [vA 109, vI u] σ (vI (bI (R.1 0 u = 47)), σ) := by
  have e := mk0_47 hSg hu.1 hu.2.1
  rw [show bI (R.1 0 u = 47) = bI (mk0 R u = 47) from bI_congr e.symm]
  refine con_of_go mfX10_isEnd.1 bI_01 (Nat.le_of_ble_eq_true rfl) rfl (by decide) ?_
  show Go _ _ _ _ 0 [vA _, vI _] [] _ _
  refine go_aload_n (at_of tX10_isEnd 0 0 rfl) rfl ?_
  refine go_iload_n (at_of tX10_isEnd 0 1 rfl) rfl ?_
  refine go_iconst (at_of tX10_isEnd 0 2 rfl) (by unfold in32; omega) ?_
  refine go_cV (m_at0 hS hN (by omega)) lk_X10_106 rfl G_109 (at_of tX10_isEnd 0 3 rfl) rfl (by decide) rfl (Nat.le_of_ble_eq_true rfl) rfl (by first | decide | exact ⟨Nat.zero_le _, Nat.zero_le _⟩) ?_
  refine go_bipush (at_of tX10_isEnd 0 4 rfl) (by decide) ?_
  refine go_icmp_ne (tgt := 15) (at_of tX10_isEnd 0 5 rfl) (by decide) (fun h8 => ?_) (fun h8 => ?_)
  · first
    | exfalso; omega
    | refine go_iconst (at_of tX10_isEnd 0 8 rfl) (by unfold in32; omega) ?_
      first | exact go_reti (at_of tX10_isEnd 0 9 rfl) rfl | exact go_reti (at_of tX10_isEnd 0 9 rfl) (le_i (by omega)) | exact go_reti (at_of tX10_isEnd 0 9 rfl) (le_i (by first | exact bI_t (by omega) | exact bI_f (by omega)))
  · first
    | exfalso; omega
    | refine go_iconst (at_of tX10_isEnd 0 6 rfl) (by unfold in32; omega) ?_
      refine go_goto (tgt := 16) (at_of tX10_isEnd 0 7 rfl) (by decide) ?_
      first | exact go_reti (at_of tX10_isEnd 0 9 rfl) rfl | exact go_reti (at_of tX10_isEnd 0 9 rfl) (le_i (by omega)) | exact go_reti (at_of tX10_isEnd 0 9 rfl) (le_i (by first | exact bI_t (by omega) | exact bI_f (by omega)))
theorem m_seen (hS : Str σ.2.1) {R : RowD} (hN : RepNr (cN σ) R) (hE : LastE R) (hSg : SgW R) : Con 2 mX10_seen 0 0 [vA 109] σ (vI (plOf R.1 R.2.1 R.2.1), σ) := by
  obtain ⟨e1, e2, e3, e4⟩ := id hE
  have n1 := hN.1
  have n2 := hN.2.1
  have n3 := hN.2.2.1
  have n4 := hN.2.2.2
  rw [plOf_N (Int.le_refl _)]
  have key : ∀ (m : Nat) (b : Nat × Nat) (u s : Int), 0 ≤ u → u + m = R.2.1 → s = plN R u → Go (fun _ => 0) 2 mX10_seen b 4 [vA 109, vI s, vI u] [] σ (vI (plN R R.2.1), σ) := by
    intro m
    induction m with
    | zero =>
      intro b u s h0 h1 h2
      obtain rfl : u = R.2.1 := by omega
      refine go_iload_n (at_of tX10_seen 0 4 rfl) rfl ?_
      refine go_aload_n (at_of tX10_seen 0 5 rfl) rfl ?_
      refine go_cV (m_many hS hN) lk_X10_110 rfl G_109 (at_of tX10_seen 0 6 rfl) rfl (by decide) rfl (Nat.le_of_ble_eq_true rfl) rfl (by first | decide | exact ⟨Nat.zero_le _, Nat.zero_le _⟩) ?_
      refine go_icmp_ge (tgt := 34) (at_of tX10_seen 0 7 rfl) (by decide) (fun h9 => ?_) (fun h9 => ?_)
      rotate_left
      · exfalso; omega
      refine go_iload_n (at_of tX10_seen 1 4 rfl) rfl ?_
      first | exact go_reti (at_of tX10_seen 1 5 rfl) rfl | exact go_reti (at_of tX10_seen 1 5 rfl) (le_i (by omega)) | exact go_reti (at_of tX10_seen 1 5 rfl) (le_i (by first | exact bI_t (by omega) | exact bI_f (by omega)))
    | succ m ih =>
      intro b u s h0 h1 h2
      have ps := plN_s (R := R) h0
      have pb := plN_ub (R := R) h0
      have pn := @plN_nn R u
      by_cases hs : R.1 3 u = -1
      · rw [ind_t (show leftB R.1 u = true from decide_eq_true hs)] at ps
        refine go_iload_n (at_of tX10_seen 0 4 rfl) rfl ?_
        refine go_aload_n (at_of tX10_seen 0 5 rfl) rfl ?_
        refine go_cV (m_many hS hN) lk_X10_110 rfl G_109 (at_of tX10_seen 0 6 rfl) rfl (by decide) rfl (Nat.le_of_ble_eq_true rfl) rfl (by first | decide | exact ⟨Nat.zero_le _, Nat.zero_le _⟩) ?_
        refine go_icmp_ge (tgt := 34) (at_of tX10_seen 0 7 rfl) (by decide) (fun h9 => ?_) (fun h9 => ?_)
        · exfalso; omega
        refine go_iload_n (at_of tX10_seen 0 8 rfl) rfl ?_
        refine go_aload_n (at_of tX10_seen 0 9 rfl) rfl ?_
        refine go_iload_n (at_of tX10_seen 0 10 rfl) rfl ?_
        refine go_cV (m_isSeen hS hN (by omega)) lk_X10_114 rfl G_109 (at_of tX10_seen 0 11 rfl) rfl (by decide) rfl (Nat.le_of_ble_eq_true rfl) rfl (by first | decide | exact ⟨Nat.zero_le _, Nat.zero_le _⟩) ?_
        refine go_if_eq (tgt := 25) (at_of tX10_seen 0 12 rfl) (by decide) (fun h18 => ?_) (fun h18 => ?_)
        · exfalso; exact bI_0.mp h18 hs
        refine go_iconst (at_of tX10_seen 0 13 rfl) (by unfold in32; omega) ?_
        refine go_goto (tgt := 26) (at_of tX10_seen 0 14 rfl) (by decide) ?_
        refine go_iadd (at_of tX10_seen 1 0 rfl) (by unfold in32; omega) ?_
        refine go_istore_n (at_of tX10_seen 1 1 rfl) rfl rfl ?_
        refine go_iinc (at_of tX10_seen 1 2 rfl) rfl (by unfold in32; omega) rfl rfl ?_
        refine go_goto (tgt := 4) (at_of tX10_seen 1 3 rfl) (by decide) ?_
        exact ih _ _ _ (by omega) (by omega) (by omega)
      · rw [ind_f (show ¬ leftB R.1 u = true from fun q => hs (of_decide_eq_true q))] at ps
        refine go_iload_n (at_of tX10_seen 0 4 rfl) rfl ?_
        refine go_aload_n (at_of tX10_seen 0 5 rfl) rfl ?_
        refine go_cV (m_many hS hN) lk_X10_110 rfl G_109 (at_of tX10_seen 0 6 rfl) rfl (by decide) rfl (Nat.le_of_ble_eq_true rfl) rfl (by first | decide | exact ⟨Nat.zero_le _, Nat.zero_le _⟩) ?_
        refine go_icmp_ge (tgt := 34) (at_of tX10_seen 0 7 rfl) (by decide) (fun h9 => ?_) (fun h9 => ?_)
        · exfalso; omega
        refine go_iload_n (at_of tX10_seen 0 8 rfl) rfl ?_
        refine go_aload_n (at_of tX10_seen 0 9 rfl) rfl ?_
        refine go_iload_n (at_of tX10_seen 0 10 rfl) rfl ?_
        refine go_cV (m_isSeen hS hN (by omega)) lk_X10_114 rfl G_109 (at_of tX10_seen 0 11 rfl) rfl (by decide) rfl (Nat.le_of_ble_eq_true rfl) rfl (by first | decide | exact ⟨Nat.zero_le _, Nat.zero_le _⟩) ?_
        refine go_if_eq (tgt := 25) (at_of tX10_seen 0 12 rfl) (by decide) (fun h18 => ?_) (fun h18 => ?_)
        rotate_left
        · exfalso; exact hs (bI_1.mp h18)
        refine go_iconst (at_of tX10_seen 0 15 rfl) (by unfold in32; omega) ?_
        refine go_iadd (at_of tX10_seen 1 0 rfl) (by unfold in32; omega) ?_
        refine go_istore_n (at_of tX10_seen 1 1 rfl) rfl rfl ?_
        refine go_iinc (at_of tX10_seen 1 2 rfl) rfl (by unfold in32; omega) rfl rfl ?_
        refine go_goto (tgt := 4) (at_of tX10_seen 1 3 rfl) (by decide) ?_
        exact ih _ _ _ (by omega) (by omega) (by omega)
  refine con_of_go mfX10_seen.1 trivial (Nat.le_of_ble_eq_true rfl) rfl (by decide) ?_
  show Go _ _ _ _ 0 [vA _, vT 9 0, vT 9 0] [] _ _
  refine go_iconst (at_of tX10_seen 0 0 rfl) (by unfold in32; omega) ?_
  refine go_istore_n (at_of tX10_seen 0 1 rfl) rfl rfl ?_
  refine go_iconst (at_of tX10_seen 0 2 rfl) (by unfold in32; omega) ?_
  refine go_istore_n (at_of tX10_seen 0 3 rfl) rfl rfl ?_
  exact key R.2.1.toNat _ 0 0 (by omega) (by omega) rfl
theorem m_unitOf (hS : Str σ.2.1) {R : RowD} (hN : RepNr (cN σ) R) (hE : LastE R) (hSg : SgW R) {p : Int} (h0p : 0 ≤ p) (h1p : p ≤ plOf R.1 R.2.1 R.2.1) : Con 2 mX10_unitOf 0 0 [vA 109, vI p] σ (vI (ixOf R.1 R.2.1 p), σ) := by
  obtain ⟨e1, e2, e3, e4⟩ := id hE
  have n1 := hN.1
  have n2 := hN.2.1
  have n3 := hN.2.2.1
  have n4 := hN.2.2.2
  rw [plOf_N (Int.le_refl _)] at h1p
  have key : ∀ (m : Nat) (b : Nat × Nat) (u l : Int), 0 ≤ u → u + m = R.2.1 → l = p - plN R u → 0 ≤ l → l ≤ 300 → Go (fun _ => 0) 2 mX10_unitOf b 4 [vA 109, vI p, vI l, vI u] [] σ (vI (ixOf R.1 R.2.1 p), σ) := by
    intro m
    induction m with
    | zero =>
      intro b u l h0 h1 h2 h3 h4
      obtain rfl : u = R.2.1 := by omega
      have hx := ix_place (R := R) e1 (Int.le_refl _) e3
      rw [show p = plN R R.2.1 by omega, hx]
      refine go_iload_n (at_of tX10_unitOf 0 4 rfl) rfl ?_
      refine go_aload_n (at_of tX10_unitOf 0 5 rfl) rfl ?_
      refine go_cV (m_many hS hN) lk_X10_110 rfl G_109 (at_of tX10_unitOf 0 6 rfl) rfl (by decide) rfl (Nat.le_of_ble_eq_true rfl) rfl (by first | decide | exact ⟨Nat.zero_le _, Nat.zero_le _⟩) ?_
      refine go_icmp_ge (tgt := 48) (at_of tX10_unitOf 0 7 rfl) (by decide) (fun h9 => ?_) (fun h9 => ?_)
      rotate_left
      · exfalso; omega
      refine go_aload_n (at_of tX10_unitOf 1 12 rfl) rfl ?_
      refine go_cV (m_many hS hN) lk_X10_110 rfl G_109 (at_of tX10_unitOf 1 13 rfl) rfl (by decide) rfl (Nat.le_of_ble_eq_true rfl) rfl (by first | decide | exact ⟨Nat.zero_le _, Nat.zero_le _⟩) ?_
      first | exact go_reti (at_of tX10_unitOf 1 14 rfl) rfl | exact go_reti (at_of tX10_unitOf 1 14 rfl) (le_i (by omega)) | exact go_reti (at_of tX10_unitOf 1 14 rfl) (le_i (by first | exact bI_t (by omega) | exact bI_f (by omega)))
    | succ m ih =>
      intro b u l h0 h1 h2 h3 h4
      have ps := plN_s (R := R) h0
      by_cases hs : R.1 3 u = -1
      · rw [ind_t (show leftB R.1 u = true from decide_eq_true hs)] at ps
        by_cases hl : l = 0
        · have hx := ix_place (R := R) h0 (by omega) hs
          rw [show p = plN R u by omega, hx]
          refine go_iload_n (at_of tX10_unitOf 0 4 rfl) rfl ?_
          refine go_aload_n (at_of tX10_unitOf 0 5 rfl) rfl ?_
          refine go_cV (m_many hS hN) lk_X10_110 rfl G_109 (at_of tX10_unitOf 0 6 rfl) rfl (by decide) rfl (Nat.le_of_ble_eq_true rfl) rfl (by first | decide | exact ⟨Nat.zero_le _, Nat.zero_le _⟩) ?_
          refine go_icmp_ge (tgt := 48) (at_of tX10_unitOf 0 7 rfl) (by decide) (fun h9 => ?_) (fun h9 => ?_)
          · exfalso; omega
          refine go_aload_n (at_of tX10_unitOf 0 8 rfl) rfl ?_
          refine go_iload_n (at_of tX10_unitOf 0 9 rfl) rfl ?_
          refine go_cV (m_isSeen hS hN (by omega)) lk_X10_114 rfl G_109 (at_of tX10_unitOf 0 10 rfl) rfl (by decide) rfl (Nat.le_of_ble_eq_true rfl) rfl (by first | decide | exact ⟨Nat.zero_le _, Nat.zero_le _⟩) ?_
          refine go_if_eq (tgt := 26) (at_of tX10_unitOf 0 11 rfl) (by decide) (fun h17 => ?_) (fun h17 => ?_)
          · exfalso; exact bI_0.mp h17 hs
          refine go_iload_n (at_of tX10_unitOf 0 12 rfl) rfl ?_
          refine go_if_ne (tgt := 26) (at_of tX10_unitOf 0 13 rfl) (by decide) (fun h21 => ?_) (fun h21 => ?_)
          · exfalso; omega
          refine go_iload_n (at_of tX10_unitOf 0 14 rfl) rfl ?_
          first | exact go_reti (at_of tX10_unitOf 0 15 rfl) rfl | exact go_reti (at_of tX10_unitOf 0 15 rfl) (le_i (by omega)) | exact go_reti (at_of tX10_unitOf 0 15 rfl) (le_i (by first | exact bI_t (by omega) | exact bI_f (by omega)))
        · skip
          refine go_iload_n (at_of tX10_unitOf 0 4 rfl) rfl ?_
          refine go_aload_n (at_of tX10_unitOf 0 5 rfl) rfl ?_
          refine go_cV (m_many hS hN) lk_X10_110 rfl G_109 (at_of tX10_unitOf 0 6 rfl) rfl (by decide) rfl (Nat.le_of_ble_eq_true rfl) rfl (by first | decide | exact ⟨Nat.zero_le _, Nat.zero_le _⟩) ?_
          refine go_icmp_ge (tgt := 48) (at_of tX10_unitOf 0 7 rfl) (by decide) (fun h9 => ?_) (fun h9 => ?_)
          · exfalso; omega
          refine go_aload_n (at_of tX10_unitOf 0 8 rfl) rfl ?_
          refine go_iload_n (at_of tX10_unitOf 0 9 rfl) rfl ?_
          refine go_cV (m_isSeen hS hN (by omega)) lk_X10_114 rfl G_109 (at_of tX10_unitOf 0 10 rfl) rfl (by decide) rfl (Nat.le_of_ble_eq_true rfl) rfl (by first | decide | exact ⟨Nat.zero_le _, Nat.zero_le _⟩) ?_
          refine go_if_eq (tgt := 26) (at_of tX10_unitOf 0 11 rfl) (by decide) (fun h17 => ?_) (fun h17 => ?_)
          · exfalso; exact bI_0.mp h17 hs
          refine go_iload_n (at_of tX10_unitOf 0 12 rfl) rfl ?_
          refine go_if_ne (tgt := 26) (at_of tX10_unitOf 0 13 rfl) (by decide) (fun h21 => ?_) (fun h21 => ?_)
          rotate_left
          · exfalso; omega
          refine go_iload_n (at_of tX10_unitOf 1 0 rfl) rfl ?_
          refine go_aload_n (at_of tX10_unitOf 1 1 rfl) rfl ?_
          refine go_iload_n (at_of tX10_unitOf 1 2 rfl) rfl ?_
          refine go_cV (m_isSeen hS hN (by omega)) lk_X10_114 rfl G_109 (at_of tX10_unitOf 1 3 rfl) rfl (by decide) rfl (Nat.le_of_ble_eq_true rfl) rfl (by first | decide | exact ⟨Nat.zero_le _, Nat.zero_le _⟩) ?_
          refine go_if_eq (tgt := 39) (at_of tX10_unitOf 1 4 rfl) (by decide) (fun h32 => ?_) (fun h32 => ?_)
          · exfalso; exact bI_0.mp h32 hs
          refine go_iconst (at_of tX10_unitOf 1 5 rfl) (by unfold in32; omega) ?_
          refine go_goto (tgt := 40) (at_of tX10_unitOf 1 6 rfl) (by decide) ?_
          refine go_isub (at_of tX10_unitOf 1 8 rfl) (by unfold in32; omega) ?_
          refine go_istore_n (at_of tX10_unitOf 1 9 rfl) rfl rfl ?_
          refine go_iinc (at_of tX10_unitOf 1 10 rfl) rfl (by unfold in32; omega) rfl rfl ?_
          refine go_goto (tgt := 4) (at_of tX10_unitOf 1 11 rfl) (by decide) ?_
          exact ih _ _ _ (by omega) (by omega) (by omega) (by omega) (by omega)
      · rw [ind_f (show ¬ leftB R.1 u = true from fun q => hs (of_decide_eq_true q))] at ps
        refine go_iload_n (at_of tX10_unitOf 0 4 rfl) rfl ?_
        refine go_aload_n (at_of tX10_unitOf 0 5 rfl) rfl ?_
        refine go_cV (m_many hS hN) lk_X10_110 rfl G_109 (at_of tX10_unitOf 0 6 rfl) rfl (by decide) rfl (Nat.le_of_ble_eq_true rfl) rfl (by first | decide | exact ⟨Nat.zero_le _, Nat.zero_le _⟩) ?_
        refine go_icmp_ge (tgt := 48) (at_of tX10_unitOf 0 7 rfl) (by decide) (fun h9 => ?_) (fun h9 => ?_)
        · exfalso; omega
        refine go_aload_n (at_of tX10_unitOf 0 8 rfl) rfl ?_
        refine go_iload_n (at_of tX10_unitOf 0 9 rfl) rfl ?_
        refine go_cV (m_isSeen hS hN (by omega)) lk_X10_114 rfl G_109 (at_of tX10_unitOf 0 10 rfl) rfl (by decide) rfl (Nat.le_of_ble_eq_true rfl) rfl (by first | decide | exact ⟨Nat.zero_le _, Nat.zero_le _⟩) ?_
        refine go_if_eq (tgt := 26) (at_of tX10_unitOf 0 11 rfl) (by decide) (fun h17 => ?_) (fun h17 => ?_)
        rotate_left
        · exfalso; exact hs (bI_1.mp h17)
        refine go_iload_n (at_of tX10_unitOf 1 0 rfl) rfl ?_
        refine go_aload_n (at_of tX10_unitOf 1 1 rfl) rfl ?_
        refine go_iload_n (at_of tX10_unitOf 1 2 rfl) rfl ?_
        refine go_cV (m_isSeen hS hN (by omega)) lk_X10_114 rfl G_109 (at_of tX10_unitOf 1 3 rfl) rfl (by decide) rfl (Nat.le_of_ble_eq_true rfl) rfl (by first | decide | exact ⟨Nat.zero_le _, Nat.zero_le _⟩) ?_
        refine go_if_eq (tgt := 39) (at_of tX10_unitOf 1 4 rfl) (by decide) (fun h32 => ?_) (fun h32 => ?_)
        rotate_left
        · exfalso; exact hs (bI_1.mp h32)
        refine go_iconst (at_of tX10_unitOf 1 7 rfl) (by unfold in32; omega) ?_
        refine go_isub (at_of tX10_unitOf 1 8 rfl) (by unfold in32; omega) ?_
        refine go_istore_n (at_of tX10_unitOf 1 9 rfl) rfl rfl ?_
        refine go_iinc (at_of tX10_unitOf 1 10 rfl) rfl (by unfold in32; omega) rfl rfl ?_
        refine go_goto (tgt := 4) (at_of tX10_unitOf 1 11 rfl) (by decide) ?_
        exact ih _ _ _ (by omega) (by omega) (by omega) (by omega) (by omega)
  have pb := plN_ub (R := R) e1
  refine con_of_go mfX10_unitOf.1 trivial (Nat.le_of_ble_eq_true rfl) rfl (by decide) ?_
  show Go _ _ _ _ 0 [vA _, vI _, vT 9 0, vT 9 0] [] _ _
  refine go_iload_n (at_of tX10_unitOf 0 0 rfl) rfl ?_
  refine go_istore_n (at_of tX10_unitOf 0 1 rfl) rfl rfl ?_
  refine go_iconst (at_of tX10_unitOf 0 2 rfl) (by unfold in32; omega) ?_
  refine go_istore_n (at_of tX10_unitOf 0 3 rfl) rfl rfl ?_
  exact key R.2.1.toNat _ 0 _ (by omega) (by omega) (by show p = p - 0; omega) (by omega) (by omega)
theorem m_placeOf (hS : Str σ.2.1) {R : RowD} (hN : RepNr (cN σ) R) (hE : LastE R) (hSg : SgW R) {u : Int} (hu : -1 ≤ u ∧ u ≤ R.2.1) : Con 2 mX10_placeOf 0 0 [vA 109, vI u] σ (vI (plOf R.1 R.2.1 u), σ) := by
  obtain ⟨e1, e2, e3, e4⟩ := id hE
  have n1 := hN.1
  have n2 := hN.2.1
  have n3 := hN.2.2.1
  have n4 := hN.2.2.2
  rw [plOf_N hu.2]
  have key : ∀ (m : Nat) (b : Nat × Nat) (k s : Int), 0 ≤ k → k + m = u → s = plN R k → Go (fun _ => 0) 2 mX10_placeOf b 4 [vA 109, vI u, vI s, vI k] [] σ (vI (plN R u), σ) := by
    intro m
    induction m with
    | zero =>
      intro b k s h0 h1 h2
      obtain rfl : k = u := by omega
      refine go_iload_n (at_of tX10_placeOf 0 4 rfl) rfl ?_
      refine go_iload_n (at_of tX10_placeOf 0 5 rfl) rfl ?_
      refine go_icmp_ge (tgt := 31) (at_of tX10_placeOf 0 6 rfl) (by decide) (fun h6 => ?_) (fun h6 => ?_)
      rotate_left
      · exfalso; omega
      refine go_iload_n (at_of tX10_placeOf 1 3 rfl) rfl ?_
      first | exact go_reti (at_of tX10_placeOf 1 4 rfl) rfl | exact go_reti (at_of tX10_placeOf 1 4 rfl) (le_i (by omega)) | exact go_reti (at_of tX10_placeOf 1 4 rfl) (le_i (by first | exact bI_t (by omega) | exact bI_f (by omega)))
    | succ m ih =>
      intro b k s h0 h1 h2
      have ps := plN_s (R := R) h0
      have pb := plN_ub (R := R) h0
      have pn := @plN_nn R k
      by_cases hs : R.1 3 k = -1
      · rw [ind_t (show leftB R.1 k = true from decide_eq_true hs)] at ps
        refine go_iload_n (at_of tX10_placeOf 0 4 rfl) rfl ?_
        refine go_iload_n (at_of tX10_placeOf 0 5 rfl) rfl ?_
        refine go_icmp_ge (tgt := 31) (at_of tX10_placeOf 0 6 rfl) (by decide) (fun h6 => ?_) (fun h6 => ?_)
        · exfalso; omega
        refine go_iload_n (at_of tX10_placeOf 0 7 rfl) rfl ?_
        refine go_aload_n (at_of tX10_placeOf 0 8 rfl) rfl ?_
        refine go_iload_n (at_of tX10_placeOf 0 9 rfl) rfl ?_
        refine go_cV (m_isSeen hS hN (by omega)) lk_X10_114 rfl G_109 (at_of tX10_placeOf 0 10 rfl) rfl (by decide) rfl (Nat.le_of_ble_eq_true rfl) rfl (by first | decide | exact ⟨Nat.zero_le _, Nat.zero_le _⟩) ?_
        refine go_if_eq (tgt := 22) (at_of tX10_placeOf 0 11 rfl) (by decide) (fun h15 => ?_) (fun h15 => ?_)
        · exfalso; exact bI_0.mp h15 hs
        refine go_iconst (at_of tX10_placeOf 0 12 rfl) (by unfold in32; omega) ?_
        refine go_goto (tgt := 23) (at_of tX10_placeOf 0 13 rfl) (by decide) ?_
        refine go_iadd (at_of tX10_placeOf 0 15 rfl) (by unfold in32; omega) ?_
        refine go_istore_n (at_of tX10_placeOf 1 0 rfl) rfl rfl ?_
        refine go_iinc (at_of tX10_placeOf 1 1 rfl) rfl (by unfold in32; omega) rfl rfl ?_
        refine go_goto (tgt := 4) (at_of tX10_placeOf 1 2 rfl) (by decide) ?_
        exact ih _ _ _ (by omega) (by omega) (by omega)
      · rw [ind_f (show ¬ leftB R.1 k = true from fun q => hs (of_decide_eq_true q))] at ps
        refine go_iload_n (at_of tX10_placeOf 0 4 rfl) rfl ?_
        refine go_iload_n (at_of tX10_placeOf 0 5 rfl) rfl ?_
        refine go_icmp_ge (tgt := 31) (at_of tX10_placeOf 0 6 rfl) (by decide) (fun h6 => ?_) (fun h6 => ?_)
        · exfalso; omega
        refine go_iload_n (at_of tX10_placeOf 0 7 rfl) rfl ?_
        refine go_aload_n (at_of tX10_placeOf 0 8 rfl) rfl ?_
        refine go_iload_n (at_of tX10_placeOf 0 9 rfl) rfl ?_
        refine go_cV (m_isSeen hS hN (by omega)) lk_X10_114 rfl G_109 (at_of tX10_placeOf 0 10 rfl) rfl (by decide) rfl (Nat.le_of_ble_eq_true rfl) rfl (by first | decide | exact ⟨Nat.zero_le _, Nat.zero_le _⟩) ?_
        refine go_if_eq (tgt := 22) (at_of tX10_placeOf 0 11 rfl) (by decide) (fun h15 => ?_) (fun h15 => ?_)
        rotate_left
        · exfalso; exact hs (bI_1.mp h15)
        refine go_iconst (at_of tX10_placeOf 0 14 rfl) (by unfold in32; omega) ?_
        refine go_iadd (at_of tX10_placeOf 0 15 rfl) (by unfold in32; omega) ?_
        refine go_istore_n (at_of tX10_placeOf 1 0 rfl) rfl rfl ?_
        refine go_iinc (at_of tX10_placeOf 1 1 rfl) rfl (by unfold in32; omega) rfl rfl ?_
        refine go_goto (tgt := 4) (at_of tX10_placeOf 1 2 rfl) (by decide) ?_
        exact ih _ _ _ (by omega) (by omega) (by omega)
  by_cases h : u = -1
  · subst h
    refine con_of_go mfX10_placeOf.1 trivial (Nat.le_of_ble_eq_true rfl) rfl (by decide) ?_
    show Go _ _ _ _ 0 [vA _, vI _, vT 9 0, vT 9 0] [] _ _
    refine go_iconst (at_of tX10_placeOf 0 0 rfl) (by unfold in32; omega) ?_
    refine go_istore_n (at_of tX10_placeOf 0 1 rfl) rfl rfl ?_
    refine go_iconst (at_of tX10_placeOf 0 2 rfl) (by unfold in32; omega) ?_
    refine go_istore_n (at_of tX10_placeOf 0 3 rfl) rfl rfl ?_
    refine go_iload_n (at_of tX10_placeOf 0 4 rfl) rfl ?_
    refine go_iload_n (at_of tX10_placeOf 0 5 rfl) rfl ?_
    refine go_icmp_ge (tgt := 31) (at_of tX10_placeOf 0 6 rfl) (by decide) (fun h6 => ?_) (fun h6 => ?_)
    rotate_left
    · exfalso; omega
    refine go_iload_n (at_of tX10_placeOf 1 3 rfl) rfl ?_
    first | exact go_reti (at_of tX10_placeOf 1 4 rfl) rfl | exact go_reti (at_of tX10_placeOf 1 4 rfl) (le_i (by omega)) | exact go_reti (at_of tX10_placeOf 1 4 rfl) (le_i (by first | exact bI_t (by omega) | exact bI_f (by omega)))
  · skip
    refine con_of_go mfX10_placeOf.1 trivial (Nat.le_of_ble_eq_true rfl) rfl (by decide) ?_
    show Go _ _ _ _ 0 [vA _, vI _, vT 9 0, vT 9 0] [] _ _
    refine go_iconst (at_of tX10_placeOf 0 0 rfl) (by unfold in32; omega) ?_
    refine go_istore_n (at_of tX10_placeOf 0 1 rfl) rfl rfl ?_
    refine go_iconst (at_of tX10_placeOf 0 2 rfl) (by unfold in32; omega) ?_
    refine go_istore_n (at_of tX10_placeOf 0 3 rfl) rfl rfl ?_
    exact key u.toNat _ 0 0 (by omega) (by omega) rfl
theorem m_endOf (hS : Str σ.2.1) {R : RowD} (hN : RepNr (cN σ) R) (hE : LastE R) (hSg : SgW R) {u : Int} (hu : 0 ≤ u ∧ u ≤ R.2.1) : Con 2 mX10_endOf 0 0 [vA 109, vI u] σ (vI (endFr R.1 R.2.1 u), σ) := by
  obtain ⟨e1, e2, e3, e4⟩ := id hE
  have n1 := hN.1
  have n2 := hN.2.1
  have n3 := hN.2.2.1
  have n4 := hN.2.2.2
  have key : ∀ (m : Nat) (b : Nat × Nat) (e : Int), 0 ≤ e → e + m = R.2.1 → Go (fun _ => 0) 2 mX10_endOf b 2 [vA 109, vI u, vI e] [] σ (vI (fstF (sendB R.1 R.2.1) R.2.1 m e), σ) := by
    intro m
    induction m with
    | zero =>
      intro b e h0 h1
      obtain rfl : e = R.2.1 := by omega
      refine go_iload_n (at_of tX10_endOf 0 2 rfl) rfl ?_
      refine go_aload_n (at_of tX10_endOf 0 3 rfl) rfl ?_
      refine go_cV (m_many hS hN) lk_X10_110 rfl G_109 (at_of tX10_endOf 0 4 rfl) rfl (by decide) rfl (Nat.le_of_ble_eq_true rfl) rfl (by first | decide | exact ⟨Nat.zero_le _, Nat.zero_le _⟩) ?_
      refine go_icmp_ge (tgt := 32) (at_of tX10_endOf 0 5 rfl) (by decide) (fun h7 => ?_) (fun h7 => ?_)
      rotate_left
      · exfalso; omega
      refine go_iload_n (at_of tX10_endOf 1 0 rfl) rfl ?_
      exact go_reti (at_of tX10_endOf 1 1 rfl) (by rw [fstF])
    | succ m ih =>
      intro b e h0 h1
      rw [fstF]
      have si := send_iff (R := R) h0 (by omega)
      by_cases hs : R.1 3 e = -1
      · by_cases h47 : R.1 0 e = 47
        · rw [if_pos (si.mpr ⟨hs, h47⟩)]
          refine go_iload_n (at_of tX10_endOf 0 2 rfl) rfl ?_
          refine go_aload_n (at_of tX10_endOf 0 3 rfl) rfl ?_
          refine go_cV (m_many hS hN) lk_X10_110 rfl G_109 (at_of tX10_endOf 0 4 rfl) rfl (by decide) rfl (Nat.le_of_ble_eq_true rfl) rfl (by first | decide | exact ⟨Nat.zero_le _, Nat.zero_le _⟩) ?_
          refine go_icmp_ge (tgt := 32) (at_of tX10_endOf 0 5 rfl) (by decide) (fun h7 => ?_) (fun h7 => ?_)
          · exfalso; omega
          refine go_aload_n (at_of tX10_endOf 0 6 rfl) rfl ?_
          refine go_iload_n (at_of tX10_endOf 0 7 rfl) rfl ?_
          refine go_cV (m_isSeen hS hN (by omega)) lk_X10_114 rfl G_109 (at_of tX10_endOf 0 8 rfl) rfl (by decide) rfl (Nat.le_of_ble_eq_true rfl) rfl (by first | decide | exact ⟨Nat.zero_le _, Nat.zero_le _⟩) ?_
          refine go_if_eq (tgt := 26) (at_of tX10_endOf 0 9 rfl) (by decide) (fun h15 => ?_) (fun h15 => ?_)
          · exfalso; exact bI_0.mp h15 hs
          refine go_aload_n (at_of tX10_endOf 0 10 rfl) rfl ?_
          refine go_iload_n (at_of tX10_endOf 0 11 rfl) rfl ?_
          refine go_cV (m_isEnd hS hN hSg (by omega)) lk_X10_118 rfl G_109 (at_of tX10_endOf 0 12 rfl) rfl (by decide) rfl (Nat.le_of_ble_eq_true rfl) rfl (by first | decide | exact ⟨Nat.zero_le _, Nat.zero_le _⟩) ?_
          refine go_if_ne (tgt := 32) (at_of tX10_endOf 0 13 rfl) (by decide) (fun h23 => ?_) (fun h23 => ?_)
          rotate_left
          · exfalso; exact bI_0.mp h23 h47
          refine go_iload_n (at_of tX10_endOf 1 0 rfl) rfl ?_
          first | exact go_reti (at_of tX10_endOf 1 1 rfl) rfl | exact go_reti (at_of tX10_endOf 1 1 rfl) (le_i (by omega)) | exact go_reti (at_of tX10_endOf 1 1 rfl) (le_i (by first | exact bI_t (by omega) | exact bI_f (by omega)))
        · rw [if_neg (fun q => h47 (si.mp q).2)]
          refine go_iload_n (at_of tX10_endOf 0 2 rfl) rfl ?_
          refine go_aload_n (at_of tX10_endOf 0 3 rfl) rfl ?_
          refine go_cV (m_many hS hN) lk_X10_110 rfl G_109 (at_of tX10_endOf 0 4 rfl) rfl (by decide) rfl (Nat.le_of_ble_eq_true rfl) rfl (by first | decide | exact ⟨Nat.zero_le _, Nat.zero_le _⟩) ?_
          refine go_icmp_ge (tgt := 32) (at_of tX10_endOf 0 5 rfl) (by decide) (fun h7 => ?_) (fun h7 => ?_)
          · exfalso; omega
          refine go_aload_n (at_of tX10_endOf 0 6 rfl) rfl ?_
          refine go_iload_n (at_of tX10_endOf 0 7 rfl) rfl ?_
          refine go_cV (m_isSeen hS hN (by omega)) lk_X10_114 rfl G_109 (at_of tX10_endOf 0 8 rfl) rfl (by decide) rfl (Nat.le_of_ble_eq_true rfl) rfl (by first | decide | exact ⟨Nat.zero_le _, Nat.zero_le _⟩) ?_
          refine go_if_eq (tgt := 26) (at_of tX10_endOf 0 9 rfl) (by decide) (fun h15 => ?_) (fun h15 => ?_)
          · exfalso; exact bI_0.mp h15 hs
          refine go_aload_n (at_of tX10_endOf 0 10 rfl) rfl ?_
          refine go_iload_n (at_of tX10_endOf 0 11 rfl) rfl ?_
          refine go_cV (m_isEnd hS hN hSg (by omega)) lk_X10_118 rfl G_109 (at_of tX10_endOf 0 12 rfl) rfl (by decide) rfl (Nat.le_of_ble_eq_true rfl) rfl (by first | decide | exact ⟨Nat.zero_le _, Nat.zero_le _⟩) ?_
          refine go_if_ne (tgt := 32) (at_of tX10_endOf 0 13 rfl) (by decide) (fun h23 => ?_) (fun h23 => ?_)
          · exfalso; exact h47 (bI_1.mp h23)
          refine go_iinc (at_of tX10_endOf 0 14 rfl) rfl (by unfold in32; omega) rfl rfl ?_
          refine go_goto (tgt := 2) (at_of tX10_endOf 0 15 rfl) (by decide) ?_
          exact ih _ _ (by omega) (by omega)
      · rw [if_neg (fun q => hs (si.mp q).1)]
        refine go_iload_n (at_of tX10_endOf 0 2 rfl) rfl ?_
        refine go_aload_n (at_of tX10_endOf 0 3 rfl) rfl ?_
        refine go_cV (m_many hS hN) lk_X10_110 rfl G_109 (at_of tX10_endOf 0 4 rfl) rfl (by decide) rfl (Nat.le_of_ble_eq_true rfl) rfl (by first | decide | exact ⟨Nat.zero_le _, Nat.zero_le _⟩) ?_
        refine go_icmp_ge (tgt := 32) (at_of tX10_endOf 0 5 rfl) (by decide) (fun h7 => ?_) (fun h7 => ?_)
        · exfalso; omega
        refine go_aload_n (at_of tX10_endOf 0 6 rfl) rfl ?_
        refine go_iload_n (at_of tX10_endOf 0 7 rfl) rfl ?_
        refine go_cV (m_isSeen hS hN (by omega)) lk_X10_114 rfl G_109 (at_of tX10_endOf 0 8 rfl) rfl (by decide) rfl (Nat.le_of_ble_eq_true rfl) rfl (by first | decide | exact ⟨Nat.zero_le _, Nat.zero_le _⟩) ?_
        refine go_if_eq (tgt := 26) (at_of tX10_endOf 0 9 rfl) (by decide) (fun h15 => ?_) (fun h15 => ?_)
        rotate_left
        · exfalso; exact hs (bI_1.mp h15)
        refine go_iinc (at_of tX10_endOf 0 14 rfl) rfl (by unfold in32; omega) rfl rfl ?_
        refine go_goto (tgt := 2) (at_of tX10_endOf 0 15 rfl) (by decide) ?_
        exact ih _ _ (by omega) (by omega)
  refine con_of_go mfX10_endOf.1 trivial (Nat.le_of_ble_eq_true rfl) rfl (by decide) ?_
  show Go _ _ _ _ 0 [vA _, vI _, vT 9 0] [] _ _
  refine go_iload_n (at_of tX10_endOf 0 0 rfl) rfl ?_
  refine go_istore_n (at_of tX10_endOf 0 1 rfl) rfl rfl ?_
  exact key (R.2.1 - u).toNat _ u hu.1 (by omega)
theorem m_endOfParagraph (hS : Str σ.2.1) {R : RowD} (hN : RepNr (cN σ) R) (hE : LastE R) (hSg : SgW R) {p : Int} (h0p : 0 ≤ p) (h1p : p ≤ endsA R.1 R.2.1 R.2.1) : Con 2 mX10_endOfParagraph 0 0 [vA 109, vI p] σ (vI (ixEnd R.1 R.2.1 p), σ) := by
  obtain ⟨e1, e2, e3, e4⟩ := id hE
  have n1 := hN.1
  have n2 := hN.2.1
  have n3 := hN.2.2.1
  have n4 := hN.2.2.2
  rw [endsA_N (Int.le_refl _)] at h1p
  have key : ∀ (m : Nat) (b : Nat × Nat) (u l : Int) (v4 : MV), 0 ≤ u → u + m = R.2.1 → l = p - enN R u → 0 ≤ l → l ≤ 300 → Go (fun _ => 0) 2 mX10_endOfParagraph b 4 [vA 109, vI p, vI l, vI u, v4] [] σ (vI (ixEnd R.1 R.2.1 p), σ) := by
    intro m
    induction m with
    | zero =>
      intro b u l v4 h0 h1 h2 h3 h4
      obtain rfl : u = R.2.1 := by omega
      have hx := ixEnd_enN (R := R) e1 hE.send
      rw [show p = enN R R.2.1 by omega, hx]
      refine go_iload_n (at_of tX10_endOfParagraph 0 4 rfl) rfl ?_
      refine go_aload_n (at_of tX10_endOfParagraph 0 5 rfl) rfl ?_
      refine go_cV (m_many hS hN) lk_X10_110 rfl G_109 (at_of tX10_endOfParagraph 0 6 rfl) rfl (by decide) rfl (Nat.le_of_ble_eq_true rfl) rfl (by first | decide | exact ⟨Nat.zero_le _, Nat.zero_le _⟩) ?_
      refine go_icmp_ge (tgt := 65) (at_of tX10_endOfParagraph 0 7 rfl) (by decide) (fun h9 => ?_) (fun h9 => ?_)
      rotate_left
      · exfalso; omega
      refine go_aload_n (at_of tX10_endOfParagraph 2 4 rfl) rfl ?_
      refine go_cV (m_many hS hN) lk_X10_110 rfl G_109 (at_of tX10_endOfParagraph 2 5 rfl) rfl (by decide) rfl (Nat.le_of_ble_eq_true rfl) rfl (by first | decide | exact ⟨Nat.zero_le _, Nat.zero_le _⟩) ?_
      first | exact go_reti (at_of tX10_endOfParagraph 2 6 rfl) rfl | exact go_reti (at_of tX10_endOfParagraph 2 6 rfl) (le_i (by omega)) | exact go_reti (at_of tX10_endOfParagraph 2 6 rfl) (le_i (by first | exact bI_t (by omega) | exact bI_f (by omega)))
    | succ m ih =>
      intro b u l v4 h0 h1 h2 h3 h4
      have si := send_iff (R := R) h0 (by omega)
      have es := enN_s (R := R) h0
      by_cases hs : R.1 3 u = -1
      · by_cases h47 : R.1 0 u = 47
        · have hse := si.mpr ⟨hs, h47⟩
          rw [ind_t hse] at es
          by_cases hl : l = 0
          · have hx := ixEnd_enN (R := R) h0 hse
            rw [show p = enN R u by omega, hx]
            refine go_iload_n (at_of tX10_endOfParagraph 0 4 rfl) rfl ?_
            refine go_aload_n (at_of tX10_endOfParagraph 0 5 rfl) rfl ?_
            refine go_cV (m_many hS hN) lk_X10_110 rfl G_109 (at_of tX10_endOfParagraph 0 6 rfl) rfl (by decide) rfl (Nat.le_of_ble_eq_true rfl) rfl (by first | decide | exact ⟨Nat.zero_le _, Nat.zero_le _⟩) ?_
            refine go_icmp_ge (tgt := 65) (at_of tX10_endOfParagraph 0 7 rfl) (by decide) (fun h9 => ?_) (fun h9 => ?_)
            · exfalso; omega
            refine go_aload_n (at_of tX10_endOfParagraph 0 8 rfl) rfl ?_
            refine go_iload_n (at_of tX10_endOfParagraph 0 9 rfl) rfl ?_
            refine go_cV (m_isSeen hS hN (by omega)) lk_X10_114 rfl G_109 (at_of tX10_endOfParagraph 0 10 rfl) rfl (by decide) rfl (Nat.le_of_ble_eq_true rfl) rfl (by first | decide | exact ⟨Nat.zero_le _, Nat.zero_le _⟩) ?_
            refine go_if_eq (tgt := 32) (at_of tX10_endOfParagraph 0 11 rfl) (by decide) (fun h17 => ?_) (fun h17 => ?_)
            · exfalso; exact bI_0.mp h17 hs
            refine go_aload_n (at_of tX10_endOfParagraph 0 12 rfl) rfl ?_
            refine go_iload_n (at_of tX10_endOfParagraph 0 13 rfl) rfl ?_
            refine go_cV (m_isEnd hS hN hSg (by omega)) lk_X10_118 rfl G_109 (at_of tX10_endOfParagraph 0 14 rfl) rfl (by decide) rfl (Nat.le_of_ble_eq_true rfl) rfl (by first | decide | exact ⟨Nat.zero_le _, Nat.zero_le _⟩) ?_
            refine go_if_eq (tgt := 32) (at_of tX10_endOfParagraph 0 15 rfl) (by decide) (fun h25 => ?_) (fun h25 => ?_)
            · exfalso; exact bI_0.mp h25 h47
            refine go_iconst (at_of tX10_endOfParagraph 1 0 rfl) (by unfold in32; omega) ?_
            refine go_goto (tgt := 33) (at_of tX10_endOfParagraph 1 1 rfl) (by decide) ?_
            refine go_istore (at_of tX10_endOfParagraph 1 3 rfl) rfl rfl ?_
            refine go_iload (at_of tX10_endOfParagraph 1 4 rfl) rfl rfl ?_
            refine go_if_eq (tgt := 46) (at_of tX10_endOfParagraph 1 5 rfl) (by decide) (fun h37 => ?_) (fun h37 => ?_)
            · exfalso; omega
            refine go_iload_n (at_of tX10_endOfParagraph 1 6 rfl) rfl ?_
            refine go_if_ne (tgt := 46) (at_of tX10_endOfParagraph 1 7 rfl) (by decide) (fun h41 => ?_) (fun h41 => ?_)
            · exfalso; omega
            refine go_iload_n (at_of tX10_endOfParagraph 1 8 rfl) rfl ?_
            first | exact go_reti (at_of tX10_endOfParagraph 1 9 rfl) rfl | exact go_reti (at_of tX10_endOfParagraph 1 9 rfl) (le_i (by omega)) | exact go_reti (at_of tX10_endOfParagraph 1 9 rfl) (le_i (by first | exact bI_t (by omega) | exact bI_f (by omega)))
          · skip
            refine go_iload_n (at_of tX10_endOfParagraph 0 4 rfl) rfl ?_
            refine go_aload_n (at_of tX10_endOfParagraph 0 5 rfl) rfl ?_
            refine go_cV (m_many hS hN) lk_X10_110 rfl G_109 (at_of tX10_endOfParagraph 0 6 rfl) rfl (by decide) rfl (Nat.le_of_ble_eq_true rfl) rfl (by first | decide | exact ⟨Nat.zero_le _, Nat.zero_le _⟩) ?_
            refine go_icmp_ge (tgt := 65) (at_of tX10_endOfParagraph 0 7 rfl) (by decide) (fun h9 => ?_) (fun h9 => ?_)
            · exfalso; omega
            refine go_aload_n (at_of tX10_endOfParagraph 0 8 rfl) rfl ?_
            refine go_iload_n (at_of tX10_endOfParagraph 0 9 rfl) rfl ?_
            refine go_cV (m_isSeen hS hN (by omega)) lk_X10_114 rfl G_109 (at_of tX10_endOfParagraph 0 10 rfl) rfl (by decide) rfl (Nat.le_of_ble_eq_true rfl) rfl (by first | decide | exact ⟨Nat.zero_le _, Nat.zero_le _⟩) ?_
            refine go_if_eq (tgt := 32) (at_of tX10_endOfParagraph 0 11 rfl) (by decide) (fun h17 => ?_) (fun h17 => ?_)
            · exfalso; exact bI_0.mp h17 hs
            refine go_aload_n (at_of tX10_endOfParagraph 0 12 rfl) rfl ?_
            refine go_iload_n (at_of tX10_endOfParagraph 0 13 rfl) rfl ?_
            refine go_cV (m_isEnd hS hN hSg (by omega)) lk_X10_118 rfl G_109 (at_of tX10_endOfParagraph 0 14 rfl) rfl (by decide) rfl (Nat.le_of_ble_eq_true rfl) rfl (by first | decide | exact ⟨Nat.zero_le _, Nat.zero_le _⟩) ?_
            refine go_if_eq (tgt := 32) (at_of tX10_endOfParagraph 0 15 rfl) (by decide) (fun h25 => ?_) (fun h25 => ?_)
            · exfalso; exact bI_0.mp h25 h47
            refine go_iconst (at_of tX10_endOfParagraph 1 0 rfl) (by unfold in32; omega) ?_
            refine go_goto (tgt := 33) (at_of tX10_endOfParagraph 1 1 rfl) (by decide) ?_
            refine go_istore (at_of tX10_endOfParagraph 1 3 rfl) rfl rfl ?_
            refine go_iload (at_of tX10_endOfParagraph 1 4 rfl) rfl rfl ?_
            refine go_if_eq (tgt := 46) (at_of tX10_endOfParagraph 1 5 rfl) (by decide) (fun h37 => ?_) (fun h37 => ?_)
            · exfalso; omega
            refine go_iload_n (at_of tX10_endOfParagraph 1 6 rfl) rfl ?_
            refine go_if_ne (tgt := 46) (at_of tX10_endOfParagraph 1 7 rfl) (by decide) (fun h41 => ?_) (fun h41 => ?_)
            rotate_left
            · exfalso; omega
            refine go_iload_n (at_of tX10_endOfParagraph 1 10 rfl) rfl ?_
            refine go_iload (at_of tX10_endOfParagraph 1 11 rfl) rfl rfl ?_
            refine go_if_eq (tgt := 56) (at_of tX10_endOfParagraph 1 12 rfl) (by decide) (fun h49 => ?_) (fun h49 => ?_)
            · exfalso; omega
            refine go_iconst (at_of tX10_endOfParagraph 1 13 rfl) (by unfold in32; omega) ?_
            refine go_goto (tgt := 57) (at_of tX10_endOfParagraph 1 14 rfl) (by decide) ?_
            refine go_isub (at_of tX10_endOfParagraph 2 0 rfl) (by unfold in32; omega) ?_
            refine go_istore_n (at_of tX10_endOfParagraph 2 1 rfl) rfl rfl ?_
            refine go_iinc (at_of tX10_endOfParagraph 2 2 rfl) rfl (by unfold in32; omega) rfl rfl ?_
            refine go_goto (tgt := 4) (at_of tX10_endOfParagraph 2 3 rfl) (by decide) ?_
            exact ih _ _ _ _ (by omega) (by omega) (by omega) (by omega) (by omega)
        · rw [ind_f (fun q => h47 (si.mp q).2)] at es
          refine go_iload_n (at_of tX10_endOfParagraph 0 4 rfl) rfl ?_
          refine go_aload_n (at_of tX10_endOfParagraph 0 5 rfl) rfl ?_
          refine go_cV (m_many hS hN) lk_X10_110 rfl G_109 (at_of tX10_endOfParagraph 0 6 rfl) rfl (by decide) rfl (Nat.le_of_ble_eq_true rfl) rfl (by first | decide | exact ⟨Nat.zero_le _, Nat.zero_le _⟩) ?_
          refine go_icmp_ge (tgt := 65) (at_of tX10_endOfParagraph 0 7 rfl) (by decide) (fun h9 => ?_) (fun h9 => ?_)
          · exfalso; omega
          refine go_aload_n (at_of tX10_endOfParagraph 0 8 rfl) rfl ?_
          refine go_iload_n (at_of tX10_endOfParagraph 0 9 rfl) rfl ?_
          refine go_cV (m_isSeen hS hN (by omega)) lk_X10_114 rfl G_109 (at_of tX10_endOfParagraph 0 10 rfl) rfl (by decide) rfl (Nat.le_of_ble_eq_true rfl) rfl (by first | decide | exact ⟨Nat.zero_le _, Nat.zero_le _⟩) ?_
          refine go_if_eq (tgt := 32) (at_of tX10_endOfParagraph 0 11 rfl) (by decide) (fun h17 => ?_) (fun h17 => ?_)
          · exfalso; exact bI_0.mp h17 hs
          refine go_aload_n (at_of tX10_endOfParagraph 0 12 rfl) rfl ?_
          refine go_iload_n (at_of tX10_endOfParagraph 0 13 rfl) rfl ?_
          refine go_cV (m_isEnd hS hN hSg (by omega)) lk_X10_118 rfl G_109 (at_of tX10_endOfParagraph 0 14 rfl) rfl (by decide) rfl (Nat.le_of_ble_eq_true rfl) rfl (by first | decide | exact ⟨Nat.zero_le _, Nat.zero_le _⟩) ?_
          refine go_if_eq (tgt := 32) (at_of tX10_endOfParagraph 0 15 rfl) (by decide) (fun h25 => ?_) (fun h25 => ?_)
          rotate_left
          · exfalso; exact h47 (bI_1.mp h25)
          refine go_iconst (at_of tX10_endOfParagraph 1 2 rfl) (by unfold in32; omega) ?_
          refine go_istore (at_of tX10_endOfParagraph 1 3 rfl) rfl rfl ?_
          refine go_iload (at_of tX10_endOfParagraph 1 4 rfl) rfl rfl ?_
          refine go_if_eq (tgt := 46) (at_of tX10_endOfParagraph 1 5 rfl) (by decide) (fun h37 => ?_) (fun h37 => ?_)
          rotate_left
          · exfalso; omega
          refine go_iload_n (at_of tX10_endOfParagraph 1 10 rfl) rfl ?_
          refine go_iload (at_of tX10_endOfParagraph 1 11 rfl) rfl rfl ?_
          refine go_if_eq (tgt := 56) (at_of tX10_endOfParagraph 1 12 rfl) (by decide) (fun h49 => ?_) (fun h49 => ?_)
          rotate_left
          · exfalso; omega
          refine go_iconst (at_of tX10_endOfParagraph 1 15 rfl) (by unfold in32; omega) ?_
          refine go_isub (at_of tX10_endOfParagraph 2 0 rfl) (by unfold in32; omega) ?_
          refine go_istore_n (at_of tX10_endOfParagraph 2 1 rfl) rfl rfl ?_
          refine go_iinc (at_of tX10_endOfParagraph 2 2 rfl) rfl (by unfold in32; omega) rfl rfl ?_
          refine go_goto (tgt := 4) (at_of tX10_endOfParagraph 2 3 rfl) (by decide) ?_
          exact ih _ _ _ _ (by omega) (by omega) (by omega) (by omega) (by omega)
      · rw [ind_f (fun q => hs (si.mp q).1)] at es
        refine go_iload_n (at_of tX10_endOfParagraph 0 4 rfl) rfl ?_
        refine go_aload_n (at_of tX10_endOfParagraph 0 5 rfl) rfl ?_
        refine go_cV (m_many hS hN) lk_X10_110 rfl G_109 (at_of tX10_endOfParagraph 0 6 rfl) rfl (by decide) rfl (Nat.le_of_ble_eq_true rfl) rfl (by first | decide | exact ⟨Nat.zero_le _, Nat.zero_le _⟩) ?_
        refine go_icmp_ge (tgt := 65) (at_of tX10_endOfParagraph 0 7 rfl) (by decide) (fun h9 => ?_) (fun h9 => ?_)
        · exfalso; omega
        refine go_aload_n (at_of tX10_endOfParagraph 0 8 rfl) rfl ?_
        refine go_iload_n (at_of tX10_endOfParagraph 0 9 rfl) rfl ?_
        refine go_cV (m_isSeen hS hN (by omega)) lk_X10_114 rfl G_109 (at_of tX10_endOfParagraph 0 10 rfl) rfl (by decide) rfl (Nat.le_of_ble_eq_true rfl) rfl (by first | decide | exact ⟨Nat.zero_le _, Nat.zero_le _⟩) ?_
        refine go_if_eq (tgt := 32) (at_of tX10_endOfParagraph 0 11 rfl) (by decide) (fun h17 => ?_) (fun h17 => ?_)
        rotate_left
        · exfalso; exact hs (bI_1.mp h17)
        refine go_iconst (at_of tX10_endOfParagraph 1 2 rfl) (by unfold in32; omega) ?_
        refine go_istore (at_of tX10_endOfParagraph 1 3 rfl) rfl rfl ?_
        refine go_iload (at_of tX10_endOfParagraph 1 4 rfl) rfl rfl ?_
        refine go_if_eq (tgt := 46) (at_of tX10_endOfParagraph 1 5 rfl) (by decide) (fun h37 => ?_) (fun h37 => ?_)
        rotate_left
        · exfalso; omega
        refine go_iload_n (at_of tX10_endOfParagraph 1 10 rfl) rfl ?_
        refine go_iload (at_of tX10_endOfParagraph 1 11 rfl) rfl rfl ?_
        refine go_if_eq (tgt := 56) (at_of tX10_endOfParagraph 1 12 rfl) (by decide) (fun h49 => ?_) (fun h49 => ?_)
        rotate_left
        · exfalso; omega
        refine go_iconst (at_of tX10_endOfParagraph 1 15 rfl) (by unfold in32; omega) ?_
        refine go_isub (at_of tX10_endOfParagraph 2 0 rfl) (by unfold in32; omega) ?_
        refine go_istore_n (at_of tX10_endOfParagraph 2 1 rfl) rfl rfl ?_
        refine go_iinc (at_of tX10_endOfParagraph 2 2 rfl) rfl (by unfold in32; omega) rfl rfl ?_
        refine go_goto (tgt := 4) (at_of tX10_endOfParagraph 2 3 rfl) (by decide) ?_
        exact ih _ _ _ _ (by omega) (by omega) (by omega) (by omega) (by omega)
  have pb := enN_ub (R := R) e1
  refine con_of_go mfX10_endOfParagraph.1 trivial (Nat.le_of_ble_eq_true rfl) rfl (by decide) ?_
  show Go _ _ _ _ 0 [vA _, vI _, vT 9 0, vT 9 0, vT 9 0] [] _ _
  refine go_iload_n (at_of tX10_endOfParagraph 0 0 rfl) rfl ?_
  refine go_istore_n (at_of tX10_endOfParagraph 0 1 rfl) rfl rfl ?_
  refine go_iconst (at_of tX10_endOfParagraph 0 2 rfl) (by unfold in32; omega) ?_
  refine go_istore_n (at_of tX10_endOfParagraph 0 3 rfl) rfl rfl ?_
  exact key R.2.1.toNat _ 0 _ _ (by omega) (by omega) (by show p = p - 0; omega) (by omega) (by omega)
theorem m_paragraphsNow (hS : Str σ.2.1) {R : RowD} (hN : RepNr (cN σ) R) (hE : LastE R) (hSg : SgW R) : Con 2 mX10_paragraphsNow 0 0 [vA 109] σ (vI (endsA R.1 R.2.1 R.2.1 + 1), σ) := by
  obtain ⟨e1, e2, e3, e4⟩ := id hE
  have n1 := hN.1
  have n2 := hN.2.1
  have n3 := hN.2.2.1
  have n4 := hN.2.2.2
  rw [endsA_N (Int.le_refl _)]
  have key : ∀ (m : Nat) (b : Nat × Nat) (u s : Int), 0 ≤ u → u + m = R.2.1 → s = enN R u + 1 → Go (fun _ => 0) 2 mX10_paragraphsNow b 4 [vA 109, vI s, vI u] [] σ (vI (enN R R.2.1 + 1), σ) := by
    intro m
    induction m with
    | zero =>
      intro b u s h0 h1 h2
      obtain rfl : u = R.2.1 := by omega
      refine go_iload_n (at_of tX10_paragraphsNow 0 4 rfl) rfl ?_
      refine go_aload_n (at_of tX10_paragraphsNow 0 5 rfl) rfl ?_
      refine go_cV (m_many hS hN) lk_X10_110 rfl G_109 (at_of tX10_paragraphsNow 0 6 rfl) rfl (by decide) rfl (Nat.le_of_ble_eq_true rfl) rfl (by first | decide | exact ⟨Nat.zero_le _, Nat.zero_le _⟩) ?_
      refine go_icmp_ge (tgt := 42) (at_of tX10_paragraphsNow 0 7 rfl) (by decide) (fun h9 => ?_) (fun h9 => ?_)
      rotate_left
      · exfalso; omega
      refine go_iload_n (at_of tX10_paragraphsNow 1 8 rfl) rfl ?_
      first | exact go_reti (at_of tX10_paragraphsNow 1 9 rfl) rfl | exact go_reti (at_of tX10_paragraphsNow 1 9 rfl) (le_i (by omega)) | exact go_reti (at_of tX10_paragraphsNow 1 9 rfl) (le_i (by first | exact bI_t (by omega) | exact bI_f (by omega)))
    | succ m ih =>
      intro b u s h0 h1 h2
      have eb := enN_ub (R := R) h0
      have en := @enN_nn R u
      have si := send_iff (R := R) h0 (by omega)
      have es := enN_s (R := R) h0
      by_cases hs : R.1 3 u = -1
      · by_cases h47 : R.1 0 u = 47
        · have hse := si.mpr ⟨hs, h47⟩
          rw [ind_t hse] at es
          refine go_iload_n (at_of tX10_paragraphsNow 0 4 rfl) rfl ?_
          refine go_aload_n (at_of tX10_paragraphsNow 0 5 rfl) rfl ?_
          refine go_cV (m_many hS hN) lk_X10_110 rfl G_109 (at_of tX10_paragraphsNow 0 6 rfl) rfl (by decide) rfl (Nat.le_of_ble_eq_true rfl) rfl (by first | decide | exact ⟨Nat.zero_le _, Nat.zero_le _⟩) ?_
          refine go_icmp_ge (tgt := 42) (at_of tX10_paragraphsNow 0 7 rfl) (by decide) (fun h9 => ?_) (fun h9 => ?_)
          · exfalso; omega
          refine go_iload_n (at_of tX10_paragraphsNow 0 8 rfl) rfl ?_
          refine go_aload_n (at_of tX10_paragraphsNow 0 9 rfl) rfl ?_
          refine go_iload_n (at_of tX10_paragraphsNow 0 10 rfl) rfl ?_
          refine go_cV (m_isSeen hS hN (by omega)) lk_X10_114 rfl G_109 (at_of tX10_paragraphsNow 0 11 rfl) rfl (by decide) rfl (Nat.le_of_ble_eq_true rfl) rfl (by first | decide | exact ⟨Nat.zero_le _, Nat.zero_le _⟩) ?_
          refine go_if_eq (tgt := 33) (at_of tX10_paragraphsNow 0 12 rfl) (by decide) (fun h18 => ?_) (fun h18 => ?_)
          · exfalso; exact bI_0.mp h18 hs
          refine go_aload_n (at_of tX10_paragraphsNow 0 13 rfl) rfl ?_
          refine go_iload_n (at_of tX10_paragraphsNow 0 14 rfl) rfl ?_
          refine go_cV (m_isEnd hS hN hSg (by omega)) lk_X10_118 rfl G_109 (at_of tX10_paragraphsNow 0 15 rfl) rfl (by decide) rfl (Nat.le_of_ble_eq_true rfl) rfl (by first | decide | exact ⟨Nat.zero_le _, Nat.zero_le _⟩) ?_
          refine go_if_eq (tgt := 33) (at_of tX10_paragraphsNow 1 0 rfl) (by decide) (fun h26 => ?_) (fun h26 => ?_)
          · exfalso; exact bI_0.mp h26 h47
          refine go_iconst (at_of tX10_paragraphsNow 1 1 rfl) (by unfold in32; omega) ?_
          refine go_goto (tgt := 34) (at_of tX10_paragraphsNow 1 2 rfl) (by decide) ?_
          refine go_iadd (at_of tX10_paragraphsNow 1 4 rfl) (by unfold in32; omega) ?_
          refine go_istore_n (at_of tX10_paragraphsNow 1 5 rfl) rfl rfl ?_
          refine go_iinc (at_of tX10_paragraphsNow 1 6 rfl) rfl (by unfold in32; omega) rfl rfl ?_
          refine go_goto (tgt := 4) (at_of tX10_paragraphsNow 1 7 rfl) (by decide) ?_
          exact ih _ _ _ (by omega) (by omega) (by omega)
        · rw [ind_f (fun q => h47 (si.mp q).2)] at es
          refine go_iload_n (at_of tX10_paragraphsNow 0 4 rfl) rfl ?_
          refine go_aload_n (at_of tX10_paragraphsNow 0 5 rfl) rfl ?_
          refine go_cV (m_many hS hN) lk_X10_110 rfl G_109 (at_of tX10_paragraphsNow 0 6 rfl) rfl (by decide) rfl (Nat.le_of_ble_eq_true rfl) rfl (by first | decide | exact ⟨Nat.zero_le _, Nat.zero_le _⟩) ?_
          refine go_icmp_ge (tgt := 42) (at_of tX10_paragraphsNow 0 7 rfl) (by decide) (fun h9 => ?_) (fun h9 => ?_)
          · exfalso; omega
          refine go_iload_n (at_of tX10_paragraphsNow 0 8 rfl) rfl ?_
          refine go_aload_n (at_of tX10_paragraphsNow 0 9 rfl) rfl ?_
          refine go_iload_n (at_of tX10_paragraphsNow 0 10 rfl) rfl ?_
          refine go_cV (m_isSeen hS hN (by omega)) lk_X10_114 rfl G_109 (at_of tX10_paragraphsNow 0 11 rfl) rfl (by decide) rfl (Nat.le_of_ble_eq_true rfl) rfl (by first | decide | exact ⟨Nat.zero_le _, Nat.zero_le _⟩) ?_
          refine go_if_eq (tgt := 33) (at_of tX10_paragraphsNow 0 12 rfl) (by decide) (fun h18 => ?_) (fun h18 => ?_)
          · exfalso; exact bI_0.mp h18 hs
          refine go_aload_n (at_of tX10_paragraphsNow 0 13 rfl) rfl ?_
          refine go_iload_n (at_of tX10_paragraphsNow 0 14 rfl) rfl ?_
          refine go_cV (m_isEnd hS hN hSg (by omega)) lk_X10_118 rfl G_109 (at_of tX10_paragraphsNow 0 15 rfl) rfl (by decide) rfl (Nat.le_of_ble_eq_true rfl) rfl (by first | decide | exact ⟨Nat.zero_le _, Nat.zero_le _⟩) ?_
          refine go_if_eq (tgt := 33) (at_of tX10_paragraphsNow 1 0 rfl) (by decide) (fun h26 => ?_) (fun h26 => ?_)
          rotate_left
          · exfalso; exact h47 (bI_1.mp h26)
          refine go_iconst (at_of tX10_paragraphsNow 1 3 rfl) (by unfold in32; omega) ?_
          refine go_iadd (at_of tX10_paragraphsNow 1 4 rfl) (by unfold in32; omega) ?_
          refine go_istore_n (at_of tX10_paragraphsNow 1 5 rfl) rfl rfl ?_
          refine go_iinc (at_of tX10_paragraphsNow 1 6 rfl) rfl (by unfold in32; omega) rfl rfl ?_
          refine go_goto (tgt := 4) (at_of tX10_paragraphsNow 1 7 rfl) (by decide) ?_
          exact ih _ _ _ (by omega) (by omega) (by omega)
      · rw [ind_f (fun q => hs (si.mp q).1)] at es
        refine go_iload_n (at_of tX10_paragraphsNow 0 4 rfl) rfl ?_
        refine go_aload_n (at_of tX10_paragraphsNow 0 5 rfl) rfl ?_
        refine go_cV (m_many hS hN) lk_X10_110 rfl G_109 (at_of tX10_paragraphsNow 0 6 rfl) rfl (by decide) rfl (Nat.le_of_ble_eq_true rfl) rfl (by first | decide | exact ⟨Nat.zero_le _, Nat.zero_le _⟩) ?_
        refine go_icmp_ge (tgt := 42) (at_of tX10_paragraphsNow 0 7 rfl) (by decide) (fun h9 => ?_) (fun h9 => ?_)
        · exfalso; omega
        refine go_iload_n (at_of tX10_paragraphsNow 0 8 rfl) rfl ?_
        refine go_aload_n (at_of tX10_paragraphsNow 0 9 rfl) rfl ?_
        refine go_iload_n (at_of tX10_paragraphsNow 0 10 rfl) rfl ?_
        refine go_cV (m_isSeen hS hN (by omega)) lk_X10_114 rfl G_109 (at_of tX10_paragraphsNow 0 11 rfl) rfl (by decide) rfl (Nat.le_of_ble_eq_true rfl) rfl (by first | decide | exact ⟨Nat.zero_le _, Nat.zero_le _⟩) ?_
        refine go_if_eq (tgt := 33) (at_of tX10_paragraphsNow 0 12 rfl) (by decide) (fun h18 => ?_) (fun h18 => ?_)
        rotate_left
        · exfalso; exact hs (bI_1.mp h18)
        refine go_iconst (at_of tX10_paragraphsNow 1 3 rfl) (by unfold in32; omega) ?_
        refine go_iadd (at_of tX10_paragraphsNow 1 4 rfl) (by unfold in32; omega) ?_
        refine go_istore_n (at_of tX10_paragraphsNow 1 5 rfl) rfl rfl ?_
        refine go_iinc (at_of tX10_paragraphsNow 1 6 rfl) rfl (by unfold in32; omega) rfl rfl ?_
        refine go_goto (tgt := 4) (at_of tX10_paragraphsNow 1 7 rfl) (by decide) ?_
        exact ih _ _ _ (by omega) (by omega) (by omega)
  refine con_of_go mfX10_paragraphsNow.1 trivial (Nat.le_of_ble_eq_true rfl) rfl (by decide) ?_
  show Go _ _ _ _ 0 [vA _, vT 9 0, vT 9 0] [] _ _
  refine go_iconst (at_of tX10_paragraphsNow 0 0 rfl) (by unfold in32; omega) ?_
  refine go_istore_n (at_of tX10_paragraphsNow 0 1 rfl) rfl rfl ?_
  refine go_iconst (at_of tX10_paragraphsNow 0 2 rfl) (by unfold in32; omega) ?_
  refine go_istore_n (at_of tX10_paragraphsNow 0 3 rfl) rfl rfl ?_
  exact key R.2.1.toNat _ 0 1 (by omega) (by omega) rfl
theorem m_isParagraph (hS : Str σ.2.1) {R : RowD} (hN : RepNr (cN σ) R) (hE : LastE R) (hSg : SgW R) {p : Int} : Con 3 mX10_isParagraph 0 0 [vA 109, vI p] σ (vI (bI (0 ≤ p ∧ p ≤ endsA R.1 R.2.1 R.2.1)), σ) := by
  obtain ⟨e1, e2, e3, e4⟩ := id hE
  have n1 := hN.1
  have n2 := hN.2.1
  have n3 := hN.2.2.1
  have n4 := hN.2.2.2
  have eb := @endsA_le R.1 R.2.1 R.2.1
  have eb2 := eb.2 e1
  rw [show bI (0 ≤ p ∧ p ≤ endsA R.1 R.2.1 R.2.1) = bI (0 ≤ p ∧ p ≤ endsA R.1 R.2.1 R.2.1 + 1 - 1) from bI_congr (by omega)]
  refine con_of_go mfX10_isParagraph.1 bI_01 (Nat.le_of_ble_eq_true rfl) rfl (by decide) ?_
  show Go _ _ _ _ 0 [vA _, vI _] [] _ _
  refine go_iload_n (at_of tX10_isParagraph 0 0 rfl) rfl ?_
  refine go_iconst (at_of tX10_isParagraph 0 1 rfl) (by unfold in32; omega) ?_
  refine go_aload_n (at_of tX10_isParagraph 0 2 rfl) rfl ?_
  refine go_cV (m_paragraphsNow hS hN hE hSg) lk_X10_121 rfl G_109 (at_of tX10_isParagraph 0 3 rfl) rfl (by decide) rfl (Nat.le_of_ble_eq_true rfl) rfl (by first | decide | exact ⟨Nat.zero_le _, Nat.zero_le _⟩) ?_
  refine go_iconst (at_of tX10_isParagraph 0 4 rfl) (by unfold in32; omega) ?_
  refine go_isub (at_of tX10_isParagraph 0 5 rfl) (by unfold in32; omega) ?_
  refine go_cS (m_in) lk_X10_124 rfl (at_of tX10_isParagraph 0 6 rfl) rfl (by decide) rfl (Nat.le_of_ble_eq_true rfl) rfl (by first | decide | exact ⟨Nat.zero_le _, Nat.zero_le _⟩) ?_
  first | exact go_reti (at_of tX10_isParagraph 0 7 rfl) rfl | exact go_reti (at_of tX10_isParagraph 0 7 rfl) (le_i (by omega)) | exact go_reti (at_of tX10_isParagraph 0 7 rfl) (le_i (by first | exact bI_t (by omega) | exact bI_f (by omega)))
theorem m_isPlace (hS : Str σ.2.1) {R : RowD} (hN : RepNr (cN σ) R) (hE : LastE R) (hSg : SgW R) {p : Int} : Con 3 mX10_isPlace 0 0 [vA 109, vI p] σ (vI (bI (0 ≤ p ∧ p ≤ plOf R.1 R.2.1 R.2.1)), σ) := by
  obtain ⟨e1, e2, e3, e4⟩ := id hE
  have n1 := hN.1
  have n2 := hN.2.1
  have n3 := hN.2.2.1
  have n4 := hN.2.2.2
  refine con_of_go mfX10_isPlace.1 bI_01 (Nat.le_of_ble_eq_true rfl) rfl (by decide) ?_
  show Go _ _ _ _ 0 [vA _, vI _] [] _ _
  refine go_iload_n (at_of tX10_isPlace 0 0 rfl) rfl ?_
  refine go_iconst (at_of tX10_isPlace 0 1 rfl) (by unfold in32; omega) ?_
  refine go_aload_n (at_of tX10_isPlace 0 2 rfl) rfl ?_
  refine go_cV (m_seen hS hN hE hSg) lk_X10_128 rfl G_109 (at_of tX10_isPlace 0 3 rfl) rfl (by decide) rfl (Nat.le_of_ble_eq_true rfl) rfl (by first | decide | exact ⟨Nat.zero_le _, Nat.zero_le _⟩) ?_
  refine go_cS (m_in) lk_X10_124 rfl (at_of tX10_isPlace 0 4 rfl) rfl (by decide) rfl (Nat.le_of_ble_eq_true rfl) rfl (by first | decide | exact ⟨Nat.zero_le _, Nat.zero_le _⟩) ?_
  first | exact go_reti (at_of tX10_isPlace 0 5 rfl) rfl | exact go_reti (at_of tX10_isPlace 0 5 rfl) (le_i (by omega)) | exact go_reti (at_of tX10_isPlace 0 5 rfl) (le_i (by first | exact bI_t (by omega) | exact bI_f (by omega)))
end Mod
