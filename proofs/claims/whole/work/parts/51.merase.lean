/-! The reference: parts erased, fields written. -/
section Mod12
variable {σ : St}
theorem m_waits2 (hS : Str σ.2.1) {D : PapD} (hN : RepN (cN σ) D) {c : Int} (hc : c = -1 ∨ (0 ≤ c ∧ c < D.2.1.1)) : Con 0 mX10_waits 0 0 [vA 109, vI c] σ (vI (bI (c ≠ -1 ∧ D.2.1.2.2.2 c = 119)), σ) := by
  obtain ⟨b1, b2, b3, b4⟩ := id hN.2.2.2
  have hl := hN.2.1.2
  by_cases h : c = -1
  · rw [bI_f (fun q => q.1 h)]
    refine con_of_go mfX10_waits.1 (Or.inl rfl) (Nat.le_of_ble_eq_true rfl) rfl (by decide) ?_
    show Go _ _ _ _ 0 [vA _, vI _] [] _ _
    refine go_iload_n (at_of tX10_waits 0 0 rfl) rfl ?_
    refine go_iconst (at_of tX10_waits 0 1 rfl) (by unfold in32; omega) ?_
    refine go_icmp_eq (tgt := 24) (at_of tX10_waits 0 2 rfl) (by decide) (fun h2 => ?_) (fun h2 => ?_)
    rotate_left
    · exfalso; omega
    refine go_iconst (at_of tX10_waits 0 13 rfl) (by unfold in32; omega) ?_
    first | exact go_reti (at_of tX10_waits 0 14 rfl) rfl | exact go_reti (at_of tX10_waits 0 14 rfl) (le_i (by omega)) | exact go_reti (at_of tX10_waits 0 14 rfl) (le_i (by first | exact bI_t (by omega) | exact bI_f (by omega)))
  · have z : σ.1 110 (3073 + c).toNat = D.2.1.2.2.2 c := (hl c (by omega) (by omega)).2.1
    by_cases hw : D.2.1.2.2.2 c = 119
    · rw [bI_t ⟨h, hw⟩]
      refine con_of_go mfX10_waits.1 (Or.inr rfl) (Nat.le_of_ble_eq_true rfl) rfl (by decide) ?_
      show Go _ _ _ _ 0 [vA _, vI _] [] _ _
      refine go_iload_n (at_of tX10_waits 0 0 rfl) rfl ?_
      refine go_iconst (at_of tX10_waits 0 1 rfl) (by unfold in32; omega) ?_
      refine go_icmp_eq (tgt := 24) (at_of tX10_waits 0 2 rfl) (by decide) (fun h2 => ?_) (fun h2 => ?_)
      · exfalso; omega
      refine go_aload_n (at_of tX10_waits 0 3 rfl) rfl ?_
      refine go_getr (q := 110) fl_X10_7 rfl G_109 (by first | exact (hS _ _ rfl).trans rfl | exact (hS1 _ _ rfl).trans rfl | exact (hS2 _ _ rfl).trans rfl | exact (hS3 _ _ rfl).trans rfl | exact (hS4 _ _ rfl).trans rfl) (at_of tX10_waits 0 4 rfl) ?_
      refine go_sipush (at_of tX10_waits 0 5 rfl) (by decide) ?_
      refine go_iload_n (at_of tX10_waits 0 6 rfl) rfl ?_
      refine go_iadd (at_of tX10_waits 0 7 rfl) (by unfold in32; omega) ?_
      refine go_iald G_110 (by omega) (by omega) (at_of tX10_waits 0 8 rfl) ?_
      refine go_bipush (at_of tX10_waits 0 9 rfl) (by decide) ?_
      refine go_icmp_ne (tgt := 24) (at_of tX10_waits 0 10 rfl) (by decide) (fun h17 => ?_) (fun h17 => ?_)
      · exfalso; omega
      refine go_iconst (at_of tX10_waits 0 11 rfl) (by unfold in32; omega) ?_
      refine go_goto (tgt := 25) (at_of tX10_waits 0 12 rfl) (by decide) ?_
      first | exact go_reti (at_of tX10_waits 0 14 rfl) rfl | exact go_reti (at_of tX10_waits 0 14 rfl) (le_i (by omega)) | exact go_reti (at_of tX10_waits 0 14 rfl) (le_i (by first | exact bI_t (by omega) | exact bI_f (by omega)))
    · rw [bI_f (fun q => hw q.2)]
      refine con_of_go mfX10_waits.1 (Or.inl rfl) (Nat.le_of_ble_eq_true rfl) rfl (by decide) ?_
      show Go _ _ _ _ 0 [vA _, vI _] [] _ _
      refine go_iload_n (at_of tX10_waits 0 0 rfl) rfl ?_
      refine go_iconst (at_of tX10_waits 0 1 rfl) (by unfold in32; omega) ?_
      refine go_icmp_eq (tgt := 24) (at_of tX10_waits 0 2 rfl) (by decide) (fun h2 => ?_) (fun h2 => ?_)
      · exfalso; omega
      refine go_aload_n (at_of tX10_waits 0 3 rfl) rfl ?_
      refine go_getr (q := 110) fl_X10_7 rfl G_109 (by first | exact (hS _ _ rfl).trans rfl | exact (hS1 _ _ rfl).trans rfl | exact (hS2 _ _ rfl).trans rfl | exact (hS3 _ _ rfl).trans rfl | exact (hS4 _ _ rfl).trans rfl) (at_of tX10_waits 0 4 rfl) ?_
      refine go_sipush (at_of tX10_waits 0 5 rfl) (by decide) ?_
      refine go_iload_n (at_of tX10_waits 0 6 rfl) rfl ?_
      refine go_iadd (at_of tX10_waits 0 7 rfl) (by unfold in32; omega) ?_
      refine go_iald G_110 (by omega) (by omega) (at_of tX10_waits 0 8 rfl) ?_
      refine go_bipush (at_of tX10_waits 0 9 rfl) (by decide) ?_
      refine go_icmp_ne (tgt := 24) (at_of tX10_waits 0 10 rfl) (by decide) (fun h17 => ?_) (fun h17 => ?_)
      rotate_left
      · exfalso; omega
      refine go_iconst (at_of tX10_waits 0 13 rfl) (by unfold in32; omega) ?_
      first | exact go_reti (at_of tX10_waits 0 14 rfl) rfl | exact go_reti (at_of tX10_waits 0 14 rfl) (le_i (by omega)) | exact go_reti (at_of tX10_waits 0 14 rfl) (le_i (by first | exact bI_t (by omega) | exact bI_f (by omega)))
theorem m_isOwn2 (hS : Str σ.2.1) {D : PapD} (hN : RepN (cN σ) D) {u a : Int} (hu : 0 ≤ u ∧ u ≤ D.1.2.1) (hmk : (D.1.1 2 u) = -1 ∨ (0 ≤ (D.1.1 2 u) ∧ (D.1.1 2 u) < D.2.1.1)) : Con 1 mX10_isOwn 0 0 [vA 109, vI u, vI a] σ (vI (bI (waitsD D.2.1 (D.1.1 2 u) a = true)), σ) := by
  obtain ⟨b1, b2, b3, b4⟩ := id hN.2.2.2
  have hl := hN.2.1.2
  have m1 := m_at1 hS hN.1 (u := u) ⟨hu.1, hu.2, b2⟩
  have mw := m_waits2 hS hN hmk
  unfold waitsD
  by_cases hw : (D.1.1 2 u) ≠ -1 ∧ D.2.1.2.2.2 (D.1.1 2 u) = 119
  · have z : σ.1 110 (3013 + (D.1.1 2 u)).toNat = D.2.1.2.2.1 (D.1.1 2 u) := (hl (D.1.1 2 u) (by omega) (by omega)).1
    by_cases ha : D.2.1.2.2.1 (D.1.1 2 u) = a
    · rw [bI_t (decide_eq_true ⟨by omega, by omega, hw.2, ha⟩)]
      refine con_of_go mfX10_isOwn.1 (Or.inr rfl) (Nat.le_of_ble_eq_true rfl) rfl (by decide) ?_
      show Go _ _ _ _ 0 [vA _, vI _, vI _, vT 9 0] [] _ _
      refine go_aload_n (at_of tX10_isOwn 0 0 rfl) rfl ?_
      refine go_iload_n (at_of tX10_isOwn 0 1 rfl) rfl ?_
      refine go_iconst (at_of tX10_isOwn 0 2 rfl) (by unfold in32; omega) ?_
      refine go_cV (m1) lk_X10_106 rfl G_109 (at_of tX10_isOwn 0 3 rfl) rfl (by decide) rfl (Nat.le_of_ble_eq_true rfl) rfl (by first | decide | exact ⟨Nat.zero_le _, Nat.zero_le _⟩) ?_
      refine go_istore_n (at_of tX10_isOwn 0 4 rfl) rfl rfl ?_
      refine go_aload_n (at_of tX10_isOwn 0 5 rfl) rfl ?_
      refine go_iload_n (at_of tX10_isOwn 0 6 rfl) rfl ?_
      refine go_cV (mw) lk_X10_144 rfl G_109 (at_of tX10_isOwn 0 7 rfl) rfl (by decide) rfl (Nat.le_of_ble_eq_true rfl) rfl (by first | decide | exact ⟨Nat.zero_le _, Nat.zero_le _⟩) ?_
      refine go_if_eq (tgt := 33) (at_of tX10_isOwn 0 8 rfl) (by decide) (fun h12 => ?_) (fun h12 => ?_)
      · exfalso; exact bI_0.mp h12 hw
      refine go_aload_n (at_of tX10_isOwn 0 9 rfl) rfl ?_
      refine go_getr (q := 110) fl_X10_7 rfl G_109 (by first | exact (hS _ _ rfl).trans rfl | exact (hS1 _ _ rfl).trans rfl | exact (hS2 _ _ rfl).trans rfl | exact (hS3 _ _ rfl).trans rfl | exact (hS4 _ _ rfl).trans rfl) (at_of tX10_isOwn 0 10 rfl) ?_
      refine go_sipush (at_of tX10_isOwn 0 11 rfl) (by decide) ?_
      refine go_iload_n (at_of tX10_isOwn 0 12 rfl) rfl ?_
      refine go_iadd (at_of tX10_isOwn 0 13 rfl) (by unfold in32; omega) ?_
      refine go_iald G_110 (by omega) (by omega) (at_of tX10_isOwn 0 14 rfl) ?_
      refine go_iload_n (at_of tX10_isOwn 0 15 rfl) rfl ?_
      refine go_icmp_ne (tgt := 33) (at_of tX10_isOwn 1 0 rfl) (by decide) (fun h26 => ?_) (fun h26 => ?_)
      · exfalso; omega
      refine go_iconst (at_of tX10_isOwn 1 1 rfl) (by unfold in32; omega) ?_
      refine go_goto (tgt := 34) (at_of tX10_isOwn 1 2 rfl) (by decide) ?_
      first | exact go_reti (at_of tX10_isOwn 1 4 rfl) rfl | exact go_reti (at_of tX10_isOwn 1 4 rfl) (le_i (by omega)) | exact go_reti (at_of tX10_isOwn 1 4 rfl) (le_i (by first | exact bI_t (by omega) | exact bI_f (by omega)))
    · rw [bI_f (fun q => ha (of_decide_eq_true q).2.2.2)]
      refine con_of_go mfX10_isOwn.1 (Or.inl rfl) (Nat.le_of_ble_eq_true rfl) rfl (by decide) ?_
      show Go _ _ _ _ 0 [vA _, vI _, vI _, vT 9 0] [] _ _
      refine go_aload_n (at_of tX10_isOwn 0 0 rfl) rfl ?_
      refine go_iload_n (at_of tX10_isOwn 0 1 rfl) rfl ?_
      refine go_iconst (at_of tX10_isOwn 0 2 rfl) (by unfold in32; omega) ?_
      refine go_cV (m1) lk_X10_106 rfl G_109 (at_of tX10_isOwn 0 3 rfl) rfl (by decide) rfl (Nat.le_of_ble_eq_true rfl) rfl (by first | decide | exact ⟨Nat.zero_le _, Nat.zero_le _⟩) ?_
      refine go_istore_n (at_of tX10_isOwn 0 4 rfl) rfl rfl ?_
      refine go_aload_n (at_of tX10_isOwn 0 5 rfl) rfl ?_
      refine go_iload_n (at_of tX10_isOwn 0 6 rfl) rfl ?_
      refine go_cV (mw) lk_X10_144 rfl G_109 (at_of tX10_isOwn 0 7 rfl) rfl (by decide) rfl (Nat.le_of_ble_eq_true rfl) rfl (by first | decide | exact ⟨Nat.zero_le _, Nat.zero_le _⟩) ?_
      refine go_if_eq (tgt := 33) (at_of tX10_isOwn 0 8 rfl) (by decide) (fun h12 => ?_) (fun h12 => ?_)
      · exfalso; exact bI_0.mp h12 hw
      refine go_aload_n (at_of tX10_isOwn 0 9 rfl) rfl ?_
      refine go_getr (q := 110) fl_X10_7 rfl G_109 (by first | exact (hS _ _ rfl).trans rfl | exact (hS1 _ _ rfl).trans rfl | exact (hS2 _ _ rfl).trans rfl | exact (hS3 _ _ rfl).trans rfl | exact (hS4 _ _ rfl).trans rfl) (at_of tX10_isOwn 0 10 rfl) ?_
      refine go_sipush (at_of tX10_isOwn 0 11 rfl) (by decide) ?_
      refine go_iload_n (at_of tX10_isOwn 0 12 rfl) rfl ?_
      refine go_iadd (at_of tX10_isOwn 0 13 rfl) (by unfold in32; omega) ?_
      refine go_iald G_110 (by omega) (by omega) (at_of tX10_isOwn 0 14 rfl) ?_
      refine go_iload_n (at_of tX10_isOwn 0 15 rfl) rfl ?_
      refine go_icmp_ne (tgt := 33) (at_of tX10_isOwn 1 0 rfl) (by decide) (fun h26 => ?_) (fun h26 => ?_)
      rotate_left
      · exfalso; omega
      refine go_iconst (at_of tX10_isOwn 1 3 rfl) (by unfold in32; omega) ?_
      first | exact go_reti (at_of tX10_isOwn 1 4 rfl) rfl | exact go_reti (at_of tX10_isOwn 1 4 rfl) (le_i (by omega)) | exact go_reti (at_of tX10_isOwn 1 4 rfl) (le_i (by first | exact bI_t (by omega) | exact bI_f (by omega)))
  · rw [bI_f (fun q => hw ⟨by have := (of_decide_eq_true q).1; omega, (of_decide_eq_true q).2.2.1⟩)]
    refine con_of_go mfX10_isOwn.1 (Or.inl rfl) (Nat.le_of_ble_eq_true rfl) rfl (by decide) ?_
    show Go _ _ _ _ 0 [vA _, vI _, vI _, vT 9 0] [] _ _
    refine go_aload_n (at_of tX10_isOwn 0 0 rfl) rfl ?_
    refine go_iload_n (at_of tX10_isOwn 0 1 rfl) rfl ?_
    refine go_iconst (at_of tX10_isOwn 0 2 rfl) (by unfold in32; omega) ?_
    refine go_cV (m1) lk_X10_106 rfl G_109 (at_of tX10_isOwn 0 3 rfl) rfl (by decide) rfl (Nat.le_of_ble_eq_true rfl) rfl (by first | decide | exact ⟨Nat.zero_le _, Nat.zero_le _⟩) ?_
    refine go_istore_n (at_of tX10_isOwn 0 4 rfl) rfl rfl ?_
    refine go_aload_n (at_of tX10_isOwn 0 5 rfl) rfl ?_
    refine go_iload_n (at_of tX10_isOwn 0 6 rfl) rfl ?_
    refine go_cV (mw) lk_X10_144 rfl G_109 (at_of tX10_isOwn 0 7 rfl) rfl (by decide) rfl (Nat.le_of_ble_eq_true rfl) rfl (by first | decide | exact ⟨Nat.zero_le _, Nat.zero_le _⟩) ?_
    refine go_if_eq (tgt := 33) (at_of tX10_isOwn 0 8 rfl) (by decide) (fun h12 => ?_) (fun h12 => ?_)
    rotate_left
    · exfalso; exact hw (bI_1.mp h12)
    refine go_iconst (at_of tX10_isOwn 1 3 rfl) (by unfold in32; omega) ?_
    first | exact go_reti (at_of tX10_isOwn 1 4 rfl) rfl | exact go_reti (at_of tX10_isOwn 1 4 rfl) (le_i (by omega)) | exact go_reti (at_of tX10_isOwn 1 4 rfl) (le_i (by first | exact bI_t (by omega) | exact bI_f (by omega)))
theorem anyF_s {p : Int → Bool} {m : Nat} {i : Int} : anyF p (m + 1) i = (p i || anyF p m (i + 1)) := rfl
/-- whether a change is needed; whether a paragraph bars -/
def ndM (D : PapD) (a x y : Int) : Bool := anyF (othD D a) (y + 1 - x).toNat x
def brM (R : RowD) (p z : Int) : Bool := anyF (fun q => decide (R.1 10 (ixEnd R.1 R.2.1 q) = 1)) (z + 1 - p).toNat p
def erF (tr : Bool) (L : LogD) (a c : Int) (R : RowD) (u : Int) : RowD := if seenB R.1 R.2.1 u = true then (if tr = true ∧ ¬ waitsD L (R.1 2 u) a = true then setR R 3 u c else drpR R u) else R
def erE (D : PapD) (tr : Bool) (a p z : Int) : Int :=
  if ¬ ((0 ≤ a ∧ a ≤ 3) ∧ (0 ≤ p ∧ p ≤ plOf D.1.1 D.1.2.1 D.1.2.1) ∧ 0 ≤ z ∧ z ≤ plOf D.1.1 D.1.2.1 D.1.2.1) then 1 else if z ≤ p then 2
  else if (ndM D a (ixOf D.1.1 D.1.2.1 p) (ixOf D.1.1 D.1.2.1 (z - 1)) = true ∧ tr = true) ∧ D.2.1.1 = 60 then 3
  else if brM D.1 (endsA D.1.1 D.1.2.1 (ixOf D.1.1 D.1.2.1 p)) (endsA D.1.1 D.1.2.1 (ixOf D.1.1 D.1.2.1 z)) = true then 4 else 0
theorem m_erase_1 (hS : Str σ.2.1) {A : PastD} (hM : PastM σ A) (hW : WfB (A.1 A.2.1)) {a p z : Int} (h : ¬ ((0 ≤ a ∧ a ≤ 3) ∧ (0 ≤ p ∧ p ≤ plOf (A.1 A.2.1).1.1 (A.1 A.2.1).1.2.1 (A.1 A.2.1).1.2.1) ∧ (0 ≤ z ∧ z ≤ plOf (A.1 A.2.1).1.1 (A.1 A.2.1).1.2.1 (A.1 A.2.1).1.2.1))) : Con 4 mX10_erase 0 0 [vA 109, vI a, vI p, vI z] σ (vI 0, P1 σ 109 0 1) := by
  obtain ⟨hWm, hl2, h4⟩ := id hW
  obtain ⟨hE, hSg, hMk, hRw⟩ := id hWm
  obtain ⟨e1, e2, e3, e4⟩ := id hE
  have hN := hM.2.2.2.1
  obtain ⟨b1, b2, b3, b4⟩ := id hN.2.2.2
  have hl := hN.2.1.2
  have hcc : σ.1 110 (3011 : Int).toNat = (A.1 A.2.1).2.1.1 := hN.2.1.1
  by_cases q1 : 0 ≤ a ∧ a ≤ 3
  · by_cases q2 : 0 ≤ p ∧ p ≤ plOf (A.1 A.2.1).1.1 (A.1 A.2.1).1.2.1 (A.1 A.2.1).1.2.1
    · have q3 : ¬ (0 ≤ z ∧ z ≤ plOf (A.1 A.2.1).1.1 (A.1 A.2.1).1.2.1 (A.1 A.2.1).1.2.1) := fun q => h ⟨q1, q2, q⟩
      refine con_of_go mfX10_erase.1 trivial (Nat.le_of_ble_eq_true rfl) rfl (by decide) ?_
      show Go _ _ _ _ 0 [vA _, vI _, vI _, vI _, vT 9 0, vT 9 0, vT 9 0, vT 9 0, vT 9 0, vT 9 0] [] _ _
      refine go_aload_n (at_of tX10_erase 0 0 rfl) rfl ?_
      refine go_iload_n (at_of tX10_erase 0 1 rfl) rfl ?_
      refine go_cS (m_isAuthor) lk_X10_151 rfl (at_of tX10_erase 0 2 rfl) rfl (by decide) rfl (Nat.le_of_ble_eq_true rfl) rfl (by first | decide | exact ⟨Nat.zero_le _, Nat.zero_le _⟩) ?_
      refine go_if_eq (tgt := 24) (at_of tX10_erase 0 3 rfl) (by decide) (fun h5 => ?_) (fun h5 => ?_)
      · exfalso; exact bI_0.mp h5 q1
      refine go_aload_n (at_of tX10_erase 0 4 rfl) rfl ?_
      refine go_iload_n (at_of tX10_erase 0 5 rfl) rfl ?_
      refine go_cV (m_isPlace hS hN.1 hE hSg) lk_X10_154 rfl G_109 (at_of tX10_erase 0 6 rfl) rfl (by decide) rfl (Nat.le_of_ble_eq_true rfl) rfl (by first | decide | exact ⟨Nat.zero_le _, Nat.zero_le _⟩) ?_
      refine go_if_eq (tgt := 24) (at_of tX10_erase 0 7 rfl) (by decide) (fun h13 => ?_) (fun h13 => ?_)
      · exfalso; exact bI_0.mp h13 q2
      refine go_aload_n (at_of tX10_erase 0 8 rfl) rfl ?_
      refine go_iload_n (at_of tX10_erase 0 9 rfl) rfl ?_
      refine go_cV (m_isPlace hS hN.1 hE hSg) lk_X10_154 rfl G_109 (at_of tX10_erase 0 10 rfl) rfl (by decide) rfl (Nat.le_of_ble_eq_true rfl) rfl (by first | decide | exact ⟨Nat.zero_le _, Nat.zero_le _⟩) ?_
      refine go_if_ne (tgt := 28) (at_of tX10_erase 0 11 rfl) (by decide) (fun h21 => ?_) (fun h21 => ?_)
      · exfalso; exact q3 (bI_1.mp h21)
      refine go_iconst (at_of tX10_erase 0 12 rfl) (by unfold in32; omega) ?_
      refine go_goto (tgt := 38) (at_of tX10_erase 0 13 rfl) (by decide) ?_
      refine go_cV (m_goesOn) lk_X10_141 rfl G_109 (at_of tX10_erase 1 4 rfl) rfl (by decide) rfl (Nat.le_of_ble_eq_true rfl) rfl (by first | decide | exact ⟨Nat.zero_le _, Nat.zero_le _⟩) ?_
      refine go_if_ne (tgt := 46) (at_of tX10_erase 1 5 rfl) (by decide) (fun h41 => ?_) (fun h41 => ?_)
      · exfalso; exact h41 (bI_f (by decide))
      refine go_iconst (at_of tX10_erase 1 6 rfl) (by unfold in32; omega) ?_
      first | exact go_reti (at_of tX10_erase 1 7 rfl) rfl | exact go_reti (at_of tX10_erase 1 7 rfl) (le_i (by omega)) | exact go_reti (at_of tX10_erase 1 7 rfl) (le_i (by first | exact bI_t (by omega) | exact bI_f (by omega)))
    · skip
      refine con_of_go mfX10_erase.1 trivial (Nat.le_of_ble_eq_true rfl) rfl (by decide) ?_
      show Go _ _ _ _ 0 [vA _, vI _, vI _, vI _, vT 9 0, vT 9 0, vT 9 0, vT 9 0, vT 9 0, vT 9 0] [] _ _
      refine go_aload_n (at_of tX10_erase 0 0 rfl) rfl ?_
      refine go_iload_n (at_of tX10_erase 0 1 rfl) rfl ?_
      refine go_cS (m_isAuthor) lk_X10_151 rfl (at_of tX10_erase 0 2 rfl) rfl (by decide) rfl (Nat.le_of_ble_eq_true rfl) rfl (by first | decide | exact ⟨Nat.zero_le _, Nat.zero_le _⟩) ?_
      refine go_if_eq (tgt := 24) (at_of tX10_erase 0 3 rfl) (by decide) (fun h5 => ?_) (fun h5 => ?_)
      · exfalso; exact bI_0.mp h5 q1
      refine go_aload_n (at_of tX10_erase 0 4 rfl) rfl ?_
      refine go_iload_n (at_of tX10_erase 0 5 rfl) rfl ?_
      refine go_cV (m_isPlace hS hN.1 hE hSg) lk_X10_154 rfl G_109 (at_of tX10_erase 0 6 rfl) rfl (by decide) rfl (Nat.le_of_ble_eq_true rfl) rfl (by first | decide | exact ⟨Nat.zero_le _, Nat.zero_le _⟩) ?_
      refine go_if_eq (tgt := 24) (at_of tX10_erase 0 7 rfl) (by decide) (fun h13 => ?_) (fun h13 => ?_)
      rotate_left
      · exfalso; exact q2 (bI_1.mp h13)
      refine go_iconst (at_of tX10_erase 0 12 rfl) (by unfold in32; omega) ?_
      refine go_goto (tgt := 38) (at_of tX10_erase 0 13 rfl) (by decide) ?_
      refine go_cV (m_goesOn) lk_X10_141 rfl G_109 (at_of tX10_erase 1 4 rfl) rfl (by decide) rfl (Nat.le_of_ble_eq_true rfl) rfl (by first | decide | exact ⟨Nat.zero_le _, Nat.zero_le _⟩) ?_
      refine go_if_ne (tgt := 46) (at_of tX10_erase 1 5 rfl) (by decide) (fun h41 => ?_) (fun h41 => ?_)
      · exfalso; exact h41 (bI_f (by decide))
      refine go_iconst (at_of tX10_erase 1 6 rfl) (by unfold in32; omega) ?_
      first | exact go_reti (at_of tX10_erase 1 7 rfl) rfl | exact go_reti (at_of tX10_erase 1 7 rfl) (le_i (by omega)) | exact go_reti (at_of tX10_erase 1 7 rfl) (le_i (by first | exact bI_t (by omega) | exact bI_f (by omega)))
  · skip
    refine con_of_go mfX10_erase.1 trivial (Nat.le_of_ble_eq_true rfl) rfl (by decide) ?_
    show Go _ _ _ _ 0 [vA _, vI _, vI _, vI _, vT 9 0, vT 9 0, vT 9 0, vT 9 0, vT 9 0, vT 9 0] [] _ _
    refine go_aload_n (at_of tX10_erase 0 0 rfl) rfl ?_
    refine go_iload_n (at_of tX10_erase 0 1 rfl) rfl ?_
    refine go_cS (m_isAuthor) lk_X10_151 rfl (at_of tX10_erase 0 2 rfl) rfl (by decide) rfl (Nat.le_of_ble_eq_true rfl) rfl (by first | decide | exact ⟨Nat.zero_le _, Nat.zero_le _⟩) ?_
    refine go_if_eq (tgt := 24) (at_of tX10_erase 0 3 rfl) (by decide) (fun h5 => ?_) (fun h5 => ?_)
    rotate_left
    · exfalso; exact q1 (bI_1.mp h5)
    refine go_iconst (at_of tX10_erase 0 12 rfl) (by unfold in32; omega) ?_
    refine go_goto (tgt := 38) (at_of tX10_erase 0 13 rfl) (by decide) ?_
    refine go_cV (m_goesOn) lk_X10_141 rfl G_109 (at_of tX10_erase 1 4 rfl) rfl (by decide) rfl (Nat.le_of_ble_eq_true rfl) rfl (by first | decide | exact ⟨Nat.zero_le _, Nat.zero_le _⟩) ?_
    refine go_if_ne (tgt := 46) (at_of tX10_erase 1 5 rfl) (by decide) (fun h41 => ?_) (fun h41 => ?_)
    · exfalso; exact h41 (bI_f (by decide))
    refine go_iconst (at_of tX10_erase 1 6 rfl) (by unfold in32; omega) ?_
    first | exact go_reti (at_of tX10_erase 1 7 rfl) rfl | exact go_reti (at_of tX10_erase 1 7 rfl) (le_i (by omega)) | exact go_reti (at_of tX10_erase 1 7 rfl) (le_i (by first | exact bI_t (by omega) | exact bI_f (by omega)))
theorem m_erase_2 (hS : Str σ.2.1) {A : PastD} (hM : PastM σ A) (hW : WfB (A.1 A.2.1)) {a p z : Int} (h : (0 ≤ a ∧ a ≤ 3) ∧ (0 ≤ p ∧ p ≤ plOf (A.1 A.2.1).1.1 (A.1 A.2.1).1.2.1 (A.1 A.2.1).1.2.1) ∧ (0 ≤ z ∧ z ≤ plOf (A.1 A.2.1).1.1 (A.1 A.2.1).1.2.1 (A.1 A.2.1).1.2.1)) (h2 : z ≤ p) : Con 4 mX10_erase 0 0 [vA 109, vI a, vI p, vI z] σ (vI 0, P1 σ 109 0 2) := by
  obtain ⟨hWm, hl2, h4⟩ := id hW
  obtain ⟨hE, hSg, hMk, hRw⟩ := id hWm
  obtain ⟨e1, e2, e3, e4⟩ := id hE
  have hN := hM.2.2.2.1
  obtain ⟨b1, b2, b3, b4⟩ := id hN.2.2.2
  have hl := hN.2.1.2
  have hcc : σ.1 110 (3011 : Int).toNat = (A.1 A.2.1).2.1.1 := hN.2.1.1
  refine con_of_go mfX10_erase.1 trivial (Nat.le_of_ble_eq_true rfl) rfl (by decide) ?_
  show Go _ _ _ _ 0 [vA _, vI _, vI _, vI _, vT 9 0, vT 9 0, vT 9 0, vT 9 0, vT 9 0, vT 9 0] [] _ _
  refine go_aload_n (at_of tX10_erase 0 0 rfl) rfl ?_
  refine go_iload_n (at_of tX10_erase 0 1 rfl) rfl ?_
  refine go_cS (m_isAuthor) lk_X10_151 rfl (at_of tX10_erase 0 2 rfl) rfl (by decide) rfl (Nat.le_of_ble_eq_true rfl) rfl (by first | decide | exact ⟨Nat.zero_le _, Nat.zero_le _⟩) ?_
  refine go_if_eq (tgt := 24) (at_of tX10_erase 0 3 rfl) (by decide) (fun h5 => ?_) (fun h5 => ?_)
  · exfalso; exact bI_0.mp h5 h.1
  refine go_aload_n (at_of tX10_erase 0 4 rfl) rfl ?_
  refine go_iload_n (at_of tX10_erase 0 5 rfl) rfl ?_
  refine go_cV (m_isPlace hS hN.1 hE hSg) lk_X10_154 rfl G_109 (at_of tX10_erase 0 6 rfl) rfl (by decide) rfl (Nat.le_of_ble_eq_true rfl) rfl (by first | decide | exact ⟨Nat.zero_le _, Nat.zero_le _⟩) ?_
  refine go_if_eq (tgt := 24) (at_of tX10_erase 0 7 rfl) (by decide) (fun h13 => ?_) (fun h13 => ?_)
  · exfalso; exact bI_0.mp h13 h.2.1
  refine go_aload_n (at_of tX10_erase 0 8 rfl) rfl ?_
  refine go_iload_n (at_of tX10_erase 0 9 rfl) rfl ?_
  refine go_cV (m_isPlace hS hN.1 hE hSg) lk_X10_154 rfl G_109 (at_of tX10_erase 0 10 rfl) rfl (by decide) rfl (Nat.le_of_ble_eq_true rfl) rfl (by first | decide | exact ⟨Nat.zero_le _, Nat.zero_le _⟩) ?_
  refine go_if_ne (tgt := 28) (at_of tX10_erase 0 11 rfl) (by decide) (fun h21 => ?_) (fun h21 => ?_)
  rotate_left
  · exfalso; exact bI_0.mp h21 h.2.2
  refine go_iload_n (at_of tX10_erase 0 14 rfl) rfl ?_
  refine go_iload_n (at_of tX10_erase 0 15 rfl) rfl ?_
  refine go_icmp_gt (tgt := 37) (at_of tX10_erase 1 0 rfl) (by decide) (fun h30 => ?_) (fun h30 => ?_)
  · exfalso; omega
  refine go_iconst (at_of tX10_erase 1 1 rfl) (by unfold in32; omega) ?_
  refine go_goto (tgt := 38) (at_of tX10_erase 1 2 rfl) (by decide) ?_
  refine go_cV (m_goesOn) lk_X10_141 rfl G_109 (at_of tX10_erase 1 4 rfl) rfl (by decide) rfl (Nat.le_of_ble_eq_true rfl) rfl (by first | decide | exact ⟨Nat.zero_le _, Nat.zero_le _⟩) ?_
  refine go_if_ne (tgt := 46) (at_of tX10_erase 1 5 rfl) (by decide) (fun h41 => ?_) (fun h41 => ?_)
  · exfalso; exact h41 (bI_f (by decide))
  refine go_iconst (at_of tX10_erase 1 6 rfl) (by unfold in32; omega) ?_
  first | exact go_reti (at_of tX10_erase 1 7 rfl) rfl | exact go_reti (at_of tX10_erase 1 7 rfl) (le_i (by omega)) | exact go_reti (at_of tX10_erase 1 7 rfl) (le_i (by first | exact bI_t (by omega) | exact bI_f (by omega)))
theorem m_erase_ask (hS : Str σ.2.1) {A : PastD} (hM : PastM σ A) (hW : WfB (A.1 A.2.1)) {a p z x y w : Int} (h : (0 ≤ a ∧ a ≤ 3) ∧ (0 ≤ p ∧ p ≤ plOf (A.1 A.2.1).1.1 (A.1 A.2.1).1.2.1 (A.1 A.2.1).1.2.1) ∧ (0 ≤ z ∧ z ≤ plOf (A.1 A.2.1).1.1 (A.1 A.2.1).1.2.1 (A.1 A.2.1).1.2.1)) (h2 : p < z) (hx : x = (ixOf (A.1 A.2.1).1.1 (A.1 A.2.1).1.2.1 p)) (hy : y = (ixOf (A.1 A.2.1).1.1 (A.1 A.2.1).1.2.1 (z - 1))) (hw : w = (ixOf (A.1 A.2.1).1.1 (A.1 A.2.1).1.2.1 z)) : ∀ (b : Nat × Nat) (v6 v7 v8 v9 : MV) (out : MV × St), (∀ b v8, Go (fun _ => 0) 4 mX10_erase b 167 [vA 109, vI a, vI p, vI z, vI x, vI y, vI (bI (ndM (A.1 A.2.1) a x y = true)), vI (bI (brM (A.1 A.2.1).1 (endsA (A.1 A.2.1).1.1 (A.1 A.2.1).1.2.1 x) (endsA (A.1 A.2.1).1.1 (A.1 A.2.1).1.2.1 w) = true)), v8, v9] [] (P1 σ 109 0 0) out) → Go (fun _ => 0) 4 mX10_erase b 62 [vA 109, vI a, vI p, vI z, vI x, vI y, v6, v7, v8, v9] [] (P1 σ 109 0 0) out := by
  obtain ⟨hWm, hl2, h4⟩ := id hW
  obtain ⟨hE, hSg, hMk, hRw⟩ := id hWm
  obtain ⟨e1, e2, e3, e4⟩ := id hE
  have hN := hM.2.2.2.1
  obtain ⟨b1, b2, b3, b4⟩ := id hN.2.2.2
  have hl := hN.2.1.2
  have hcc : σ.1 110 (3011 : Int).toNat = (A.1 A.2.1).2.1.1 := hN.2.1.1
  have hSt : Str (P1 σ 109 0 0).2.1 := hS
  have hNt : RepN (cN (P1 σ 109 0 0)) (A.1 A.2.1) := by rw [cN_P1]; exact hN
  obtain ⟨x1, x2, x3, x4⟩ := place_ix hE h.2.1.1 h.2.1.2
  obtain ⟨y1, y2, y3, y4⟩ := place_ix hE (p := z - 1) (by omega) (by omega)
  obtain ⟨z1, z2, z3, z4⟩ := place_ix hE h.2.2.1 h.2.2.2
  rw [← hx] at x1 x2 x3 x4
  rw [← hy] at y1 y2 y3 y4
  rw [← hw] at z1 z2 z3 z4
  have mp := m_paragraphAt hSt hNt hWm h.2.1.1 h.2.1.2
  have mz := m_paragraphAt hSt hNt hWm h.2.2.1 h.2.2.2
  rw [← hx] at mp
  rw [← hw] at mz
  have ea := endsA_le (F := (A.1 A.2.1).1.1) (n := (A.1 A.2.1).1.2.1) (i := x)
  have eb := endsA_le (F := (A.1 A.2.1).1.1) (n := (A.1 A.2.1).1.2.1) (i := w)
  have ea2 := ea.2 e1
  have eb2 := eb.2 e1
  have exw : (endsA (A.1 A.2.1).1.1 (A.1 A.2.1).1.2.1 w) ≤ endsA (A.1 A.2.1).1.1 (A.1 A.2.1).1.2.1 (A.1 A.2.1).1.2.1 := by rw [endsA_N z2, endsA_N (Int.le_refl _)]; exact enN_le z2
  intro b v6 v7 v8 v9 out K
  -- paragraphs
  have loopB : ∀ (br0 : Bool), br0 = brM (A.1 A.2.1).1 (endsA (A.1 A.2.1).1.1 (A.1 A.2.1).1.2.1 x) (endsA (A.1 A.2.1).1.1 (A.1 A.2.1).1.2.1 w) → ∀ (m : Nat) (b : Nat × Nat) (q : Int) (done : Bool), (endsA (A.1 A.2.1).1.1 (A.1 A.2.1).1.2.1 x) ≤ q → q + m = max q ((endsA (A.1 A.2.1).1.1 (A.1 A.2.1).1.2.1 w) + 1) → q ≤ (endsA (A.1 A.2.1).1.1 (A.1 A.2.1).1.2.1 w) + 1 ∨ m = 0 → (done || anyF (fun q => decide ((A.1 A.2.1).1.1 10 (ixEnd (A.1 A.2.1).1.1 (A.1 A.2.1).1.2.1 q) = 1)) m q) = br0 → Go (fun _ => 0) 4 mX10_erase b 123 [vA 109, vI a, vI p, vI z, vI x, vI y, vI (bI (ndM (A.1 A.2.1) a x y = true)), vI (bI (done = true)), vI q, v9] [] (P1 σ 109 0 0) out := by
    intro br0 hbr0 m
    induction m with
    | zero =>
      intro b q done h0 h1 h1' hd
      have hd : done = br0 := by rw [← hd]; show done = (done || false); rw [Bool.or_false]
      rw [hd, hbr0]
      refine go_iload (at_of tX10_erase 4 0 rfl) rfl rfl ?_
      refine go_aload_n (at_of tX10_erase 4 1 rfl) rfl ?_
      refine go_iload_n (at_of tX10_erase 4 2 rfl) rfl ?_
      refine go_cV (mz) lk_X10_194 rfl G_109 (at_of tX10_erase 4 3 rfl) rfl (by decide) rfl (Nat.le_of_ble_eq_true rfl) rfl (by first | decide | exact ⟨Nat.zero_le _, Nat.zero_le _⟩) ?_
      refine go_icmp_gt (tgt := 167) (at_of tX10_erase 4 4 rfl) (by decide) (fun h130 => ?_) (fun h130 => ?_)
      rotate_left
      · exfalso; omega
      exact K _ _
    | succ m ih =>
      intro b q done h0 h1 h1' hd
      rw [anyF_s] at hd
      cases done with
      | true =>
        refine go_iload (at_of tX10_erase 4 0 rfl) rfl rfl ?_
        refine go_aload_n (at_of tX10_erase 4 1 rfl) rfl ?_
        refine go_iload_n (at_of tX10_erase 4 2 rfl) rfl ?_
        refine go_cV (mz) lk_X10_194 rfl G_109 (at_of tX10_erase 4 3 rfl) rfl (by decide) rfl (Nat.le_of_ble_eq_true rfl) rfl (by first | decide | exact ⟨Nat.zero_le _, Nat.zero_le _⟩) ?_
        refine go_icmp_gt (tgt := 167) (at_of tX10_erase 4 4 rfl) (by decide) (fun h130 => ?_) (fun h130 => ?_)
        · exfalso; omega
        refine go_iload (at_of tX10_erase 4 5 rfl) rfl rfl ?_
        refine go_if_ne (tgt := 154) (at_of tX10_erase 4 6 rfl) (by decide) (fun h135 => ?_) (fun h135 => ?_)
        rotate_left
        · exfalso; exact absurd h135 (by decide)
        refine go_iconst (at_of tX10_erase 4 15 rfl) (by unfold in32; omega) ?_
        refine go_goto (tgt := 159) (at_of tX10_erase 5 0 rfl) (by decide) ?_
        refine go_istore (at_of tX10_erase 5 2 rfl) rfl rfl ?_
        refine go_iinc (at_of tX10_erase 5 3 rfl) rfl (by unfold in32; omega) rfl rfl ?_
        refine go_goto (tgt := 123) (at_of tX10_erase 5 4 rfl) (by decide) ?_
        exact ih _ _ true (by omega) (by omega) (by omega) (by rw [Bool.true_or]; rw [Bool.true_or] at hd; exact hd)
      | false =>
        have me := m_endOfParagraph hSt hNt.1 hE hSg (p := q) (by omega) (by omega)
        obtain ⟨g1, g2, g3, g47⟩ := ixEnd_end e1 ((ixEnd_iff hE (p := q)).mpr ⟨by omega, by omega⟩)
        have m7 := m_at7 hSt hNt.1 (u := ixEnd (A.1 A.2.1).1.1 (A.1 A.2.1).1.2.1 q) ⟨g1, g2, b2⟩ g47
        by_cases hg : (A.1 A.2.1).1.1 10 (ixEnd (A.1 A.2.1).1.1 (A.1 A.2.1).1.2.1 q) = 1
        · rw [decide_eq_true hg] at hd
          refine go_iload (at_of tX10_erase 4 0 rfl) rfl rfl ?_
          refine go_aload_n (at_of tX10_erase 4 1 rfl) rfl ?_
          refine go_iload_n (at_of tX10_erase 4 2 rfl) rfl ?_
          refine go_cV (mz) lk_X10_194 rfl G_109 (at_of tX10_erase 4 3 rfl) rfl (by decide) rfl (Nat.le_of_ble_eq_true rfl) rfl (by first | decide | exact ⟨Nat.zero_le _, Nat.zero_le _⟩) ?_
          refine go_icmp_gt (tgt := 167) (at_of tX10_erase 4 4 rfl) (by decide) (fun h130 => ?_) (fun h130 => ?_)
          · exfalso; omega
          refine go_iload (at_of tX10_erase 4 5 rfl) rfl rfl ?_
          refine go_if_ne (tgt := 154) (at_of tX10_erase 4 6 rfl) (by decide) (fun h135 => ?_) (fun h135 => ?_)
          · exfalso; exact h135 rfl
          refine go_aload_n (at_of tX10_erase 4 7 rfl) rfl ?_
          refine go_aload_n (at_of tX10_erase 4 8 rfl) rfl ?_
          refine go_iload (at_of tX10_erase 4 9 rfl) rfl rfl ?_
          refine go_cV (me) lk_X10_197 rfl G_109 (at_of tX10_erase 4 10 rfl) rfl (by decide) rfl (Nat.le_of_ble_eq_true rfl) rfl (by first | decide | exact ⟨Nat.zero_le _, Nat.zero_le _⟩) ?_
          refine go_bipush (at_of tX10_erase 4 11 rfl) (by decide) ?_
          refine go_cV (m7) lk_X10_106 rfl G_109 (at_of tX10_erase 4 12 rfl) rfl (by decide) rfl (Nat.le_of_ble_eq_true rfl) rfl (by first | decide | exact ⟨Nat.zero_le _, Nat.zero_le _⟩) ?_
          refine go_iconst (at_of tX10_erase 4 13 rfl) (by unfold in32; omega) ?_
          refine go_icmp_ne (tgt := 158) (at_of tX10_erase 4 14 rfl) (by decide) (fun h151 => ?_) (fun h151 => ?_)
          · exfalso; omega
          refine go_iconst (at_of tX10_erase 4 15 rfl) (by unfold in32; omega) ?_
          refine go_goto (tgt := 159) (at_of tX10_erase 5 0 rfl) (by decide) ?_
          refine go_istore (at_of tX10_erase 5 2 rfl) rfl rfl ?_
          refine go_iinc (at_of tX10_erase 5 3 rfl) rfl (by unfold in32; omega) rfl rfl ?_
          refine go_goto (tgt := 123) (at_of tX10_erase 5 4 rfl) (by decide) ?_
          exact ih _ _ true (by omega) (by omega) (by omega) (by rw [Bool.true_or]; rw [Bool.true_or, Bool.false_or] at hd; exact hd)
        · rw [decide_eq_false hg] at hd
          refine go_iload (at_of tX10_erase 4 0 rfl) rfl rfl ?_
          refine go_aload_n (at_of tX10_erase 4 1 rfl) rfl ?_
          refine go_iload_n (at_of tX10_erase 4 2 rfl) rfl ?_
          refine go_cV (mz) lk_X10_194 rfl G_109 (at_of tX10_erase 4 3 rfl) rfl (by decide) rfl (Nat.le_of_ble_eq_true rfl) rfl (by first | decide | exact ⟨Nat.zero_le _, Nat.zero_le _⟩) ?_
          refine go_icmp_gt (tgt := 167) (at_of tX10_erase 4 4 rfl) (by decide) (fun h130 => ?_) (fun h130 => ?_)
          · exfalso; omega
          refine go_iload (at_of tX10_erase 4 5 rfl) rfl rfl ?_
          refine go_if_ne (tgt := 154) (at_of tX10_erase 4 6 rfl) (by decide) (fun h135 => ?_) (fun h135 => ?_)
          · exfalso; exact h135 rfl
          refine go_aload_n (at_of tX10_erase 4 7 rfl) rfl ?_
          refine go_aload_n (at_of tX10_erase 4 8 rfl) rfl ?_
          refine go_iload (at_of tX10_erase 4 9 rfl) rfl rfl ?_
          refine go_cV (me) lk_X10_197 rfl G_109 (at_of tX10_erase 4 10 rfl) rfl (by decide) rfl (Nat.le_of_ble_eq_true rfl) rfl (by first | decide | exact ⟨Nat.zero_le _, Nat.zero_le _⟩) ?_
          refine go_bipush (at_of tX10_erase 4 11 rfl) (by decide) ?_
          refine go_cV (m7) lk_X10_106 rfl G_109 (at_of tX10_erase 4 12 rfl) rfl (by decide) rfl (Nat.le_of_ble_eq_true rfl) rfl (by first | decide | exact ⟨Nat.zero_le _, Nat.zero_le _⟩) ?_
          refine go_iconst (at_of tX10_erase 4 13 rfl) (by unfold in32; omega) ?_
          refine go_icmp_ne (tgt := 158) (at_of tX10_erase 4 14 rfl) (by decide) (fun h151 => ?_) (fun h151 => ?_)
          rotate_left
          · exfalso; omega
          refine go_iconst (at_of tX10_erase 5 1 rfl) (by unfold in32; omega) ?_
          refine go_istore (at_of tX10_erase 5 2 rfl) rfl rfl ?_
          refine go_iinc (at_of tX10_erase 5 3 rfl) rfl (by unfold in32; omega) rfl rfl ?_
          refine go_goto (tgt := 123) (at_of tX10_erase 5 4 rfl) (by decide) ?_
          exact ih _ _ false (by omega) (by omega) (by omega) (by rw [Bool.false_or] at hd; exact hd)
  have loopA : ∀ (m : Nat) (b : Nat × Nat) (u : Int) (done : Bool), x ≤ u → u + m = max u (y + 1) → u ≤ y + 1 ∨ m = 0 → (done || anyF (othD (A.1 A.2.1) a) m u) = ndM (A.1 A.2.1) a x y → Go (fun _ => 0) 4 mX10_erase b 72 [vA 109, vI a, vI p, vI z, vI x, vI y, vI (bI (done = true)), vI 0, vI u, v9] [] (P1 σ 109 0 0) out := by
    intro m
    induction m with
    | zero =>
      intro b u done h0 h1 h1' hd
      have hd : done = ndM (A.1 A.2.1) a x y := by rw [← hd]; show done = (done || false); rw [Bool.or_false]
      rw [hd]
      refine go_iload (at_of tX10_erase 2 8 rfl) rfl rfl ?_
      refine go_iload (at_of tX10_erase 2 9 rfl) rfl rfl ?_
      refine go_icmp_gt (tgt := 116) (at_of tX10_erase 2 10 rfl) (by decide) (fun h76 => ?_) (fun h76 => ?_)
      rotate_left
      · exfalso; omega
      refine go_aload_n (at_of tX10_erase 3 12 rfl) rfl ?_
      refine go_iload_n (at_of tX10_erase 3 13 rfl) rfl ?_
      refine go_cV (mp) lk_X10_194 rfl G_109 (at_of tX10_erase 3 14 rfl) rfl (by decide) rfl (Nat.le_of_ble_eq_true rfl) rfl (by first | decide | exact ⟨Nat.zero_le _, Nat.zero_le _⟩) ?_
      refine go_istore (at_of tX10_erase 3 15 rfl) rfl rfl ?_
      exact loopB _ rfl ((endsA (A.1 A.2.1).1.1 (A.1 A.2.1).1.2.1 w) + 1 - (endsA (A.1 A.2.1).1.1 (A.1 A.2.1).1.2.1 x)).toNat _ _ false (Int.le_refl _) (by omega) (by omega) (by rw [Bool.false_or]; rfl)
    | succ m ih =>
      intro b u done h0 h1 h1' hd
      rw [anyF_s] at hd
      cases done with
      | true =>
        refine go_iload (at_of tX10_erase 2 8 rfl) rfl rfl ?_
        refine go_iload (at_of tX10_erase 2 9 rfl) rfl rfl ?_
        refine go_icmp_gt (tgt := 116) (at_of tX10_erase 2 10 rfl) (by decide) (fun h76 => ?_) (fun h76 => ?_)
        · exfalso; omega
        refine go_iload (at_of tX10_erase 2 11 rfl) rfl rfl ?_
        refine go_if_ne (tgt := 103) (at_of tX10_erase 2 12 rfl) (by decide) (fun h81 => ?_) (fun h81 => ?_)
        rotate_left
        · exfalso; exact absurd h81 (by decide)
        refine go_iconst (at_of tX10_erase 3 6 rfl) (by unfold in32; omega) ?_
        refine go_goto (tgt := 108) (at_of tX10_erase 3 7 rfl) (by decide) ?_
        refine go_istore (at_of tX10_erase 3 9 rfl) rfl rfl ?_
        refine go_iinc (at_of tX10_erase 3 10 rfl) rfl (by unfold in32; omega) rfl rfl ?_
        refine go_goto (tgt := 72) (at_of tX10_erase 3 11 rfl) (by decide) ?_
        exact ih _ _ true (by omega) (by omega) (by omega) (by rw [Bool.true_or]; rw [Bool.true_or] at hd; exact hd)
      | false =>
        have ms := m_isSeen hSt hNt.1 (u := u) ⟨by omega, by omega, b2⟩
        have mo := m_isOwn2 hSt hNt (u := u) (a := a) ⟨by omega, by omega⟩ (hMk u (by omega) (by omega))
        have so : othD (A.1 A.2.1) a u = true ↔ (A.1 A.2.1).1.1 3 u = -1 ∧ ¬ waitsD (A.1 A.2.1).2.1 ((A.1 A.2.1).1.1 2 u) a = true := by
          unfold othD
          rw [Bool.and_eq_true, seen_iff (by omega) (by omega), Bool.not_eq_true', Bool.not_eq_true]
        by_cases hs : (A.1 A.2.1).1.1 3 u = -1
        · by_cases ho : waitsD (A.1 A.2.1).2.1 ((A.1 A.2.1).1.1 2 u) a = true
          · rw [show othD (A.1 A.2.1) a u = false from Bool.eq_false_iff.mpr (fun q => (so.mp q).2 ho)] at hd
            refine go_iload (at_of tX10_erase 2 8 rfl) rfl rfl ?_
            refine go_iload (at_of tX10_erase 2 9 rfl) rfl rfl ?_
            refine go_icmp_gt (tgt := 116) (at_of tX10_erase 2 10 rfl) (by decide) (fun h76 => ?_) (fun h76 => ?_)
            · exfalso; omega
            refine go_iload (at_of tX10_erase 2 11 rfl) rfl rfl ?_
            refine go_if_ne (tgt := 103) (at_of tX10_erase 2 12 rfl) (by decide) (fun h81 => ?_) (fun h81 => ?_)
            · exfalso; exact h81 rfl
            refine go_aload_n (at_of tX10_erase 2 13 rfl) rfl ?_
            refine go_iload (at_of tX10_erase 2 14 rfl) rfl rfl ?_
            refine go_cV (ms) lk_X10_114 rfl G_109 (at_of tX10_erase 2 15 rfl) rfl (by decide) rfl (Nat.le_of_ble_eq_true rfl) rfl (by first | decide | exact ⟨Nat.zero_le _, Nat.zero_le _⟩) ?_
            refine go_if_eq (tgt := 107) (at_of tX10_erase 3 0 rfl) (by decide) (fun h90 => ?_) (fun h90 => ?_)
            · exfalso; exact bI_0.mp h90 hs
            refine go_aload_n (at_of tX10_erase 3 1 rfl) rfl ?_
            refine go_iload (at_of tX10_erase 3 2 rfl) rfl rfl ?_
            refine go_iload_n (at_of tX10_erase 3 3 rfl) rfl ?_
            refine go_cV (mo) lk_X10_190 rfl G_109 (at_of tX10_erase 3 4 rfl) rfl (by decide) rfl (Nat.le_of_ble_eq_true rfl) rfl (by first | decide | exact ⟨Nat.zero_le _, Nat.zero_le _⟩) ?_
            refine go_if_ne (tgt := 107) (at_of tX10_erase 3 5 rfl) (by decide) (fun h100 => ?_) (fun h100 => ?_)
            rotate_left
            · exfalso; exact bI_0.mp h100 ho
            refine go_iconst (at_of tX10_erase 3 8 rfl) (by unfold in32; omega) ?_
            refine go_istore (at_of tX10_erase 3 9 rfl) rfl rfl ?_
            refine go_iinc (at_of tX10_erase 3 10 rfl) rfl (by unfold in32; omega) rfl rfl ?_
            refine go_goto (tgt := 72) (at_of tX10_erase 3 11 rfl) (by decide) ?_
            exact ih _ _ false (by omega) (by omega) (by omega) (by rw [Bool.false_or] at hd; exact hd)
          · rw [so.mpr ⟨hs, ho⟩] at hd
            refine go_iload (at_of tX10_erase 2 8 rfl) rfl rfl ?_
            refine go_iload (at_of tX10_erase 2 9 rfl) rfl rfl ?_
            refine go_icmp_gt (tgt := 116) (at_of tX10_erase 2 10 rfl) (by decide) (fun h76 => ?_) (fun h76 => ?_)
            · exfalso; omega
            refine go_iload (at_of tX10_erase 2 11 rfl) rfl rfl ?_
            refine go_if_ne (tgt := 103) (at_of tX10_erase 2 12 rfl) (by decide) (fun h81 => ?_) (fun h81 => ?_)
            · exfalso; exact h81 rfl
            refine go_aload_n (at_of tX10_erase 2 13 rfl) rfl ?_
            refine go_iload (at_of tX10_erase 2 14 rfl) rfl rfl ?_
            refine go_cV (ms) lk_X10_114 rfl G_109 (at_of tX10_erase 2 15 rfl) rfl (by decide) rfl (Nat.le_of_ble_eq_true rfl) rfl (by first | decide | exact ⟨Nat.zero_le _, Nat.zero_le _⟩) ?_
            refine go_if_eq (tgt := 107) (at_of tX10_erase 3 0 rfl) (by decide) (fun h90 => ?_) (fun h90 => ?_)
            · exfalso; exact bI_0.mp h90 hs
            refine go_aload_n (at_of tX10_erase 3 1 rfl) rfl ?_
            refine go_iload (at_of tX10_erase 3 2 rfl) rfl rfl ?_
            refine go_iload_n (at_of tX10_erase 3 3 rfl) rfl ?_
            refine go_cV (mo) lk_X10_190 rfl G_109 (at_of tX10_erase 3 4 rfl) rfl (by decide) rfl (Nat.le_of_ble_eq_true rfl) rfl (by first | decide | exact ⟨Nat.zero_le _, Nat.zero_le _⟩) ?_
            refine go_if_ne (tgt := 107) (at_of tX10_erase 3 5 rfl) (by decide) (fun h100 => ?_) (fun h100 => ?_)
            · exfalso; exact ho (bI_1.mp h100)
            refine go_iconst (at_of tX10_erase 3 6 rfl) (by unfold in32; omega) ?_
            refine go_goto (tgt := 108) (at_of tX10_erase 3 7 rfl) (by decide) ?_
            refine go_istore (at_of tX10_erase 3 9 rfl) rfl rfl ?_
            refine go_iinc (at_of tX10_erase 3 10 rfl) rfl (by unfold in32; omega) rfl rfl ?_
            refine go_goto (tgt := 72) (at_of tX10_erase 3 11 rfl) (by decide) ?_
            exact ih _ _ true (by omega) (by omega) (by omega) (by rw [Bool.true_or]; rw [Bool.true_or, Bool.false_or] at hd; exact hd)
        · rw [show othD (A.1 A.2.1) a u = false from Bool.eq_false_iff.mpr (fun q => hs (so.mp q).1)] at hd
          refine go_iload (at_of tX10_erase 2 8 rfl) rfl rfl ?_
          refine go_iload (at_of tX10_erase 2 9 rfl) rfl rfl ?_
          refine go_icmp_gt (tgt := 116) (at_of tX10_erase 2 10 rfl) (by decide) (fun h76 => ?_) (fun h76 => ?_)
          · exfalso; omega
          refine go_iload (at_of tX10_erase 2 11 rfl) rfl rfl ?_
          refine go_if_ne (tgt := 103) (at_of tX10_erase 2 12 rfl) (by decide) (fun h81 => ?_) (fun h81 => ?_)
          · exfalso; exact h81 rfl
          refine go_aload_n (at_of tX10_erase 2 13 rfl) rfl ?_
          refine go_iload (at_of tX10_erase 2 14 rfl) rfl rfl ?_
          refine go_cV (ms) lk_X10_114 rfl G_109 (at_of tX10_erase 2 15 rfl) rfl (by decide) rfl (Nat.le_of_ble_eq_true rfl) rfl (by first | decide | exact ⟨Nat.zero_le _, Nat.zero_le _⟩) ?_
          refine go_if_eq (tgt := 107) (at_of tX10_erase 3 0 rfl) (by decide) (fun h90 => ?_) (fun h90 => ?_)
          rotate_left
          · exfalso; exact hs (bI_1.mp h90)
          refine go_iconst (at_of tX10_erase 3 8 rfl) (by unfold in32; omega) ?_
          refine go_istore (at_of tX10_erase 3 9 rfl) rfl rfl ?_
          refine go_iinc (at_of tX10_erase 3 10 rfl) rfl (by unfold in32; omega) rfl rfl ?_
          refine go_goto (tgt := 72) (at_of tX10_erase 3 11 rfl) (by decide) ?_
          exact ih _ _ false (by omega) (by omega) (by omega) (by rw [Bool.false_or] at hd; exact hd)
  refine go_iconst (at_of tX10_erase 2 2 rfl) (by unfold in32; omega) ?_
  refine go_istore (at_of tX10_erase 2 3 rfl) rfl rfl ?_
  refine go_iconst (at_of tX10_erase 2 4 rfl) (by unfold in32; omega) ?_
  refine go_istore (at_of tX10_erase 2 5 rfl) rfl rfl ?_
  refine go_iload (at_of tX10_erase 2 6 rfl) rfl rfl ?_
  refine go_istore (at_of tX10_erase 2 7 rfl) rfl rfl ?_
  exact loopA (y + 1 - x).toNat _ x false (Int.le_refl _) (by omega) (by omega) (by rw [Bool.false_or]; rfl)
end Mod12
