/-! The reference: writing. -/
section Mod6
variable {σ : St}
def WfM (D : PapD) : Prop := LastE D.1 ∧ SgW D.1 ∧ MkB D.1 D.2.1 ∧ RowW D.1
theorem m_writes_tail (hS : Str σ.2.1) {R : RowD} {L : LogD} {Q : Int → Int} (hN : RepN (cN σ) (R, L, Q)) (hW : WfM (R, L, Q)) {a p u ch kd l fd : Int} (hu : 0 ≤ u ∧ u ≤ R.2.1 ∧ R.2.1 < 200) (hk : kd = if fd = -1 then l else 1000 + fd) (hl : fd ≠ -1 → l ≠ 47) (hf : -1 ≤ fd) :
    ∃ σ', RepN (cN σ') (putR R u l fd ch, L, Q) ∧ FrN σ σ' ∧ ∀ (b : Nat × Nat) (v6 : MV), Go (fun _ => 0) 3 mX10_writes b 53 [vA 109, vI a, vI p, vI kd, vI u, vI ch, v6] [] σ (vI ch, σ') := by
  obtain ⟨hE, hSg, hMk, hRw⟩ := hW
  have hE : LastE R := hE
  have hSg : SgW R := hSg
  have hRw : RowW R := hRw
  obtain ⟨e1, e2, e3, e4⟩ := id hE
  have hN1 : RepNr (cN σ) R := hN.1
  obtain ⟨v1', v2, v3, v4⟩ := endFr_end hE hu.1 hu.2.1
  have v1 : 0 ≤ (endFr R.1 R.2.1 u) := by omega
  have me := m_endOf hS hN1 hE hSg (u := u) ⟨hu.1, hu.2.1⟩
  obtain ⟨σ3, o1, o2, o3, o4, o5, o5b, o6, o7⟩ := m_opens hS hN1 (hN1.bm hRw) hu
  have hS3 := o2.str hS
  have k47 : kd = 47 ↔ l = 47 := by
    rw [hk]
    by_cases h : fd = -1
    · rw [if_pos h]
    · rw [if_neg h]
      have := hl h
      omega
  have hbd : 0 ≤ (putR R u l fd ch).2.1 ∧ (putR R u l fd ch).2.1 ≤ 200 := by
    have z : (putR R u l fd ch).2.1 = R.2.1 + 1 := rfl
    rw [z]; omega
  by_cases h47 : l = 47
  · have hS3 := o2.str hS
    have at3 : Con 0 mX10_at 0 0 [vA 109, vI ((endFr R.1 R.2.1 u) + 1), vI 3] (M1 (M1 σ3 110 (10 * u + 0) kd) 110 (10 * u + 1) ch) (vI (R.1 5 (endFr R.1 R.2.1 u)), (M1 (M1 σ3 110 (10 * u + 0) kd) 110 (10 * u + 1) ch)) := by
      have z := m_at (σ := (M1 (M1 σ3 110 (10 * u + 0) kd) 110 (10 * u + 1) ch)) hS3 (u := (endFr R.1 R.2.1 u) + 1) (p := 3) (by omega)
      have y : cN (M1 (M1 σ3 110 (10 * u + 0) kd) 110 (10 * u + 1) ch) (10 * ((endFr R.1 R.2.1 u) + 1) + 3) = R.1 5 (endFr R.1 R.2.1 u) := by
        rw [cN_M1 (by omega) (by omega), if_neg (by omega), cN_M1 (by omega) (by omega), if_neg (by omega), o6 ((endFr R.1 R.2.1 u) + 1) 3 (by omega) (by omega) (by omega) (by omega), show (endFr R.1 R.2.1 u) + 1 - 1 = (endFr R.1 R.2.1 u) by omega]
        exact (hN.1.2.2.1 (endFr R.1 R.2.1 u) v1 v2 v4).1
      have y : (M1 (M1 σ3 110 (10 * u + 0) kd) 110 (10 * u + 1) ch).1 110 (10 * ((endFr R.1 R.2.1 u) + 1) + 3).toNat = R.1 5 (endFr R.1 R.2.1 u) := y
      rw [y] at z
      exact z
    have at4 : Con 0 mX10_at 0 0 [vA 109, vI ((endFr R.1 R.2.1 u) + 1), vI 4] (M1 (M1 (M1 σ3 110 (10 * u + 0) kd) 110 (10 * u + 1) ch) 110 (10 * u + 3) (R.1 5 (endFr R.1 R.2.1 u))) (vI (R.1 7 (endFr R.1 R.2.1 u)), (M1 (M1 (M1 σ3 110 (10 * u + 0) kd) 110 (10 * u + 1) ch) 110 (10 * u + 3) (R.1 5 (endFr R.1 R.2.1 u)))) := by
      have z := m_at (σ := (M1 (M1 (M1 σ3 110 (10 * u + 0) kd) 110 (10 * u + 1) ch) 110 (10 * u + 3) (R.1 5 (endFr R.1 R.2.1 u)))) hS3 (u := (endFr R.1 R.2.1 u) + 1) (p := 4) (by omega)
      have y : cN (M1 (M1 (M1 σ3 110 (10 * u + 0) kd) 110 (10 * u + 1) ch) 110 (10 * u + 3) (R.1 5 (endFr R.1 R.2.1 u))) (10 * ((endFr R.1 R.2.1 u) + 1) + 4) = R.1 7 (endFr R.1 R.2.1 u) := by
        rw [cN_M1 (by omega) (by omega), if_neg (by omega), cN_M1 (by omega) (by omega), if_neg (by omega), cN_M1 (by omega) (by omega), if_neg (by omega), o6 ((endFr R.1 R.2.1 u) + 1) 4 (by omega) (by omega) (by omega) (by omega), show (endFr R.1 R.2.1 u) + 1 - 1 = (endFr R.1 R.2.1 u) by omega]
        exact (hN.1.2.2.1 (endFr R.1 R.2.1 u) v1 v2 v4).2.1
      have y : (M1 (M1 (M1 σ3 110 (10 * u + 0) kd) 110 (10 * u + 1) ch) 110 (10 * u + 3) (R.1 5 (endFr R.1 R.2.1 u))).1 110 (10 * ((endFr R.1 R.2.1 u) + 1) + 4).toNat = R.1 7 (endFr R.1 R.2.1 u) := y
      rw [y] at z
      exact z
    have at5 : Con 0 mX10_at 0 0 [vA 109, vI ((endFr R.1 R.2.1 u) + 1), vI 5] (M1 (M1 (M1 (M1 σ3 110 (10 * u + 0) kd) 110 (10 * u + 1) ch) 110 (10 * u + 3) (R.1 5 (endFr R.1 R.2.1 u))) 110 (10 * u + 4) (R.1 7 (endFr R.1 R.2.1 u))) (vI (R.1 8 (endFr R.1 R.2.1 u)), (M1 (M1 (M1 (M1 σ3 110 (10 * u + 0) kd) 110 (10 * u + 1) ch) 110 (10 * u + 3) (R.1 5 (endFr R.1 R.2.1 u))) 110 (10 * u + 4) (R.1 7 (endFr R.1 R.2.1 u)))) := by
      have z := m_at (σ := (M1 (M1 (M1 (M1 σ3 110 (10 * u + 0) kd) 110 (10 * u + 1) ch) 110 (10 * u + 3) (R.1 5 (endFr R.1 R.2.1 u))) 110 (10 * u + 4) (R.1 7 (endFr R.1 R.2.1 u)))) hS3 (u := (endFr R.1 R.2.1 u) + 1) (p := 5) (by omega)
      have y : cN (M1 (M1 (M1 (M1 σ3 110 (10 * u + 0) kd) 110 (10 * u + 1) ch) 110 (10 * u + 3) (R.1 5 (endFr R.1 R.2.1 u))) 110 (10 * u + 4) (R.1 7 (endFr R.1 R.2.1 u))) (10 * ((endFr R.1 R.2.1 u) + 1) + 5) = R.1 8 (endFr R.1 R.2.1 u) := by
        rw [cN_M1 (by omega) (by omega), if_neg (by omega), cN_M1 (by omega) (by omega), if_neg (by omega), cN_M1 (by omega) (by omega), if_neg (by omega), cN_M1 (by omega) (by omega), if_neg (by omega), o6 ((endFr R.1 R.2.1 u) + 1) 5 (by omega) (by omega) (by omega) (by omega), show (endFr R.1 R.2.1 u) + 1 - 1 = (endFr R.1 R.2.1 u) by omega]
        exact (hN.1.2.2.1 (endFr R.1 R.2.1 u) v1 v2 v4).2.2.1
      have y : (M1 (M1 (M1 (M1 σ3 110 (10 * u + 0) kd) 110 (10 * u + 1) ch) 110 (10 * u + 3) (R.1 5 (endFr R.1 R.2.1 u))) 110 (10 * u + 4) (R.1 7 (endFr R.1 R.2.1 u))).1 110 (10 * ((endFr R.1 R.2.1 u) + 1) + 5).toNat = R.1 8 (endFr R.1 R.2.1 u) := y
      rw [y] at z
      exact z
    have at7 : Con 0 mX10_at 0 0 [vA 109, vI ((endFr R.1 R.2.1 u) + 1), vI 7] (M1 (M1 (M1 (M1 (M1 σ3 110 (10 * u + 0) kd) 110 (10 * u + 1) ch) 110 (10 * u + 3) (R.1 5 (endFr R.1 R.2.1 u))) 110 (10 * u + 4) (R.1 7 (endFr R.1 R.2.1 u))) 110 (10 * u + 5) (R.1 8 (endFr R.1 R.2.1 u))) (vI (R.1 10 (endFr R.1 R.2.1 u)), (M1 (M1 (M1 (M1 (M1 σ3 110 (10 * u + 0) kd) 110 (10 * u + 1) ch) 110 (10 * u + 3) (R.1 5 (endFr R.1 R.2.1 u))) 110 (10 * u + 4) (R.1 7 (endFr R.1 R.2.1 u))) 110 (10 * u + 5) (R.1 8 (endFr R.1 R.2.1 u)))) := by
      have z := m_at (σ := (M1 (M1 (M1 (M1 (M1 σ3 110 (10 * u + 0) kd) 110 (10 * u + 1) ch) 110 (10 * u + 3) (R.1 5 (endFr R.1 R.2.1 u))) 110 (10 * u + 4) (R.1 7 (endFr R.1 R.2.1 u))) 110 (10 * u + 5) (R.1 8 (endFr R.1 R.2.1 u)))) hS3 (u := (endFr R.1 R.2.1 u) + 1) (p := 7) (by omega)
      have y : cN (M1 (M1 (M1 (M1 (M1 σ3 110 (10 * u + 0) kd) 110 (10 * u + 1) ch) 110 (10 * u + 3) (R.1 5 (endFr R.1 R.2.1 u))) 110 (10 * u + 4) (R.1 7 (endFr R.1 R.2.1 u))) 110 (10 * u + 5) (R.1 8 (endFr R.1 R.2.1 u))) (10 * ((endFr R.1 R.2.1 u) + 1) + 7) = R.1 10 (endFr R.1 R.2.1 u) := by
        rw [cN_M1 (by omega) (by omega), if_neg (by omega), cN_M1 (by omega) (by omega), if_neg (by omega), cN_M1 (by omega) (by omega), if_neg (by omega), cN_M1 (by omega) (by omega), if_neg (by omega), cN_M1 (by omega) (by omega), if_neg (by omega), o6 ((endFr R.1 R.2.1 u) + 1) 7 (by omega) (by omega) (by omega) (by omega), show (endFr R.1 R.2.1 u) + 1 - 1 = (endFr R.1 R.2.1 u) by omega]
        exact (hN.1.2.2.1 (endFr R.1 R.2.1 u) v1 v2 v4).2.2.2.2.1
      have y : (M1 (M1 (M1 (M1 (M1 σ3 110 (10 * u + 0) kd) 110 (10 * u + 1) ch) 110 (10 * u + 3) (R.1 5 (endFr R.1 R.2.1 u))) 110 (10 * u + 4) (R.1 7 (endFr R.1 R.2.1 u))) 110 (10 * u + 5) (R.1 8 (endFr R.1 R.2.1 u))).1 110 (10 * ((endFr R.1 R.2.1 u) + 1) + 7).toNat = R.1 10 (endFr R.1 R.2.1 u) := y
      rw [y] at z
      exact z
    have cm : ∀ x, 0 ≤ x → cN (M1 (M1 (M1 (M1 (M1 (M1 σ3 110 (10 * u + 0) kd) 110 (10 * u + 1) ch) 110 (10 * u + 3) (R.1 5 (endFr R.1 R.2.1 u))) 110 (10 * u + 4) (R.1 7 (endFr R.1 R.2.1 u))) 110 (10 * u + 5) (R.1 8 (endFr R.1 R.2.1 u))) 110 (10 * u + 7) (R.1 10 (endFr R.1 R.2.1 u))) x = if x = 10 * u + 7 then R.1 10 (endFr R.1 R.2.1 u) else if x = 10 * u + 5 then R.1 8 (endFr R.1 R.2.1 u) else if x = 10 * u + 4 then R.1 7 (endFr R.1 R.2.1 u) else if x = 10 * u + 3 then R.1 5 (endFr R.1 R.2.1 u) else if x = 10 * u + 1 then ch else if x = 10 * u + 0 then kd else cN σ3 x := fun x hx => by
      rw [cN_M1 (by omega) hx, cN_M1 (by omega) hx, cN_M1 (by omega) hx, cN_M1 (by omega) hx, cN_M1 (by omega) hx, cN_M1 (by omega) hx]
    have co : ∀ x, 0 ≤ x → x < 10 * u ∨ 10 * u + 10 ≤ x → cN (M1 (M1 (M1 (M1 (M1 (M1 σ3 110 (10 * u + 0) kd) 110 (10 * u + 1) ch) 110 (10 * u + 3) (R.1 5 (endFr R.1 R.2.1 u))) 110 (10 * u + 4) (R.1 7 (endFr R.1 R.2.1 u))) 110 (10 * u + 5) (R.1 8 (endFr R.1 R.2.1 u))) 110 (10 * u + 7) (R.1 10 (endFr R.1 R.2.1 u))) x = cN σ3 x := fun x hx h => by
      rw [cm x hx, if_neg (by omega), if_neg (by omega), if_neg (by omega), if_neg (by omega), if_neg (by omega), if_neg (by omega)]
    refine ⟨(M1 (M1 (M1 (M1 (M1 (M1 σ3 110 (10 * u + 0) kd) 110 (10 * u + 1) ch) 110 (10 * u + 3) (R.1 5 (endFr R.1 R.2.1 u))) 110 (10 * u + 4) (R.1 7 (endFr R.1 R.2.1 u))) 110 (10 * u + 5) (R.1 8 (endFr R.1 R.2.1 u))) 110 (10 * u + 7) (R.1 10 (endFr R.1 R.2.1 u))), ?_, o2.trans (((((FrN.m1.trans FrN.m1).trans FrN.m1).trans FrN.m1).trans FrN.m1).trans FrN.m1), fun b v6 => ?_⟩
    · refine RepN.row hN (rN_put hN1 ⟨hu.1, hu.2.1⟩ hl ?_ (fun i p i0 i1 p0 p1 => ?_) (fun i p i0 i1 p0 p1 => ?_) ⟨?_, ?_, ?_, ?_⟩ (fun _ => ⟨?_, ?_, ?_, ?_, ?_, ?_⟩) (fun b b0 b1 => ?_)) hbd (fun x hx => ?_)
      · rw [co _ (by omega) (by omega)]; exact o4
      · rw [co _ (by omega) (by omega)]; exact o5 i p i0 i1 p0 p1
      · rw [co _ (by omega) (by omega)]; exact o6 i p i0 i1 p0 p1
      · rw [cm _ (by omega), if_neg (by omega), if_neg (by omega), if_neg (by omega), if_neg (by omega), if_neg (by omega), if_pos rfl]; exact hk
      · rw [cm _ (by omega), if_neg (by omega), if_neg (by omega), if_neg (by omega), if_neg (by omega), if_pos rfl]
      · rw [cm _ (by omega), if_neg (by omega), if_neg (by omega), if_neg (by omega), if_neg (by omega), if_neg (by omega), if_neg (by omega)]; exact o5b 2 (by omega) (by omega)
      · rw [cm _ (by omega), if_neg (by omega), if_neg (by omega), if_neg (by omega), if_neg (by omega), if_neg (by omega), if_neg (by omega)]; exact o5b 9 (by omega) (by omega)
      · rw [cm _ (by omega), if_neg (by omega), if_neg (by omega), if_neg (by omega), if_pos rfl]
      · rw [cm _ (by omega), if_neg (by omega), if_neg (by omega), if_pos rfl]
      · rw [cm _ (by omega), if_neg (by omega), if_pos rfl]
      · rw [cm _ (by omega), if_neg (by omega), if_neg (by omega), if_neg (by omega), if_neg (by omega), if_neg (by omega), if_neg (by omega)]; exact o5b 6 (by omega) (by omega)
      · rw [cm _ (by omega), if_pos rfl]
      · rw [cm _ (by omega), if_neg (by omega), if_neg (by omega), if_neg (by omega), if_neg (by omega), if_neg (by omega), if_neg (by omega)]; exact o5b 8 (by omega) (by omega)
      · rw [co _ (by omega) (by omega)]; exact o7 b b0 b1
      · rw [co _ (by omega) (by omega)]; exact o3 x hx
    · skip
      refine go_aload_n (at_of tX10_writes 1 11 rfl) rfl ?_
      refine go_iload (at_of tX10_writes 1 12 rfl) rfl rfl ?_
      refine go_cV (me) lk_X10_147 rfl G_109 (at_of tX10_writes 1 13 rfl) rfl (by decide) rfl (Nat.le_of_ble_eq_true rfl) rfl (by first | decide | exact ⟨Nat.zero_le _, Nat.zero_le _⟩) ?_
      refine go_iconst (at_of tX10_writes 1 14 rfl) (by unfold in32; omega) ?_
      refine go_iadd (at_of tX10_writes 1 15 rfl) (by unfold in32; omega) ?_
      refine go_istore (at_of tX10_writes 2 0 rfl) rfl rfl ?_
      refine go_aload_n (at_of tX10_writes 2 1 rfl) rfl ?_
      refine go_iload (at_of tX10_writes 2 2 rfl) rfl rfl ?_
      refine go_cV (o1) lk_X10_173 rfl G_109 (at_of tX10_writes 2 3 rfl) rfl (by decide) rfl (Nat.le_of_ble_eq_true rfl) rfl (by first | decide | exact ⟨Nat.zero_le _, Nat.zero_le _⟩) ?_
      refine go_aload_n (at_of tX10_writes 2 4 rfl) rfl ?_
      refine go_iload (at_of tX10_writes 2 5 rfl) rfl rfl ?_
      refine go_iconst (at_of tX10_writes 2 6 rfl) (by unfold in32; omega) ?_
      refine go_iload_n (at_of tX10_writes 2 7 rfl) rfl ?_
      refine go_cV (m_setAt (by exact hS3) (by omega)) lk_X10_99 rfl G_109 (at_of tX10_writes 2 8 rfl) rfl (by decide) rfl (Nat.le_of_ble_eq_true rfl) rfl (by first | decide | exact ⟨Nat.zero_le _, Nat.zero_le _⟩) ?_
      refine go_aload_n (at_of tX10_writes 2 9 rfl) rfl ?_
      refine go_iload (at_of tX10_writes 2 10 rfl) rfl rfl ?_
      refine go_iconst (at_of tX10_writes 2 11 rfl) (by unfold in32; omega) ?_
      refine go_iload (at_of tX10_writes 2 12 rfl) rfl rfl ?_
      refine go_cV (m_setAt (by exact hS3) (by omega)) lk_X10_99 rfl G_109 (at_of tX10_writes 2 13 rfl) rfl (by decide) rfl (Nat.le_of_ble_eq_true rfl) rfl (by first | decide | exact ⟨Nat.zero_le _, Nat.zero_le _⟩) ?_
      refine go_iload_n (at_of tX10_writes 2 14 rfl) rfl ?_
      refine go_bipush (at_of tX10_writes 2 15 rfl) (by decide) ?_
      refine go_icmp_ne (tgt := 150) (at_of tX10_writes 3 0 rfl) (by decide) (fun h89 => ?_) (fun h89 => ?_)
      · exfalso; exact h89 (k47.mpr h47)
      refine go_aload_n (at_of tX10_writes 3 1 rfl) rfl ?_
      refine go_iload (at_of tX10_writes 3 2 rfl) rfl rfl ?_
      refine go_iconst (at_of tX10_writes 3 3 rfl) (by unfold in32; omega) ?_
      refine go_aload_n (at_of tX10_writes 3 4 rfl) rfl ?_
      refine go_iload (at_of tX10_writes 3 5 rfl) rfl rfl ?_
      refine go_iconst (at_of tX10_writes 3 6 rfl) (by unfold in32; omega) ?_
      refine go_cV (at3) lk_X10_106 rfl G_109 (at_of tX10_writes 3 7 rfl) rfl (by decide) rfl (Nat.le_of_ble_eq_true rfl) rfl (by first | decide | exact ⟨Nat.zero_le _, Nat.zero_le _⟩) ?_
      refine go_cV (m_setAt (by exact hS3) (by omega)) lk_X10_99 rfl G_109 (at_of tX10_writes 3 8 rfl) rfl (by decide) rfl (Nat.le_of_ble_eq_true rfl) rfl (by first | decide | exact ⟨Nat.zero_le _, Nat.zero_le _⟩) ?_
      refine go_aload_n (at_of tX10_writes 3 9 rfl) rfl ?_
      refine go_iload (at_of tX10_writes 3 10 rfl) rfl rfl ?_
      refine go_iconst (at_of tX10_writes 3 11 rfl) (by unfold in32; omega) ?_
      refine go_aload_n (at_of tX10_writes 3 12 rfl) rfl ?_
      refine go_iload (at_of tX10_writes 3 13 rfl) rfl rfl ?_
      refine go_iconst (at_of tX10_writes 3 14 rfl) (by unfold in32; omega) ?_
      refine go_cV (at4) lk_X10_106 rfl G_109 (at_of tX10_writes 3 15 rfl) rfl (by decide) rfl (Nat.le_of_ble_eq_true rfl) rfl (by first | decide | exact ⟨Nat.zero_le _, Nat.zero_le _⟩) ?_
      refine go_cV (m_setAt (by exact hS3) (by omega)) lk_X10_99 rfl G_109 (at_of tX10_writes 4 0 rfl) rfl (by decide) rfl (Nat.le_of_ble_eq_true rfl) rfl (by first | decide | exact ⟨Nat.zero_le _, Nat.zero_le _⟩) ?_
      refine go_aload_n (at_of tX10_writes 4 1 rfl) rfl ?_
      refine go_iload (at_of tX10_writes 4 2 rfl) rfl rfl ?_
      refine go_iconst (at_of tX10_writes 4 3 rfl) (by unfold in32; omega) ?_
      refine go_aload_n (at_of tX10_writes 4 4 rfl) rfl ?_
      refine go_iload (at_of tX10_writes 4 5 rfl) rfl rfl ?_
      refine go_iconst (at_of tX10_writes 4 6 rfl) (by unfold in32; omega) ?_
      refine go_cV (at5) lk_X10_106 rfl G_109 (at_of tX10_writes 4 7 rfl) rfl (by decide) rfl (Nat.le_of_ble_eq_true rfl) rfl (by first | decide | exact ⟨Nat.zero_le _, Nat.zero_le _⟩) ?_
      refine go_cV (m_setAt (by exact hS3) (by omega)) lk_X10_99 rfl G_109 (at_of tX10_writes 4 8 rfl) rfl (by decide) rfl (Nat.le_of_ble_eq_true rfl) rfl (by first | decide | exact ⟨Nat.zero_le _, Nat.zero_le _⟩) ?_
      refine go_aload_n (at_of tX10_writes 4 9 rfl) rfl ?_
      refine go_iload (at_of tX10_writes 4 10 rfl) rfl rfl ?_
      refine go_bipush (at_of tX10_writes 4 11 rfl) (by decide) ?_
      refine go_aload_n (at_of tX10_writes 4 12 rfl) rfl ?_
      refine go_iload (at_of tX10_writes 4 13 rfl) rfl rfl ?_
      refine go_bipush (at_of tX10_writes 4 14 rfl) (by decide) ?_
      refine go_cV (at7) lk_X10_106 rfl G_109 (at_of tX10_writes 4 15 rfl) rfl (by decide) rfl (Nat.le_of_ble_eq_true rfl) rfl (by first | decide | exact ⟨Nat.zero_le _, Nat.zero_le _⟩) ?_
      refine go_cV (m_setAt (by exact hS3) (by omega)) lk_X10_99 rfl G_109 (at_of tX10_writes 5 0 rfl) rfl (by decide) rfl (Nat.le_of_ble_eq_true rfl) rfl (by first | decide | exact ⟨Nat.zero_le _, Nat.zero_le _⟩) ?_
      refine go_iload (at_of tX10_writes 5 1 rfl) rfl rfl ?_
      exact go_reti (at_of tX10_writes 5 2 rfl) rfl
  · have cm : ∀ x, 0 ≤ x → cN (M1 (M1 σ3 110 (10 * u + 0) kd) 110 (10 * u + 1) ch) x = if x = 10 * u + 1 then ch else if x = 10 * u + 0 then kd else cN σ3 x := fun x hx => by
      rw [cN_M1 (by omega) hx, cN_M1 (by omega) hx]
    have co : ∀ x, 0 ≤ x → x < 10 * u ∨ 10 * u + 10 ≤ x → cN (M1 (M1 σ3 110 (10 * u + 0) kd) 110 (10 * u + 1) ch) x = cN σ3 x := fun x hx h => by
      rw [cm x hx, if_neg (by omega), if_neg (by omega)]
    refine ⟨(M1 (M1 σ3 110 (10 * u + 0) kd) 110 (10 * u + 1) ch), ?_, o2.trans (FrN.m1.trans FrN.m1), fun b v6 => ?_⟩
    · refine RepN.row hN (rN_put hN1 ⟨hu.1, hu.2.1⟩ hl ?_ (fun i p i0 i1 p0 p1 => ?_) (fun i p i0 i1 p0 p1 => ?_) ⟨?_, ?_, ?_, ?_⟩ (fun q => absurd q h47) (fun b b0 b1 => ?_)) hbd (fun x hx => ?_)
      · rw [co _ (by omega) (by omega)]; exact o4
      · rw [co _ (by omega) (by omega)]; exact o5 i p i0 i1 p0 p1
      · rw [co _ (by omega) (by omega)]; exact o6 i p i0 i1 p0 p1
      · rw [cm _ (by omega), if_neg (by omega), if_pos rfl]; exact hk
      · rw [cm _ (by omega), if_pos rfl]
      · rw [cm _ (by omega), if_neg (by omega), if_neg (by omega)]; exact o5b 2 (by omega) (by omega)
      · rw [cm _ (by omega), if_neg (by omega), if_neg (by omega)]; exact o5b 9 (by omega) (by omega)
      · rw [co _ (by omega) (by omega)]; exact o7 b b0 b1
      · rw [co _ (by omega) (by omega)]; exact o3 x hx
    · skip
      refine go_aload_n (at_of tX10_writes 1 11 rfl) rfl ?_
      refine go_iload (at_of tX10_writes 1 12 rfl) rfl rfl ?_
      refine go_cV (me) lk_X10_147 rfl G_109 (at_of tX10_writes 1 13 rfl) rfl (by decide) rfl (Nat.le_of_ble_eq_true rfl) rfl (by first | decide | exact ⟨Nat.zero_le _, Nat.zero_le _⟩) ?_
      refine go_iconst (at_of tX10_writes 1 14 rfl) (by unfold in32; omega) ?_
      refine go_iadd (at_of tX10_writes 1 15 rfl) (by unfold in32; omega) ?_
      refine go_istore (at_of tX10_writes 2 0 rfl) rfl rfl ?_
      refine go_aload_n (at_of tX10_writes 2 1 rfl) rfl ?_
      refine go_iload (at_of tX10_writes 2 2 rfl) rfl rfl ?_
      refine go_cV (o1) lk_X10_173 rfl G_109 (at_of tX10_writes 2 3 rfl) rfl (by decide) rfl (Nat.le_of_ble_eq_true rfl) rfl (by first | decide | exact ⟨Nat.zero_le _, Nat.zero_le _⟩) ?_
      refine go_aload_n (at_of tX10_writes 2 4 rfl) rfl ?_
      refine go_iload (at_of tX10_writes 2 5 rfl) rfl rfl ?_
      refine go_iconst (at_of tX10_writes 2 6 rfl) (by unfold in32; omega) ?_
      refine go_iload_n (at_of tX10_writes 2 7 rfl) rfl ?_
      refine go_cV (m_setAt (by exact hS3) (by omega)) lk_X10_99 rfl G_109 (at_of tX10_writes 2 8 rfl) rfl (by decide) rfl (Nat.le_of_ble_eq_true rfl) rfl (by first | decide | exact ⟨Nat.zero_le _, Nat.zero_le _⟩) ?_
      refine go_aload_n (at_of tX10_writes 2 9 rfl) rfl ?_
      refine go_iload (at_of tX10_writes 2 10 rfl) rfl rfl ?_
      refine go_iconst (at_of tX10_writes 2 11 rfl) (by unfold in32; omega) ?_
      refine go_iload (at_of tX10_writes 2 12 rfl) rfl rfl ?_
      refine go_cV (m_setAt (by exact hS3) (by omega)) lk_X10_99 rfl G_109 (at_of tX10_writes 2 13 rfl) rfl (by decide) rfl (Nat.le_of_ble_eq_true rfl) rfl (by first | decide | exact ⟨Nat.zero_le _, Nat.zero_le _⟩) ?_
      refine go_iload_n (at_of tX10_writes 2 14 rfl) rfl ?_
      refine go_bipush (at_of tX10_writes 2 15 rfl) (by decide) ?_
      refine go_icmp_ne (tgt := 150) (at_of tX10_writes 3 0 rfl) (by decide) (fun h89 => ?_) (fun h89 => ?_)
      rotate_left
      · exfalso; exact h47 (k47.mp h89)
      refine go_iload (at_of tX10_writes 5 1 rfl) rfl rfl ?_
      exact go_reti (at_of tX10_writes 5 2 rfl) rfl
theorem m_writes (hS : Str σ.2.1) {A : PastD} (hM : PastM σ A) (hWf : WfM (A.1 A.2.1)) {tr : Bool} (htr : σ.1 109 6 = bI (tr = true)) {a p kd l fd : Int} (hp : 0 ≤ p ∧ p ≤ plOf (A.1 A.2.1).1.1 (A.1 A.2.1).1.2.1 (A.1 A.2.1).1.2.1) (h200 : (A.1 A.2.1).1.2.1 < 200) (hch : tr = true → chAhD (A.1 A.2.1) a (ixOf (A.1 A.2.1).1.1 (A.1 A.2.1).1.2.1 p) = -1 → (A.1 A.2.1).2.1.1 < 60) (hk : kd = if fd = -1 then l else 1000 + fd) (hl : fd ≠ -1 → l ≠ 47) (hf : -1 ≤ fd) :
    ∃ σ', Con 3 mX10_writes 0 0 [vA 109, vI a, vI p, vI kd] σ (vI (wrC (A.1 A.2.1) tr a (ixOf (A.1 A.2.1).1.1 (A.1 A.2.1).1.2.1 p)), σ') ∧ PastM σ' (edA (begA A) (wrD (A.1 A.2.1) tr a (ixOf (A.1 A.2.1).1.1 (A.1 A.2.1).1.2.1 p) l fd)) ∧ FrE σ σ' ∧ σ'.1 109 0 = σ.1 109 0 := by
  obtain ⟨σ1, x1, x2, x3, x4, x5⟩ := m_edits hS hM
  have hS1 : Str σ1.2.1 := by rw [x3.1]; exact hS
  have hN1 : RepN (cN σ1) (A.1 A.2.1) := by
    have := x2.2.2.2.1
    rw [cur_beg] at this; exact this
  obtain ⟨hE, hSg, hMk, hRw⟩ := id hWf
  obtain ⟨e1, e2, e3, e4⟩ := id hE
  have hu := m_unitOf hS1 hN1.1 hE hSg hp.1 hp.2
  obtain ⟨u1, u2, u3, u4⟩ := place_ix hE hp.1 hp.2
  have t1 : σ1.1 109 6 = bI (tr = true) := by rw [x3.2 109 6 (by omega)]; exact htr
  obtain ⟨u, hud⟩ : ∃ u, u = ixOf (A.1 A.2.1).1.1 (A.1 A.2.1).1.2.1 p := ⟨_, rfl⟩
  rw [← hud] at hu u1 u2 u3 u4 hch ⊢
  have fin : ∀ {σ' : St} {D' : PapD}, FrN σ1 σ' → RepN (cN σ') D' → PastM σ' (edA (begA A) D') ∧ FrE σ σ' ∧ σ'.1 109 0 = σ.1 109 0 := fun {σ' D'} hF hD => ⟨hF.past x2 hD, x3.trans hF.e, (hF.2 109 0 (by omega)).trans x5⟩
  unfold wrD wrC
  cases tr with
  | false =>
    rw [if_neg (by decide), if_neg (fun q => absurd q.1 (by decide))]
    obtain ⟨σ', y1, y2, y3⟩ := m_writes_tail hS1 (R := (A.1 A.2.1).1) (L := (A.1 A.2.1).2.1) (Q := (A.1 A.2.1).2.2) hN1 hWf (a := a) (p := p) (u := u) (ch := -1) ⟨u1, u2, h200⟩ hk hl hf
    refine ⟨σ', ?_, fin y2 y1⟩
    refine con_of_go mfX10_writes.1 trivial (Nat.le_of_ble_eq_true rfl) rfl (by decide) ?_
    show Go _ _ _ _ 0 [vA _, vI _, vI _, vI _, vT 9 0, vT 9 0, vT 9 0] [] _ _
    refine go_aload_n (at_of tX10_writes 0 0 rfl) rfl ?_
    refine go_cV (x1) lk_X10_166 rfl G_109 (at_of tX10_writes 0 1 rfl) rfl (by decide) rfl (Nat.le_of_ble_eq_true rfl) rfl (by first | decide | exact ⟨Nat.zero_le _, Nat.zero_le _⟩) ?_
    refine go_aload_n (at_of tX10_writes 0 2 rfl) rfl ?_
    refine go_iload_n (at_of tX10_writes 0 3 rfl) rfl ?_
    refine go_cV (hu) lk_X10_157 rfl G_109 (at_of tX10_writes 0 4 rfl) rfl (by decide) rfl (Nat.le_of_ble_eq_true rfl) rfl (by first | decide | exact ⟨Nat.zero_le _, Nat.zero_le _⟩) ?_
    refine go_istore (at_of tX10_writes 0 5 rfl) rfl rfl ?_
    refine go_aload_n (at_of tX10_writes 0 6 rfl) rfl ?_
    refine go_getf fl_X10_19 rfl G_109 (at_of tX10_writes 0 7 rfl) ?_
    refine go_if_ne (tgt := 22) (at_of tX10_writes 0 8 rfl) (by decide) (fun h15 => ?_) (fun h15 => ?_)
    · exfalso; rw [t1] at h15; exact h15 (by decide)
    refine go_iconst (at_of tX10_writes 0 9 rfl) (by unfold in32; omega) ?_
    refine go_goto (tgt := 29) (at_of tX10_writes 0 10 rfl) (by decide) ?_
    refine go_istore (at_of tX10_writes 0 15 rfl) rfl rfl ?_
    refine go_aload_n (at_of tX10_writes 1 0 rfl) rfl ?_
    refine go_getf fl_X10_19 rfl G_109 (at_of tX10_writes 1 1 rfl) ?_
    refine go_if_eq (tgt := 53) (at_of tX10_writes 1 2 rfl) (by decide) (fun h35 => ?_) (fun h35 => ?_)
    rotate_left
    · exfalso; rw [t1] at h35; exact h35 (by decide)
    exact y3 _ _
  | true =>
    rw [if_pos rfl]
    have mc := m_changeAhead hS1 hN1 hE hSg hMk (u := u) (a := a) ⟨u1, u2⟩
    by_cases hc : chAhD (A.1 A.2.1) a u = -1
    · rw [if_pos hc, if_pos ⟨rfl, hc⟩]
      obtain ⟨z1, z2, z3⟩ := m_newChange hS1 hN1 (a := a) (w := 105) (hch rfl hc)
      obtain ⟨σ2, hσ2⟩ : ∃ σ2, σ2 = (M1 (M1 (M1 (M1 σ1 110 (3013 + (A.1 A.2.1).2.1.1) a) 110 (3073 + (A.1 A.2.1).2.1.1) 119) 110 (3133 + (A.1 A.2.1).2.1.1) 105) 110 3011 ((A.1 A.2.1).2.1.1 + 1)) := ⟨_, rfl⟩
      rw [← hσ2] at z1 z2 z3
      have hS2 := z3.str hS1
      have hW2 : WfM ((A.1 A.2.1).1, enrL (A.1 A.2.1).2.1 105 a, (A.1 A.2.1).2.2) := ⟨hE, hSg, fun i i0 i1 => (hMk i i0 i1).imp id (fun q => ⟨q.1, Int.lt_trans q.2 (by show (A.1 A.2.1).2.1.1 < _ + 1; omega)⟩), hRw⟩
      obtain ⟨σ', y1, y2, y3⟩ := m_writes_tail hS2 z2 hW2 (a := a) (p := p) (u := u) (ch := (A.1 A.2.1).2.1.1) ⟨u1, u2, h200⟩ hk hl hf
      refine ⟨σ', ?_, fin (z3.trans y2) y1⟩
      have t2 : σ1.1 109 6 = 1 := t1
      refine con_of_go mfX10_writes.1 trivial (Nat.le_of_ble_eq_true rfl) rfl (by decide) ?_
      show Go _ _ _ _ 0 [vA _, vI _, vI _, vI _, vT 9 0, vT 9 0, vT 9 0] [] _ _
      refine go_aload_n (at_of tX10_writes 0 0 rfl) rfl ?_
      refine go_cV (x1) lk_X10_166 rfl G_109 (at_of tX10_writes 0 1 rfl) rfl (by decide) rfl (Nat.le_of_ble_eq_true rfl) rfl (by first | decide | exact ⟨Nat.zero_le _, Nat.zero_le _⟩) ?_
      refine go_aload_n (at_of tX10_writes 0 2 rfl) rfl ?_
      refine go_iload_n (at_of tX10_writes 0 3 rfl) rfl ?_
      refine go_cV (hu) lk_X10_157 rfl G_109 (at_of tX10_writes 0 4 rfl) rfl (by decide) rfl (Nat.le_of_ble_eq_true rfl) rfl (by first | decide | exact ⟨Nat.zero_le _, Nat.zero_le _⟩) ?_
      refine go_istore (at_of tX10_writes 0 5 rfl) rfl rfl ?_
      refine go_aload_n (at_of tX10_writes 0 6 rfl) rfl ?_
      refine go_getf fl_X10_19 rfl G_109 (at_of tX10_writes 0 7 rfl) ?_
      refine go_if_ne (tgt := 22) (at_of tX10_writes 0 8 rfl) (by decide) (fun h15 => ?_) (fun h15 => ?_)
      rotate_left
      · exfalso; omega
      refine go_aload_n (at_of tX10_writes 0 11 rfl) rfl ?_
      refine go_iload (at_of tX10_writes 0 12 rfl) rfl rfl ?_
      refine go_iload_n (at_of tX10_writes 0 13 rfl) rfl ?_
      refine go_cV (mc) lk_X10_160 rfl G_109 (at_of tX10_writes 0 14 rfl) rfl (by decide) rfl (Nat.le_of_ble_eq_true rfl) rfl (by first | decide | exact ⟨Nat.zero_le _, Nat.zero_le _⟩) ?_
      refine go_istore (at_of tX10_writes 0 15 rfl) rfl rfl ?_
      refine go_aload_n (at_of tX10_writes 1 0 rfl) rfl ?_
      refine go_getf fl_X10_19 rfl G_109 (at_of tX10_writes 1 1 rfl) ?_
      refine go_if_eq (tgt := 53) (at_of tX10_writes 1 2 rfl) (by decide) (fun h35 => ?_) (fun h35 => ?_)
      · exfalso; omega
      refine go_iload (at_of tX10_writes 1 3 rfl) rfl rfl ?_
      refine go_iconst (at_of tX10_writes 1 4 rfl) (by unfold in32; omega) ?_
      refine go_icmp_ne (tgt := 53) (at_of tX10_writes 1 5 rfl) (by decide) (fun h41 => ?_) (fun h41 => ?_)
      · exfalso; omega
      refine go_aload_n (at_of tX10_writes 1 6 rfl) rfl ?_
      refine go_iload_n (at_of tX10_writes 1 7 rfl) rfl ?_
      refine go_bipush (at_of tX10_writes 1 8 rfl) (by decide) ?_
      refine go_cV (z1) lk_X10_169 rfl G_109 (at_of tX10_writes 1 9 rfl) rfl (by decide) rfl (Nat.le_of_ble_eq_true rfl) rfl (by first | decide | exact ⟨Nat.zero_le _, Nat.zero_le _⟩) ?_
      refine go_istore (at_of tX10_writes 1 10 rfl) rfl rfl ?_
      exact y3 _ _
    · rw [if_neg hc, if_neg (fun q => hc q.2)]
      obtain ⟨σ', y1, y2, y3⟩ := m_writes_tail hS1 (R := (A.1 A.2.1).1) (L := (A.1 A.2.1).2.1) (Q := (A.1 A.2.1).2.2) hN1 hWf (a := a) (p := p) (u := u) (ch := chAhD (A.1 A.2.1) a u) ⟨u1, u2, h200⟩ hk hl hf
      refine ⟨σ', ?_, fin y2 y1⟩
      have t2 : σ1.1 109 6 = 1 := t1
      refine con_of_go mfX10_writes.1 trivial (Nat.le_of_ble_eq_true rfl) rfl (by decide) ?_
      show Go _ _ _ _ 0 [vA _, vI _, vI _, vI _, vT 9 0, vT 9 0, vT 9 0] [] _ _
      refine go_aload_n (at_of tX10_writes 0 0 rfl) rfl ?_
      refine go_cV (x1) lk_X10_166 rfl G_109 (at_of tX10_writes 0 1 rfl) rfl (by decide) rfl (Nat.le_of_ble_eq_true rfl) rfl (by first | decide | exact ⟨Nat.zero_le _, Nat.zero_le _⟩) ?_
      refine go_aload_n (at_of tX10_writes 0 2 rfl) rfl ?_
      refine go_iload_n (at_of tX10_writes 0 3 rfl) rfl ?_
      refine go_cV (hu) lk_X10_157 rfl G_109 (at_of tX10_writes 0 4 rfl) rfl (by decide) rfl (Nat.le_of_ble_eq_true rfl) rfl (by first | decide | exact ⟨Nat.zero_le _, Nat.zero_le _⟩) ?_
      refine go_istore (at_of tX10_writes 0 5 rfl) rfl rfl ?_
      refine go_aload_n (at_of tX10_writes 0 6 rfl) rfl ?_
      refine go_getf fl_X10_19 rfl G_109 (at_of tX10_writes 0 7 rfl) ?_
      refine go_if_ne (tgt := 22) (at_of tX10_writes 0 8 rfl) (by decide) (fun h15 => ?_) (fun h15 => ?_)
      rotate_left
      · exfalso; omega
      refine go_aload_n (at_of tX10_writes 0 11 rfl) rfl ?_
      refine go_iload (at_of tX10_writes 0 12 rfl) rfl rfl ?_
      refine go_iload_n (at_of tX10_writes 0 13 rfl) rfl ?_
      refine go_cV (mc) lk_X10_160 rfl G_109 (at_of tX10_writes 0 14 rfl) rfl (by decide) rfl (Nat.le_of_ble_eq_true rfl) rfl (by first | decide | exact ⟨Nat.zero_le _, Nat.zero_le _⟩) ?_
      refine go_istore (at_of tX10_writes 0 15 rfl) rfl rfl ?_
      refine go_aload_n (at_of tX10_writes 1 0 rfl) rfl ?_
      refine go_getf fl_X10_19 rfl G_109 (at_of tX10_writes 1 1 rfl) ?_
      refine go_if_eq (tgt := 53) (at_of tX10_writes 1 2 rfl) (by decide) (fun h35 => ?_) (fun h35 => ?_)
      · exfalso; omega
      refine go_iload (at_of tX10_writes 1 3 rfl) rfl rfl ?_
      refine go_iconst (at_of tX10_writes 1 4 rfl) (by unfold in32; omega) ?_
      refine go_icmp_ne (tgt := 53) (at_of tX10_writes 1 5 rfl) (by decide) (fun h41 => ?_) (fun h41 => ?_)
      rotate_left
      · exfalso; omega
      exact y3 _ _
theorem m_insert_no (hS : Str σ.2.1) {A : PastD} (hM : PastM σ A) (hWf : WfM (A.1 A.2.1)) {tr : Bool} (htr : σ.1 109 6 = bI (tr = true)) {a p l : Int} (hf : wfE (A.1 A.2.1) tr a p (decide (97 ≤ l ∧ l ≤ 122 ∨ l = 32 ∨ l = 47)) false ≠ 0) : Con 5 mX10_insert 0 0 [vA 109, vI a, vI p, vI l] σ (vI 0, P1 σ 109 0 (wfE (A.1 A.2.1) tr a p (decide (97 ≤ l ∧ l ≤ 122 ∨ l = 32 ∨ l = 47)) false)) := by
  obtain ⟨hE, hSg, hMk, hRw⟩ := id hWf
  have wf := m_writeFault hS hM.2.2.2.1 hE hSg hMk htr (a := a) (p := p) (fine := decide (97 ≤ l ∧ l ≤ 122 ∨ l = 32 ∨ l = 47)) (full := false)
  have wf1 : 97 ≤ l ∧ l ≤ 122 ∨ l = 32 ∨ l = 47 → Con 4 mX10_writeFault 0 0 [vA 109, vI a, vI p, vI 1, vI 0] σ (vI (wfE (A.1 A.2.1) tr a p (decide (97 ≤ l ∧ l ≤ 122 ∨ l = 32 ∨ l = 47)) false), σ) := fun q => by
    have z := wf
    rw [bI_t (decide_eq_true q)] at z
    exact z
  have wf0 : ¬ (97 ≤ l ∧ l ≤ 122 ∨ l = 32 ∨ l = 47) → Con 4 mX10_writeFault 0 0 [vA 109, vI a, vI p, vI 0, vI 0] σ (vI (wfE (A.1 A.2.1) tr a p (decide (97 ≤ l ∧ l ≤ 122 ∨ l = 32 ∨ l = 47)) false), σ) := fun q => by
    have z := wf
    rw [bI_f (fun y => q (of_decide_eq_true y))] at z
    exact z
  by_cases hfine : 97 ≤ l ∧ l ≤ 122 ∨ l = 32 ∨ l = 47
  · skip
    by_cases q1 : 97 ≤ l ∧ l ≤ 122
    · skip
      refine con_of_go mfX10_insert.1 trivial (Nat.le_of_ble_eq_true rfl) rfl (by decide) ?_
      show Go _ _ _ _ 0 [vA _, vI _, vI _, vI _, vT 9 0] [] _ _
      refine go_iload_n (at_of tX10_insert 0 0 rfl) rfl ?_
      refine go_bipush (at_of tX10_insert 0 1 rfl) (by decide) ?_
      refine go_bipush (at_of tX10_insert 0 2 rfl) (by decide) ?_
      refine go_cS (m_in) lk_X10_124 rfl (at_of tX10_insert 0 3 rfl) rfl (by decide) rfl (Nat.le_of_ble_eq_true rfl) rfl (by first | decide | exact ⟨Nat.zero_le _, Nat.zero_le _⟩) ?_
      refine go_if_ne (tgt := 23) (at_of tX10_insert 0 4 rfl) (by decide) (fun h8 => ?_) (fun h8 => ?_)
      rotate_left
      · exfalso; exact bI_0.mp h8 q1
      refine go_iconst (at_of tX10_insert 0 11 rfl) (by unfold in32; omega) ?_
      refine go_goto (tgt := 28) (at_of tX10_insert 0 12 rfl) (by decide) ?_
      refine go_istore (at_of tX10_insert 0 14 rfl) rfl rfl ?_
      refine go_aload_n (at_of tX10_insert 0 15 rfl) rfl ?_
      refine go_aload_n (at_of tX10_insert 1 0 rfl) rfl ?_
      refine go_iload_n (at_of tX10_insert 1 1 rfl) rfl ?_
      refine go_iload_n (at_of tX10_insert 1 2 rfl) rfl ?_
      refine go_iload (at_of tX10_insert 1 3 rfl) rfl rfl ?_
      refine go_iconst (at_of tX10_insert 1 4 rfl) (by unfold in32; omega) ?_
      refine go_cV (wf1 hfine) lk_X10_176 rfl G_109 (at_of tX10_insert 1 5 rfl) rfl (by decide) rfl (Nat.le_of_ble_eq_true rfl) rfl (by first | decide | exact ⟨Nat.zero_le _, Nat.zero_le _⟩) ?_
      refine go_cV (m_goesOn) lk_X10_141 rfl G_109 (at_of tX10_insert 1 6 rfl) rfl (by decide) rfl (Nat.le_of_ble_eq_true rfl) rfl (by first | decide | exact ⟨Nat.zero_le _, Nat.zero_le _⟩) ?_
      refine go_if_eq (tgt := 56) (at_of tX10_insert 1 7 rfl) (by decide) (fun h43 => ?_) (fun h43 => ?_)
      rotate_left
      · exfalso; exact hf (bI_1.mp h43)
      refine go_iconst (at_of tX10_insert 1 14 rfl) (by unfold in32; omega) ?_
      first | exact go_reti (at_of tX10_insert 1 15 rfl) rfl | exact go_reti (at_of tX10_insert 1 15 rfl) (le_i (by omega)) | exact go_reti (at_of tX10_insert 1 15 rfl) (le_i (by first | exact bI_t (by omega) | exact bI_f (by omega)))
    · by_cases q2 : l = 32
      · skip
        refine con_of_go mfX10_insert.1 trivial (Nat.le_of_ble_eq_true rfl) rfl (by decide) ?_
        show Go _ _ _ _ 0 [vA _, vI _, vI _, vI _, vT 9 0] [] _ _
        refine go_iload_n (at_of tX10_insert 0 0 rfl) rfl ?_
        refine go_bipush (at_of tX10_insert 0 1 rfl) (by decide) ?_
        refine go_bipush (at_of tX10_insert 0 2 rfl) (by decide) ?_
        refine go_cS (m_in) lk_X10_124 rfl (at_of tX10_insert 0 3 rfl) rfl (by decide) rfl (Nat.le_of_ble_eq_true rfl) rfl (by first | decide | exact ⟨Nat.zero_le _, Nat.zero_le _⟩) ?_
        refine go_if_ne (tgt := 23) (at_of tX10_insert 0 4 rfl) (by decide) (fun h8 => ?_) (fun h8 => ?_)
        · exfalso; exact q1 (bI_1.mp h8)
        refine go_iload_n (at_of tX10_insert 0 5 rfl) rfl ?_
        refine go_bipush (at_of tX10_insert 0 6 rfl) (by decide) ?_
        refine go_icmp_eq (tgt := 23) (at_of tX10_insert 0 7 rfl) (by decide) (fun h14 => ?_) (fun h14 => ?_)
        rotate_left
        · exfalso; omega
        refine go_iconst (at_of tX10_insert 0 11 rfl) (by unfold in32; omega) ?_
        refine go_goto (tgt := 28) (at_of tX10_insert 0 12 rfl) (by decide) ?_
        refine go_istore (at_of tX10_insert 0 14 rfl) rfl rfl ?_
        refine go_aload_n (at_of tX10_insert 0 15 rfl) rfl ?_
        refine go_aload_n (at_of tX10_insert 1 0 rfl) rfl ?_
        refine go_iload_n (at_of tX10_insert 1 1 rfl) rfl ?_
        refine go_iload_n (at_of tX10_insert 1 2 rfl) rfl ?_
        refine go_iload (at_of tX10_insert 1 3 rfl) rfl rfl ?_
        refine go_iconst (at_of tX10_insert 1 4 rfl) (by unfold in32; omega) ?_
        refine go_cV (wf1 hfine) lk_X10_176 rfl G_109 (at_of tX10_insert 1 5 rfl) rfl (by decide) rfl (Nat.le_of_ble_eq_true rfl) rfl (by first | decide | exact ⟨Nat.zero_le _, Nat.zero_le _⟩) ?_
        refine go_cV (m_goesOn) lk_X10_141 rfl G_109 (at_of tX10_insert 1 6 rfl) rfl (by decide) rfl (Nat.le_of_ble_eq_true rfl) rfl (by first | decide | exact ⟨Nat.zero_le _, Nat.zero_le _⟩) ?_
        refine go_if_eq (tgt := 56) (at_of tX10_insert 1 7 rfl) (by decide) (fun h43 => ?_) (fun h43 => ?_)
        rotate_left
        · exfalso; exact hf (bI_1.mp h43)
        refine go_iconst (at_of tX10_insert 1 14 rfl) (by unfold in32; omega) ?_
        first | exact go_reti (at_of tX10_insert 1 15 rfl) rfl | exact go_reti (at_of tX10_insert 1 15 rfl) (le_i (by omega)) | exact go_reti (at_of tX10_insert 1 15 rfl) (le_i (by first | exact bI_t (by omega) | exact bI_f (by omega)))
      · skip
        refine con_of_go mfX10_insert.1 trivial (Nat.le_of_ble_eq_true rfl) rfl (by decide) ?_
        show Go _ _ _ _ 0 [vA _, vI _, vI _, vI _, vT 9 0] [] _ _
        refine go_iload_n (at_of tX10_insert 0 0 rfl) rfl ?_
        refine go_bipush (at_of tX10_insert 0 1 rfl) (by decide) ?_
        refine go_bipush (at_of tX10_insert 0 2 rfl) (by decide) ?_
        refine go_cS (m_in) lk_X10_124 rfl (at_of tX10_insert 0 3 rfl) rfl (by decide) rfl (Nat.le_of_ble_eq_true rfl) rfl (by first | decide | exact ⟨Nat.zero_le _, Nat.zero_le _⟩) ?_
        refine go_if_ne (tgt := 23) (at_of tX10_insert 0 4 rfl) (by decide) (fun h8 => ?_) (fun h8 => ?_)
        · exfalso; exact q1 (bI_1.mp h8)
        refine go_iload_n (at_of tX10_insert 0 5 rfl) rfl ?_
        refine go_bipush (at_of tX10_insert 0 6 rfl) (by decide) ?_
        refine go_icmp_eq (tgt := 23) (at_of tX10_insert 0 7 rfl) (by decide) (fun h14 => ?_) (fun h14 => ?_)
        · exfalso; omega
        refine go_iload_n (at_of tX10_insert 0 8 rfl) rfl ?_
        refine go_bipush (at_of tX10_insert 0 9 rfl) (by decide) ?_
        refine go_icmp_ne (tgt := 27) (at_of tX10_insert 0 10 rfl) (by decide) (fun h20 => ?_) (fun h20 => ?_)
        · exfalso; omega
        refine go_iconst (at_of tX10_insert 0 11 rfl) (by unfold in32; omega) ?_
        refine go_goto (tgt := 28) (at_of tX10_insert 0 12 rfl) (by decide) ?_
        refine go_istore (at_of tX10_insert 0 14 rfl) rfl rfl ?_
        refine go_aload_n (at_of tX10_insert 0 15 rfl) rfl ?_
        refine go_aload_n (at_of tX10_insert 1 0 rfl) rfl ?_
        refine go_iload_n (at_of tX10_insert 1 1 rfl) rfl ?_
        refine go_iload_n (at_of tX10_insert 1 2 rfl) rfl ?_
        refine go_iload (at_of tX10_insert 1 3 rfl) rfl rfl ?_
        refine go_iconst (at_of tX10_insert 1 4 rfl) (by unfold in32; omega) ?_
        refine go_cV (wf1 hfine) lk_X10_176 rfl G_109 (at_of tX10_insert 1 5 rfl) rfl (by decide) rfl (Nat.le_of_ble_eq_true rfl) rfl (by first | decide | exact ⟨Nat.zero_le _, Nat.zero_le _⟩) ?_
        refine go_cV (m_goesOn) lk_X10_141 rfl G_109 (at_of tX10_insert 1 6 rfl) rfl (by decide) rfl (Nat.le_of_ble_eq_true rfl) rfl (by first | decide | exact ⟨Nat.zero_le _, Nat.zero_le _⟩) ?_
        refine go_if_eq (tgt := 56) (at_of tX10_insert 1 7 rfl) (by decide) (fun h43 => ?_) (fun h43 => ?_)
        rotate_left
        · exfalso; exact hf (bI_1.mp h43)
        refine go_iconst (at_of tX10_insert 1 14 rfl) (by unfold in32; omega) ?_
        first | exact go_reti (at_of tX10_insert 1 15 rfl) rfl | exact go_reti (at_of tX10_insert 1 15 rfl) (le_i (by omega)) | exact go_reti (at_of tX10_insert 1 15 rfl) (le_i (by first | exact bI_t (by omega) | exact bI_f (by omega)))
  · skip
    refine con_of_go mfX10_insert.1 trivial (Nat.le_of_ble_eq_true rfl) rfl (by decide) ?_
    show Go _ _ _ _ 0 [vA _, vI _, vI _, vI _, vT 9 0] [] _ _
    refine go_iload_n (at_of tX10_insert 0 0 rfl) rfl ?_
    refine go_bipush (at_of tX10_insert 0 1 rfl) (by decide) ?_
    refine go_bipush (at_of tX10_insert 0 2 rfl) (by decide) ?_
    refine go_cS (m_in) lk_X10_124 rfl (at_of tX10_insert 0 3 rfl) rfl (by decide) rfl (Nat.le_of_ble_eq_true rfl) rfl (by first | decide | exact ⟨Nat.zero_le _, Nat.zero_le _⟩) ?_
    refine go_if_ne (tgt := 23) (at_of tX10_insert 0 4 rfl) (by decide) (fun h8 => ?_) (fun h8 => ?_)
    · exfalso; exact hfine (Or.inl (bI_1.mp h8))
    refine go_iload_n (at_of tX10_insert 0 5 rfl) rfl ?_
    refine go_bipush (at_of tX10_insert 0 6 rfl) (by decide) ?_
    refine go_icmp_eq (tgt := 23) (at_of tX10_insert 0 7 rfl) (by decide) (fun h14 => ?_) (fun h14 => ?_)
    · exfalso; exact hfine (Or.inr (Or.inl h14))
    refine go_iload_n (at_of tX10_insert 0 8 rfl) rfl ?_
    refine go_bipush (at_of tX10_insert 0 9 rfl) (by decide) ?_
    refine go_icmp_ne (tgt := 27) (at_of tX10_insert 0 10 rfl) (by decide) (fun h20 => ?_) (fun h20 => ?_)
    rotate_left
    · exfalso; exact hfine (Or.inr (Or.inr h20))
    refine go_iconst (at_of tX10_insert 0 13 rfl) (by unfold in32; omega) ?_
    refine go_istore (at_of tX10_insert 0 14 rfl) rfl rfl ?_
    refine go_aload_n (at_of tX10_insert 0 15 rfl) rfl ?_
    refine go_aload_n (at_of tX10_insert 1 0 rfl) rfl ?_
    refine go_iload_n (at_of tX10_insert 1 1 rfl) rfl ?_
    refine go_iload_n (at_of tX10_insert 1 2 rfl) rfl ?_
    refine go_iload (at_of tX10_insert 1 3 rfl) rfl rfl ?_
    refine go_iconst (at_of tX10_insert 1 4 rfl) (by unfold in32; omega) ?_
    refine go_cV (wf0 hfine) lk_X10_176 rfl G_109 (at_of tX10_insert 1 5 rfl) rfl (by decide) rfl (Nat.le_of_ble_eq_true rfl) rfl (by first | decide | exact ⟨Nat.zero_le _, Nat.zero_le _⟩) ?_
    refine go_cV (m_goesOn) lk_X10_141 rfl G_109 (at_of tX10_insert 1 6 rfl) rfl (by decide) rfl (Nat.le_of_ble_eq_true rfl) rfl (by first | decide | exact ⟨Nat.zero_le _, Nat.zero_le _⟩) ?_
    refine go_if_eq (tgt := 56) (at_of tX10_insert 1 7 rfl) (by decide) (fun h43 => ?_) (fun h43 => ?_)
    rotate_left
    · exfalso; exact hf (bI_1.mp h43)
    refine go_iconst (at_of tX10_insert 1 14 rfl) (by unfold in32; omega) ?_
    first | exact go_reti (at_of tX10_insert 1 15 rfl) rfl | exact go_reti (at_of tX10_insert 1 15 rfl) (le_i (by omega)) | exact go_reti (at_of tX10_insert 1 15 rfl) (le_i (by first | exact bI_t (by omega) | exact bI_f (by omega)))
theorem wfE_0 {D : PapD} {tr fine full : Bool} {a p : Int} (h : wfE D tr a p fine full = 0) : (0 ≤ a ∧ a ≤ 3) ∧ (0 ≤ p ∧ p ≤ plOf D.1.1 D.1.2.1 D.1.2.1) ∧ fine = true ∧ ¬ (full = true ∨ D.1.2.1 = 200 ∨ (tr = true ∧ chAhD D a (ixOf D.1.1 D.1.2.1 p) = -1 ∧ D.2.1.1 = 60)) := by
  unfold wfE at h
  split at h
  · exact absurd h (by decide)
  · rename_i h1
    have h1 := Decidable.not_not.mp h1
    split at h
    · exact absurd h (by decide)
    · rename_i h2
      split at h
      · exact absurd h (by decide)
      · rename_i h3
        exact ⟨h1.1, h1.2, by cases fine; exact absurd rfl h2; rfl, h3⟩
theorem PastM.th {A : PastD} {z : Int} (h : PastM σ A) : PastM (P1 σ 109 0 z) A := by
  have := h.now (σ' := P1 σ 109 0 z) (D := A.1 A.2.1) (fun a j q q' _ => by
    by_cases hx : a = 109
    · exact P1_nj (by omega)
    · exact P1_ne hx) (h.2.2.2.1.congr (fun x _ _ => P1_ne (by omega)))
  rw [edA_id] at this
  exact this
theorem FrE.th {z : Int} : FrE σ (P1 σ 109 0 z) := ⟨rfl, fun a j q => by
  by_cases hx : a = 109
  · exact P1_nj (by omega)
  · exact P1_ne hx⟩
theorem m_insert (hS : Str σ.2.1) {A : PastD} (hM : PastM σ A) (hWf : WfM (A.1 A.2.1)) {tr : Bool} (htr : σ.1 109 6 = bI (tr = true)) {a p l : Int} (hf : wfE (A.1 A.2.1) tr a p (decide (97 ≤ l ∧ l ≤ 122 ∨ l = 32 ∨ l = 47)) false = 0) : ∃ σ', Con 5 mX10_insert 0 0 [vA 109, vI a, vI p, vI l] σ (vI (wrC (A.1 A.2.1) tr a (ixOf (A.1 A.2.1).1.1 (A.1 A.2.1).1.2.1 p)), σ') ∧ PastM σ' (edA (begA A) (wrD (A.1 A.2.1) tr a (ixOf (A.1 A.2.1).1.1 (A.1 A.2.1).1.2.1 p) l (-1))) ∧ FrE σ σ' ∧ σ'.1 109 0 = 0 := by
  obtain ⟨hE, hSg, hMk, hRw⟩ := id hWf
  have wf := m_writeFault hS hM.2.2.2.1 hE hSg hMk htr (a := a) (p := p) (fine := decide (97 ≤ l ∧ l ≤ 122 ∨ l = 32 ∨ l = 47)) (full := false)
  have wf1 : 97 ≤ l ∧ l ≤ 122 ∨ l = 32 ∨ l = 47 → Con 4 mX10_writeFault 0 0 [vA 109, vI a, vI p, vI 1, vI 0] σ (vI (wfE (A.1 A.2.1) tr a p (decide (97 ≤ l ∧ l ≤ 122 ∨ l = 32 ∨ l = 47)) false), σ) := fun q => by
    have z := wf
    rw [bI_t (decide_eq_true q)] at z
    exact z
  have wf0 : ¬ (97 ≤ l ∧ l ≤ 122 ∨ l = 32 ∨ l = 47) → Con 4 mX10_writeFault 0 0 [vA 109, vI a, vI p, vI 0, vI 0] σ (vI (wfE (A.1 A.2.1) tr a p (decide (97 ≤ l ∧ l ≤ 122 ∨ l = 32 ∨ l = 47)) false), σ) := fun q => by
    have z := wf
    rw [bI_f (fun y => q (of_decide_eq_true y))] at z
    exact z
  obtain ⟨w1, w2, w3, w4⟩ := wfE_0 hf
  have hfine := of_decide_eq_true w3
  have hb := hM.2.2.2.1.2.2.2
  have hR := hRw
  obtain ⟨σ', y1, y2, y3, y4⟩ := m_writes (σ := P1 σ 109 0 0) hS hM.th hWf (by rw [P1_nj (by omega)]; exact htr) (a := a) (p := p) (kd := l) (l := l) (fd := -1) w2 (by have := hb.2.1; rcases Int.lt_or_eq_of_le this with q | q; exact q; exact absurd (Or.inr (Or.inl q)) w4) (fun q1 q2 => by have := hb.2.2.2; rcases Int.lt_or_eq_of_le this with q | q; exact q; exact absurd (Or.inr (Or.inr ⟨q1, q2, q⟩)) w4) (if_pos rfl).symm (fun q => absurd rfl q) (by omega)
  refine ⟨σ', ?_, y2, FrE.th.trans y3, y4.trans P1_eq⟩
  rw [hf] at wf1
  by_cases q1 : 97 ≤ l ∧ l ≤ 122
  · skip
    refine con_of_go mfX10_insert.1 trivial (Nat.le_of_ble_eq_true rfl) rfl (by decide) ?_
    show Go _ _ _ _ 0 [vA _, vI _, vI _, vI _, vT 9 0] [] _ _
    refine go_iload_n (at_of tX10_insert 0 0 rfl) rfl ?_
    refine go_bipush (at_of tX10_insert 0 1 rfl) (by decide) ?_
    refine go_bipush (at_of tX10_insert 0 2 rfl) (by decide) ?_
    refine go_cS (m_in) lk_X10_124 rfl (at_of tX10_insert 0 3 rfl) rfl (by decide) rfl (Nat.le_of_ble_eq_true rfl) rfl (by first | decide | exact ⟨Nat.zero_le _, Nat.zero_le _⟩) ?_
    refine go_if_ne (tgt := 23) (at_of tX10_insert 0 4 rfl) (by decide) (fun h8 => ?_) (fun h8 => ?_)
    rotate_left
    · exfalso; exact bI_0.mp h8 q1
    refine go_iconst (at_of tX10_insert 0 11 rfl) (by unfold in32; omega) ?_
    refine go_goto (tgt := 28) (at_of tX10_insert 0 12 rfl) (by decide) ?_
    refine go_istore (at_of tX10_insert 0 14 rfl) rfl rfl ?_
    refine go_aload_n (at_of tX10_insert 0 15 rfl) rfl ?_
    refine go_aload_n (at_of tX10_insert 1 0 rfl) rfl ?_
    refine go_iload_n (at_of tX10_insert 1 1 rfl) rfl ?_
    refine go_iload_n (at_of tX10_insert 1 2 rfl) rfl ?_
    refine go_iload (at_of tX10_insert 1 3 rfl) rfl rfl ?_
    refine go_iconst (at_of tX10_insert 1 4 rfl) (by unfold in32; omega) ?_
    refine go_cV (wf1 hfine) lk_X10_176 rfl G_109 (at_of tX10_insert 1 5 rfl) rfl (by decide) rfl (Nat.le_of_ble_eq_true rfl) rfl (by first | decide | exact ⟨Nat.zero_le _, Nat.zero_le _⟩) ?_
    refine go_cV (m_goesOn) lk_X10_141 rfl G_109 (at_of tX10_insert 1 6 rfl) rfl (by decide) rfl (Nat.le_of_ble_eq_true rfl) rfl (by first | decide | exact ⟨Nat.zero_le _, Nat.zero_le _⟩) ?_
    refine go_if_eq (tgt := 56) (at_of tX10_insert 1 7 rfl) (by decide) (fun h43 => ?_) (fun h43 => ?_)
    · exfalso; exact absurd h43 (by rw [bI_t rfl]; decide)
    refine go_aload_n (at_of tX10_insert 1 8 rfl) rfl ?_
    refine go_iload_n (at_of tX10_insert 1 9 rfl) rfl ?_
    refine go_iload_n (at_of tX10_insert 1 10 rfl) rfl ?_
    refine go_iload_n (at_of tX10_insert 1 11 rfl) rfl ?_
    refine go_cV (y1) lk_X10_180 rfl G_109 (at_of tX10_insert 1 12 rfl) rfl (by decide) rfl (Nat.le_of_ble_eq_true rfl) rfl (by first | decide | exact ⟨Nat.zero_le _, Nat.zero_le _⟩) ?_
    refine go_goto (tgt := 57) (at_of tX10_insert 1 13 rfl) (by decide) ?_
    first | exact go_reti (at_of tX10_insert 1 15 rfl) rfl | exact go_reti (at_of tX10_insert 1 15 rfl) (le_i (by omega)) | exact go_reti (at_of tX10_insert 1 15 rfl) (le_i (by first | exact bI_t (by omega) | exact bI_f (by omega)))
  · by_cases q2 : l = 32
    · skip
      refine con_of_go mfX10_insert.1 trivial (Nat.le_of_ble_eq_true rfl) rfl (by decide) ?_
      show Go _ _ _ _ 0 [vA _, vI _, vI _, vI _, vT 9 0] [] _ _
      refine go_iload_n (at_of tX10_insert 0 0 rfl) rfl ?_
      refine go_bipush (at_of tX10_insert 0 1 rfl) (by decide) ?_
      refine go_bipush (at_of tX10_insert 0 2 rfl) (by decide) ?_
      refine go_cS (m_in) lk_X10_124 rfl (at_of tX10_insert 0 3 rfl) rfl (by decide) rfl (Nat.le_of_ble_eq_true rfl) rfl (by first | decide | exact ⟨Nat.zero_le _, Nat.zero_le _⟩) ?_
      refine go_if_ne (tgt := 23) (at_of tX10_insert 0 4 rfl) (by decide) (fun h8 => ?_) (fun h8 => ?_)
      · exfalso; exact q1 (bI_1.mp h8)
      refine go_iload_n (at_of tX10_insert 0 5 rfl) rfl ?_
      refine go_bipush (at_of tX10_insert 0 6 rfl) (by decide) ?_
      refine go_icmp_eq (tgt := 23) (at_of tX10_insert 0 7 rfl) (by decide) (fun h14 => ?_) (fun h14 => ?_)
      rotate_left
      · exfalso; omega
      refine go_iconst (at_of tX10_insert 0 11 rfl) (by unfold in32; omega) ?_
      refine go_goto (tgt := 28) (at_of tX10_insert 0 12 rfl) (by decide) ?_
      refine go_istore (at_of tX10_insert 0 14 rfl) rfl rfl ?_
      refine go_aload_n (at_of tX10_insert 0 15 rfl) rfl ?_
      refine go_aload_n (at_of tX10_insert 1 0 rfl) rfl ?_
      refine go_iload_n (at_of tX10_insert 1 1 rfl) rfl ?_
      refine go_iload_n (at_of tX10_insert 1 2 rfl) rfl ?_
      refine go_iload (at_of tX10_insert 1 3 rfl) rfl rfl ?_
      refine go_iconst (at_of tX10_insert 1 4 rfl) (by unfold in32; omega) ?_
      refine go_cV (wf1 hfine) lk_X10_176 rfl G_109 (at_of tX10_insert 1 5 rfl) rfl (by decide) rfl (Nat.le_of_ble_eq_true rfl) rfl (by first | decide | exact ⟨Nat.zero_le _, Nat.zero_le _⟩) ?_
      refine go_cV (m_goesOn) lk_X10_141 rfl G_109 (at_of tX10_insert 1 6 rfl) rfl (by decide) rfl (Nat.le_of_ble_eq_true rfl) rfl (by first | decide | exact ⟨Nat.zero_le _, Nat.zero_le _⟩) ?_
      refine go_if_eq (tgt := 56) (at_of tX10_insert 1 7 rfl) (by decide) (fun h43 => ?_) (fun h43 => ?_)
      · exfalso; exact absurd h43 (by rw [bI_t rfl]; decide)
      refine go_aload_n (at_of tX10_insert 1 8 rfl) rfl ?_
      refine go_iload_n (at_of tX10_insert 1 9 rfl) rfl ?_
      refine go_iload_n (at_of tX10_insert 1 10 rfl) rfl ?_
      refine go_iload_n (at_of tX10_insert 1 11 rfl) rfl ?_
      refine go_cV (y1) lk_X10_180 rfl G_109 (at_of tX10_insert 1 12 rfl) rfl (by decide) rfl (Nat.le_of_ble_eq_true rfl) rfl (by first | decide | exact ⟨Nat.zero_le _, Nat.zero_le _⟩) ?_
      refine go_goto (tgt := 57) (at_of tX10_insert 1 13 rfl) (by decide) ?_
      first | exact go_reti (at_of tX10_insert 1 15 rfl) rfl | exact go_reti (at_of tX10_insert 1 15 rfl) (le_i (by omega)) | exact go_reti (at_of tX10_insert 1 15 rfl) (le_i (by first | exact bI_t (by omega) | exact bI_f (by omega)))
    · skip
      refine con_of_go mfX10_insert.1 trivial (Nat.le_of_ble_eq_true rfl) rfl (by decide) ?_
      show Go _ _ _ _ 0 [vA _, vI _, vI _, vI _, vT 9 0] [] _ _
      refine go_iload_n (at_of tX10_insert 0 0 rfl) rfl ?_
      refine go_bipush (at_of tX10_insert 0 1 rfl) (by decide) ?_
      refine go_bipush (at_of tX10_insert 0 2 rfl) (by decide) ?_
      refine go_cS (m_in) lk_X10_124 rfl (at_of tX10_insert 0 3 rfl) rfl (by decide) rfl (Nat.le_of_ble_eq_true rfl) rfl (by first | decide | exact ⟨Nat.zero_le _, Nat.zero_le _⟩) ?_
      refine go_if_ne (tgt := 23) (at_of tX10_insert 0 4 rfl) (by decide) (fun h8 => ?_) (fun h8 => ?_)
      · exfalso; exact q1 (bI_1.mp h8)
      refine go_iload_n (at_of tX10_insert 0 5 rfl) rfl ?_
      refine go_bipush (at_of tX10_insert 0 6 rfl) (by decide) ?_
      refine go_icmp_eq (tgt := 23) (at_of tX10_insert 0 7 rfl) (by decide) (fun h14 => ?_) (fun h14 => ?_)
      · exfalso; omega
      refine go_iload_n (at_of tX10_insert 0 8 rfl) rfl ?_
      refine go_bipush (at_of tX10_insert 0 9 rfl) (by decide) ?_
      refine go_icmp_ne (tgt := 27) (at_of tX10_insert 0 10 rfl) (by decide) (fun h20 => ?_) (fun h20 => ?_)
      · exfalso; omega
      refine go_iconst (at_of tX10_insert 0 11 rfl) (by unfold in32; omega) ?_
      refine go_goto (tgt := 28) (at_of tX10_insert 0 12 rfl) (by decide) ?_
      refine go_istore (at_of tX10_insert 0 14 rfl) rfl rfl ?_
      refine go_aload_n (at_of tX10_insert 0 15 rfl) rfl ?_
      refine go_aload_n (at_of tX10_insert 1 0 rfl) rfl ?_
      refine go_iload_n (at_of tX10_insert 1 1 rfl) rfl ?_
      refine go_iload_n (at_of tX10_insert 1 2 rfl) rfl ?_
      refine go_iload (at_of tX10_insert 1 3 rfl) rfl rfl ?_
      refine go_iconst (at_of tX10_insert 1 4 rfl) (by unfold in32; omega) ?_
      refine go_cV (wf1 hfine) lk_X10_176 rfl G_109 (at_of tX10_insert 1 5 rfl) rfl (by decide) rfl (Nat.le_of_ble_eq_true rfl) rfl (by first | decide | exact ⟨Nat.zero_le _, Nat.zero_le _⟩) ?_
      refine go_cV (m_goesOn) lk_X10_141 rfl G_109 (at_of tX10_insert 1 6 rfl) rfl (by decide) rfl (Nat.le_of_ble_eq_true rfl) rfl (by first | decide | exact ⟨Nat.zero_le _, Nat.zero_le _⟩) ?_
      refine go_if_eq (tgt := 56) (at_of tX10_insert 1 7 rfl) (by decide) (fun h43 => ?_) (fun h43 => ?_)
      · exfalso; exact absurd h43 (by rw [bI_t rfl]; decide)
      refine go_aload_n (at_of tX10_insert 1 8 rfl) rfl ?_
      refine go_iload_n (at_of tX10_insert 1 9 rfl) rfl ?_
      refine go_iload_n (at_of tX10_insert 1 10 rfl) rfl ?_
      refine go_iload_n (at_of tX10_insert 1 11 rfl) rfl ?_
      refine go_cV (y1) lk_X10_180 rfl G_109 (at_of tX10_insert 1 12 rfl) rfl (by decide) rfl (Nat.le_of_ble_eq_true rfl) rfl (by first | decide | exact ⟨Nat.zero_le _, Nat.zero_le _⟩) ?_
      refine go_goto (tgt := 57) (at_of tX10_insert 1 13 rfl) (by decide) ?_
      first | exact go_reti (at_of tX10_insert 1 15 rfl) rfl | exact go_reti (at_of tX10_insert 1 15 rfl) (le_i (by omega)) | exact go_reti (at_of tX10_insert 1 15 rfl) (le_i (by first | exact bI_t (by omega) | exact bI_f (by omega)))
end Mod6
