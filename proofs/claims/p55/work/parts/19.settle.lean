section Settle
variable {σ : St} {k : Nat}
/-- what settling a change does to the row -/
def setlR (R : RowD) (kd c : Int) (acc : Bool) : RowD :=
  if kd = 105 then (if acc = true then upX (relF 2 c) R.2.1.toNat 0 R else dnX (drpF (fun R i => decide (R.1 2 i = c))) R.2.1.toNat (R.2.1 - 1) R)
  else if kd = 101 then (if acc = true then dnX (drpF (fun R i => decide (R.1 3 i = c))) R.2.1.toNat (R.2.1 - 1) R else upX (relF 3 c) R.2.1.toNat 0 R)
  else upX (styF c acc) (R.2.1 + 1).toNat 0 R
def setlD (D : PapD) (c : Int) (acc : Bool) : PapD := (setlR D.1 (D.2.1.2.1 c) c acc, sstL D.2.1 c (if acc = true then 97 else 114), D.2.2)
theorem setR_ne {R : RowD} {w i z w' j : Int} (h : ¬ (w' = w ∧ j = i)) : (setR R w i z).1 w' j = R.1 w' j := if_neg h
theorem con_settleUnits_rel (hS : Str σ.2.1) (hk : k < 8) {D : PapD} (hD : RepP σ k D) {w c : Int} (hw : 0 ≤ w ∧ w ≤ 10) : ∃ σ', Con 2 mX4_settleUnits 0 0 [vA (3 + 10 * k), vI w, vI c, vI 1] σ (vT 8 0, σ') ∧ RepP σ' k (upX (relF w c) D.1.2.1.toNat 0 D.1, D.2) ∧ Frm σ σ' (4 + 10 * k) (7 + 10 * k) := by
  obtain ⟨g1, g2, g3, g4, g5, g6, g7, g8, g9, g10⟩ := gamk k hk
  obtain ⟨p1, p2, p3, p4, p5, p6, p7, p8, p9⟩ := strk hS k hk
  have hR := hD.1
  have hL := hD.2.1.2.2.1
  have hn := hR.1
  obtain ⟨hw1, hw2, hw3⟩ := hR.2.2.2
  obtain ⟨σ', q1, q2, q3⟩ := con_releaseAll hS hk hR (c := c) hw
  refine ⟨σ', ?_, hD.row q3 q2, q3⟩
  refine con_of_go mfX4_settleUnits.1 trivial (Nat.le_of_ble_eq_true rfl) rfl (by decide) ?_
  show Go _ _ _ _ 0 [vA _, vI _, vI _, vI _] [] _ _
  refine go_iload_n (at_of tX4_settleUnits 0 0 rfl) rfl ?_
  refine go_if_eq (tgt := 16) (at_of tX4_settleUnits 0 1 rfl) (by decide) (fun h1 => ?_) (fun h1 => ?_)
  · exfalso; omega
  refine go_aload_n (at_of tX4_settleUnits 0 2 rfl) rfl ?_
  refine go_getr fl_X4_12 rfl (by first | rfl | assumption) (by first | assumption | exact p1 | exact p2 | exact p3 | exact p4 | exact p5 | exact p6) (at_of tX4_settleUnits 0 3 rfl) ?_
  refine go_iload_n (at_of tX4_settleUnits 0 4 rfl) rfl ?_
  refine go_iload_n (at_of tX4_settleUnits 0 5 rfl) rfl ?_
  refine go_cV (q1) lk_X4_102 rfl (by first | rfl | assumption) (at_of tX4_settleUnits 0 6 rfl) rfl (by decide) rfl (Nat.le_of_ble_eq_true rfl) rfl (by first | decide | exact ⟨Nat.zero_le _, Nat.zero_le _⟩) ?_
  refine go_goto (tgt := 25) (at_of tX4_settleUnits 0 7 rfl) (by decide) ?_
  exact go_retv (at_of tX4_settleUnits 0 13 rfl) rfl
theorem con_settleUnits_drp (hS : Str σ.2.1) (hk : k < 8) {D : PapD} (hD : RepP σ k D) {w c : Int} (hw : 0 ≤ w ∧ w ≤ 10) : ∃ σ', Con 2 mX4_settleUnits 0 0 [vA (3 + 10 * k), vI w, vI c, vI 0] σ (vT 8 0, σ') ∧ RepP σ' k (dnX (drpF (fun R i => decide (R.1 w i = c))) D.1.2.1.toNat (D.1.2.1 - 1) D.1, D.2) ∧ Frm σ σ' (4 + 10 * k) (7 + 10 * k) := by
  obtain ⟨g1, g2, g3, g4, g5, g6, g7, g8, g9, g10⟩ := gamk k hk
  obtain ⟨p1, p2, p3, p4, p5, p6, p7, p8, p9⟩ := strk hS k hk
  have hR := hD.1
  have hL := hD.2.1.2.2.1
  have hn := hR.1
  obtain ⟨hw1, hw2, hw3⟩ := hR.2.2.2
  obtain ⟨σ', q1, q2, q3⟩ := con_dropAll hS hk hR (c := c) hw
  refine ⟨σ', ?_, hD.row q3 q2, q3⟩
  refine con_of_go mfX4_settleUnits.1 trivial (Nat.le_of_ble_eq_true rfl) rfl (by decide) ?_
  show Go _ _ _ _ 0 [vA _, vI _, vI _, vI _] [] _ _
  refine go_iload_n (at_of tX4_settleUnits 0 0 rfl) rfl ?_
  refine go_if_eq (tgt := 16) (at_of tX4_settleUnits 0 1 rfl) (by decide) (fun h1 => ?_) (fun h1 => ?_)
  rotate_left
  · exfalso; omega
  refine go_aload_n (at_of tX4_settleUnits 0 8 rfl) rfl ?_
  refine go_getr fl_X4_12 rfl (by first | rfl | assumption) (by first | assumption | exact p1 | exact p2 | exact p3 | exact p4 | exact p5 | exact p6) (at_of tX4_settleUnits 0 9 rfl) ?_
  refine go_iload_n (at_of tX4_settleUnits 0 10 rfl) rfl ?_
  refine go_iload_n (at_of tX4_settleUnits 0 11 rfl) rfl ?_
  refine go_cV (q1) lk_X4_106 rfl (by first | rfl | assumption) (at_of tX4_settleUnits 0 12 rfl) rfl (by decide) rfl (Nat.le_of_ble_eq_true rfl) rfl (by first | decide | exact ⟨Nat.zero_le _, Nat.zero_le _⟩) ?_
  exact go_retv (at_of tX4_settleUnits 0 13 rfl) rfl
theorem con_settleStyleP (hS : Str σ.2.1) (hk : k < 8) {D : PapD} (hD : RepP σ k D) {c : Int} {acc : Bool} : ∃ σ', Con 1 mX7_settleStyle 0 0 [vA (4 + 10 * k), vI c, vI (bI (acc = true))] σ (vT 8 0, σ') ∧ RepP σ' k (upX (styF c acc) (D.1.2.1 + 1).toNat 0 D.1, D.2) ∧ Frm σ σ' (4 + 10 * k) (7 + 10 * k) := by
  obtain ⟨σ', q1, q2, q3⟩ := con_settleStyle hS hk hD.1 (c := c) (acc := acc)
  exact ⟨σ', q1, hD.row q3 q2, q3⟩
theorem con_settle (hS : Str σ.2.1) (hk : k < 8) {D : PapD} (hD : RepP σ k D) {c : Int} {acc : Bool} (hc : 0 ≤ c ∧ c < D.2.1.1) : ∃ σ', Con 3 mX4_settle 0 0 [vA (3 + 10 * k), vI c, vI (bI (acc = true))] σ (vI (concN D.1.1 D.1.2.1 c), σ') ∧ RepP σ' k (setlD D c acc) ∧ Frm σ σ' (4 + 10 * k) (11 + 10 * k) := by
  obtain ⟨g1, g2, g3, g4, g5, g6, g7, g8, g9, g10⟩ := gamk k hk
  obtain ⟨p1, p2, p3, p4, p5, p6, p7, p8, p9⟩ := strk hS k hk
  have hR := hD.1
  have hL := hD.2.1.2.2.1
  have hn := hR.1
  obtain ⟨hw1, hw2, hw3⟩ := hR.2.2.2
  have hlw := hD.2.1.2.2.2
  obtain ⟨l1, l2, l3⟩ := hlw
  have ec : concN (fA σ (5 + 10 * k)) (σ.1 (4 + 10 * k) 3) c = concN D.1.1 D.1.2.1 c := by rw [hn]; exact hR.eqF.concN c
  have hkd := (hD.2.1.2.1 c hc.1 hc.2).1
  have fin : ∀ {σ1 : St} {R1 : RowD} {z : Int}, RepP σ1 k (R1, D.2) → Frm σ σ1 (4 + 10 * k) (7 + 10 * k) → 0 ≤ z ∧ z < 65536 → RepP (M1 σ1 (11 + 10 * k) c z) k (R1, sstL D.2.1 c z, D.2.2) ∧ Frm σ (M1 σ1 (11 + 10 * k) c z) (4 + 10 * k) (11 + 10 * k) := by
    intro σ1 R1 z d1 f1 hz
    exact ⟨d1.log (M1_frm (by omega)) (rep_sst d1.2.1 hc hz), (f1.mono (by omega) (by omega)).trans (M1_frm (by omega))⟩
  unfold setlD setlR
  rcases l3 c hc.1 hc.2 with hkd' | hkd' | hkd' <;> rw [hkd'] at hkd ⊢ <;> cases acc
  · obtain ⟨σ1, q1, q2, q3⟩ := con_settleUnits_drp hS hk hD (w := 2) (c := c) (by omega)
    obtain ⟨d1, f1⟩ := fin q2 q3 (z := 114) (by omega)
    have hS1 : Str σ1.2.1 := by rw [q3.1]; exact hS
    obtain ⟨p1', p2', p3', p4', p5', p6', -⟩ := strk hS1 k hk
    refine ⟨_, ?_, d1, f1⟩
    refine con_of_go mfX4_settle.1 trivial (Nat.le_of_ble_eq_true rfl) rfl (by decide) ?_
    show Go _ _ _ _ 0 [vA _, vI _, vI _, vT 9 0] [] _ _
    refine go_aload_n (at_of tX4_settle 0 0 rfl) rfl ?_
    refine go_getr fl_X4_12 rfl (by first | rfl | assumption) (by first | assumption | exact p1 | exact p2 | exact p3 | exact p4 | exact p5 | exact p6) (at_of tX4_settle 0 1 rfl) ?_
    refine go_iload_n (at_of tX4_settle 0 2 rfl) rfl ?_
    refine go_cV (con_concerned (rowP (by exact hS) hk) hR.u) lk_X4_82 rfl (by first | rfl | assumption) (at_of tX4_settle 0 3 rfl) rfl (by decide) rfl (Nat.le_of_ble_eq_true rfl) rfl (by first | decide | exact ⟨Nat.zero_le _, Nat.zero_le _⟩) ?_
    refine go_istore_n (at_of tX4_settle 0 4 rfl) rfl rfl ?_
    refine go_aload_n (at_of tX4_settle 0 5 rfl) rfl ?_
    refine go_getr fl_X4_21 rfl (by first | rfl | assumption) (by first | assumption | exact p1 | exact p2 | exact p3 | exact p4 | exact p5 | exact p6) (at_of tX4_settle 0 6 rfl) ?_
    refine go_iload_n (at_of tX4_settle 0 7 rfl) rfl ?_
    refine go_cV (con_kindL hS hk hL (by omega)) lk_X4_86 rfl (by first | rfl | assumption) (at_of tX4_settle 0 8 rfl) rfl (by decide) rfl (Nat.le_of_ble_eq_true rfl) rfl (by first | decide | exact ⟨Nat.zero_le _, Nat.zero_le _⟩) ?_
    rw [hkd]
    refine go_lookup (tgt := 44) (at_of tX4_settle 0 9 rfl) (by decide) rfl (by decide) ?_
    refine go_aload_n (at_of tX4_settle 0 10 rfl) rfl ?_
    refine go_iconst (at_of tX4_settle 0 11 rfl) (by unfold in32; omega) ?_
    refine go_iload_n (at_of tX4_settle 0 12 rfl) rfl ?_
    refine go_iload_n (at_of tX4_settle 0 13 rfl) rfl ?_
    refine go_cV (q1) lk_X4_90 rfl (by first | rfl | assumption) (at_of tX4_settle 0 14 rfl) rfl (by decide) rfl (Nat.le_of_ble_eq_true rfl) rfl (by first | decide | exact ⟨Nat.zero_le _, Nat.zero_le _⟩) ?_
    refine go_goto (tgt := 81) (at_of tX4_settle 0 15 rfl) (by decide) ?_
    refine go_aload_n (at_of tX4_settle 1 15 rfl) rfl ?_
    refine go_getr fl_X4_21 rfl (by first | rfl | assumption) (by first | assumption | exact p1 | exact p2 | exact p3 | exact p4 | exact p5 | exact p6) (at_of tX4_settle 2 0 rfl) ?_
    refine go_iload_n (at_of tX4_settle 2 1 rfl) rfl ?_
    refine go_iload_n (at_of tX4_settle 2 2 rfl) rfl ?_
    refine go_if_eq (tgt := 95) (at_of tX4_settle 2 3 rfl) (by decide) (fun h87 => ?_) (fun h87 => ?_)
    rotate_left
    · exfalso; exact h87 rfl
    refine go_bipush (at_of tX4_settle 2 6 rfl) (by decide) ?_
    refine go_cV (con_setState (by rw [q3.1]; exact hS) hk (by omega)) lk_X4_98 rfl (by first | rfl | assumption) (at_of tX4_settle 2 7 rfl) rfl (by decide) rfl (Nat.le_of_ble_eq_true rfl) rfl (by first | decide | exact ⟨Nat.zero_le _, Nat.zero_le _⟩) ?_
    refine go_iload_n (at_of tX4_settle 2 8 rfl) rfl ?_
    exact go_reti (at_of tX4_settle 2 9 rfl) (by rw [ec])
  · obtain ⟨σ1, q1, q2, q3⟩ := con_settleUnits_rel hS hk hD (w := 2) (c := c) (by omega)
    obtain ⟨d1, f1⟩ := fin q2 q3 (z := 97) (by omega)
    have hS1 : Str σ1.2.1 := by rw [q3.1]; exact hS
    obtain ⟨p1', p2', p3', p4', p5', p6', -⟩ := strk hS1 k hk
    refine ⟨_, ?_, d1, f1⟩
    refine con_of_go mfX4_settle.1 trivial (Nat.le_of_ble_eq_true rfl) rfl (by decide) ?_
    show Go _ _ _ _ 0 [vA _, vI _, vI _, vT 9 0] [] _ _
    refine go_aload_n (at_of tX4_settle 0 0 rfl) rfl ?_
    refine go_getr fl_X4_12 rfl (by first | rfl | assumption) (by first | assumption | exact p1 | exact p2 | exact p3 | exact p4 | exact p5 | exact p6) (at_of tX4_settle 0 1 rfl) ?_
    refine go_iload_n (at_of tX4_settle 0 2 rfl) rfl ?_
    refine go_cV (con_concerned (rowP (by exact hS) hk) hR.u) lk_X4_82 rfl (by first | rfl | assumption) (at_of tX4_settle 0 3 rfl) rfl (by decide) rfl (Nat.le_of_ble_eq_true rfl) rfl (by first | decide | exact ⟨Nat.zero_le _, Nat.zero_le _⟩) ?_
    refine go_istore_n (at_of tX4_settle 0 4 rfl) rfl rfl ?_
    refine go_aload_n (at_of tX4_settle 0 5 rfl) rfl ?_
    refine go_getr fl_X4_21 rfl (by first | rfl | assumption) (by first | assumption | exact p1 | exact p2 | exact p3 | exact p4 | exact p5 | exact p6) (at_of tX4_settle 0 6 rfl) ?_
    refine go_iload_n (at_of tX4_settle 0 7 rfl) rfl ?_
    refine go_cV (con_kindL hS hk hL (by omega)) lk_X4_86 rfl (by first | rfl | assumption) (at_of tX4_settle 0 8 rfl) rfl (by decide) rfl (Nat.le_of_ble_eq_true rfl) rfl (by first | decide | exact ⟨Nat.zero_le _, Nat.zero_le _⟩) ?_
    rw [hkd]
    refine go_lookup (tgt := 44) (at_of tX4_settle 0 9 rfl) (by decide) rfl (by decide) ?_
    refine go_aload_n (at_of tX4_settle 0 10 rfl) rfl ?_
    refine go_iconst (at_of tX4_settle 0 11 rfl) (by unfold in32; omega) ?_
    refine go_iload_n (at_of tX4_settle 0 12 rfl) rfl ?_
    refine go_iload_n (at_of tX4_settle 0 13 rfl) rfl ?_
    refine go_cV (q1) lk_X4_90 rfl (by first | rfl | assumption) (at_of tX4_settle 0 14 rfl) rfl (by decide) rfl (Nat.le_of_ble_eq_true rfl) rfl (by first | decide | exact ⟨Nat.zero_le _, Nat.zero_le _⟩) ?_
    refine go_goto (tgt := 81) (at_of tX4_settle 0 15 rfl) (by decide) ?_
    refine go_aload_n (at_of tX4_settle 1 15 rfl) rfl ?_
    refine go_getr fl_X4_21 rfl (by first | rfl | assumption) (by first | assumption | exact p1 | exact p2 | exact p3 | exact p4 | exact p5 | exact p6) (at_of tX4_settle 2 0 rfl) ?_
    refine go_iload_n (at_of tX4_settle 2 1 rfl) rfl ?_
    refine go_iload_n (at_of tX4_settle 2 2 rfl) rfl ?_
    refine go_if_eq (tgt := 95) (at_of tX4_settle 2 3 rfl) (by decide) (fun h87 => ?_) (fun h87 => ?_)
    · exfalso; exact absurd h87 (by decide)
    refine go_bipush (at_of tX4_settle 2 4 rfl) (by decide) ?_
    refine go_goto (tgt := 97) (at_of tX4_settle 2 5 rfl) (by decide) ?_
    refine go_cV (con_setState (by rw [q3.1]; exact hS) hk (by omega)) lk_X4_98 rfl (by first | rfl | assumption) (at_of tX4_settle 2 7 rfl) rfl (by decide) rfl (Nat.le_of_ble_eq_true rfl) rfl (by first | decide | exact ⟨Nat.zero_le _, Nat.zero_le _⟩) ?_
    refine go_iload_n (at_of tX4_settle 2 8 rfl) rfl ?_
    exact go_reti (at_of tX4_settle 2 9 rfl) (by rw [ec])
  · obtain ⟨σ1, q1, q2, q3⟩ := con_settleUnits_rel hS hk hD (w := 3) (c := c) (by omega)
    obtain ⟨d1, f1⟩ := fin q2 q3 (z := 114) (by omega)
    have hS1 : Str σ1.2.1 := by rw [q3.1]; exact hS
    obtain ⟨p1', p2', p3', p4', p5', p6', -⟩ := strk hS1 k hk
    refine ⟨_, ?_, d1, f1⟩
    refine con_of_go mfX4_settle.1 trivial (Nat.le_of_ble_eq_true rfl) rfl (by decide) ?_
    show Go _ _ _ _ 0 [vA _, vI _, vI _, vT 9 0] [] _ _
    refine go_aload_n (at_of tX4_settle 0 0 rfl) rfl ?_
    refine go_getr fl_X4_12 rfl (by first | rfl | assumption) (by first | assumption | exact p1 | exact p2 | exact p3 | exact p4 | exact p5 | exact p6) (at_of tX4_settle 0 1 rfl) ?_
    refine go_iload_n (at_of tX4_settle 0 2 rfl) rfl ?_
    refine go_cV (con_concerned (rowP (by exact hS) hk) hR.u) lk_X4_82 rfl (by first | rfl | assumption) (at_of tX4_settle 0 3 rfl) rfl (by decide) rfl (Nat.le_of_ble_eq_true rfl) rfl (by first | decide | exact ⟨Nat.zero_le _, Nat.zero_le _⟩) ?_
    refine go_istore_n (at_of tX4_settle 0 4 rfl) rfl rfl ?_
    refine go_aload_n (at_of tX4_settle 0 5 rfl) rfl ?_
    refine go_getr fl_X4_21 rfl (by first | rfl | assumption) (by first | assumption | exact p1 | exact p2 | exact p3 | exact p4 | exact p5 | exact p6) (at_of tX4_settle 0 6 rfl) ?_
    refine go_iload_n (at_of tX4_settle 0 7 rfl) rfl ?_
    refine go_cV (con_kindL hS hk hL (by omega)) lk_X4_86 rfl (by first | rfl | assumption) (at_of tX4_settle 0 8 rfl) rfl (by decide) rfl (Nat.le_of_ble_eq_true rfl) rfl (by first | decide | exact ⟨Nat.zero_le _, Nat.zero_le _⟩) ?_
    rw [hkd]
    refine go_lookup (tgt := 54) (at_of tX4_settle 0 9 rfl) (by decide) rfl (by decide) ?_
    refine go_aload_n (at_of tX4_settle 1 0 rfl) rfl ?_
    refine go_iconst (at_of tX4_settle 1 1 rfl) (by unfold in32; omega) ?_
    refine go_iload_n (at_of tX4_settle 1 2 rfl) rfl ?_
    refine go_iload_n (at_of tX4_settle 1 3 rfl) rfl ?_
    refine go_if_ne (tgt := 65) (at_of tX4_settle 1 4 rfl) (by decide) (fun h58 => ?_) (fun h58 => ?_)
    · exfalso; exact h58 rfl
    refine go_iconst (at_of tX4_settle 1 5 rfl) (by unfold in32; omega) ?_
    refine go_goto (tgt := 66) (at_of tX4_settle 1 6 rfl) (by decide) ?_
    refine go_cV (q1) lk_X4_90 rfl (by first | rfl | assumption) (at_of tX4_settle 1 8 rfl) rfl (by decide) rfl (Nat.le_of_ble_eq_true rfl) rfl (by first | decide | exact ⟨Nat.zero_le _, Nat.zero_le _⟩) ?_
    refine go_goto (tgt := 81) (at_of tX4_settle 1 9 rfl) (by decide) ?_
    refine go_aload_n (at_of tX4_settle 1 15 rfl) rfl ?_
    refine go_getr fl_X4_21 rfl (by first | rfl | assumption) (by first | assumption | exact p1 | exact p2 | exact p3 | exact p4 | exact p5 | exact p6) (at_of tX4_settle 2 0 rfl) ?_
    refine go_iload_n (at_of tX4_settle 2 1 rfl) rfl ?_
    refine go_iload_n (at_of tX4_settle 2 2 rfl) rfl ?_
    refine go_if_eq (tgt := 95) (at_of tX4_settle 2 3 rfl) (by decide) (fun h87 => ?_) (fun h87 => ?_)
    rotate_left
    · exfalso; exact h87 rfl
    refine go_bipush (at_of tX4_settle 2 6 rfl) (by decide) ?_
    refine go_cV (con_setState (by rw [q3.1]; exact hS) hk (by omega)) lk_X4_98 rfl (by first | rfl | assumption) (at_of tX4_settle 2 7 rfl) rfl (by decide) rfl (Nat.le_of_ble_eq_true rfl) rfl (by first | decide | exact ⟨Nat.zero_le _, Nat.zero_le _⟩) ?_
    refine go_iload_n (at_of tX4_settle 2 8 rfl) rfl ?_
    exact go_reti (at_of tX4_settle 2 9 rfl) (by rw [ec])
  · obtain ⟨σ1, q1, q2, q3⟩ := con_settleUnits_drp hS hk hD (w := 3) (c := c) (by omega)
    obtain ⟨d1, f1⟩ := fin q2 q3 (z := 97) (by omega)
    have hS1 : Str σ1.2.1 := by rw [q3.1]; exact hS
    obtain ⟨p1', p2', p3', p4', p5', p6', -⟩ := strk hS1 k hk
    refine ⟨_, ?_, d1, f1⟩
    refine con_of_go mfX4_settle.1 trivial (Nat.le_of_ble_eq_true rfl) rfl (by decide) ?_
    show Go _ _ _ _ 0 [vA _, vI _, vI _, vT 9 0] [] _ _
    refine go_aload_n (at_of tX4_settle 0 0 rfl) rfl ?_
    refine go_getr fl_X4_12 rfl (by first | rfl | assumption) (by first | assumption | exact p1 | exact p2 | exact p3 | exact p4 | exact p5 | exact p6) (at_of tX4_settle 0 1 rfl) ?_
    refine go_iload_n (at_of tX4_settle 0 2 rfl) rfl ?_
    refine go_cV (con_concerned (rowP (by exact hS) hk) hR.u) lk_X4_82 rfl (by first | rfl | assumption) (at_of tX4_settle 0 3 rfl) rfl (by decide) rfl (Nat.le_of_ble_eq_true rfl) rfl (by first | decide | exact ⟨Nat.zero_le _, Nat.zero_le _⟩) ?_
    refine go_istore_n (at_of tX4_settle 0 4 rfl) rfl rfl ?_
    refine go_aload_n (at_of tX4_settle 0 5 rfl) rfl ?_
    refine go_getr fl_X4_21 rfl (by first | rfl | assumption) (by first | assumption | exact p1 | exact p2 | exact p3 | exact p4 | exact p5 | exact p6) (at_of tX4_settle 0 6 rfl) ?_
    refine go_iload_n (at_of tX4_settle 0 7 rfl) rfl ?_
    refine go_cV (con_kindL hS hk hL (by omega)) lk_X4_86 rfl (by first | rfl | assumption) (at_of tX4_settle 0 8 rfl) rfl (by decide) rfl (Nat.le_of_ble_eq_true rfl) rfl (by first | decide | exact ⟨Nat.zero_le _, Nat.zero_le _⟩) ?_
    rw [hkd]
    refine go_lookup (tgt := 54) (at_of tX4_settle 0 9 rfl) (by decide) rfl (by decide) ?_
    refine go_aload_n (at_of tX4_settle 1 0 rfl) rfl ?_
    refine go_iconst (at_of tX4_settle 1 1 rfl) (by unfold in32; omega) ?_
    refine go_iload_n (at_of tX4_settle 1 2 rfl) rfl ?_
    refine go_iload_n (at_of tX4_settle 1 3 rfl) rfl ?_
    refine go_if_ne (tgt := 65) (at_of tX4_settle 1 4 rfl) (by decide) (fun h58 => ?_) (fun h58 => ?_)
    rotate_left
    · exfalso; exact absurd h58 (by decide)
    refine go_iconst (at_of tX4_settle 1 7 rfl) (by unfold in32; omega) ?_
    refine go_cV (q1) lk_X4_90 rfl (by first | rfl | assumption) (at_of tX4_settle 1 8 rfl) rfl (by decide) rfl (Nat.le_of_ble_eq_true rfl) rfl (by first | decide | exact ⟨Nat.zero_le _, Nat.zero_le _⟩) ?_
    refine go_goto (tgt := 81) (at_of tX4_settle 1 9 rfl) (by decide) ?_
    refine go_aload_n (at_of tX4_settle 1 15 rfl) rfl ?_
    refine go_getr fl_X4_21 rfl (by first | rfl | assumption) (by first | assumption | exact p1 | exact p2 | exact p3 | exact p4 | exact p5 | exact p6) (at_of tX4_settle 2 0 rfl) ?_
    refine go_iload_n (at_of tX4_settle 2 1 rfl) rfl ?_
    refine go_iload_n (at_of tX4_settle 2 2 rfl) rfl ?_
    refine go_if_eq (tgt := 95) (at_of tX4_settle 2 3 rfl) (by decide) (fun h87 => ?_) (fun h87 => ?_)
    · exfalso; exact absurd h87 (by decide)
    refine go_bipush (at_of tX4_settle 2 4 rfl) (by decide) ?_
    refine go_goto (tgt := 97) (at_of tX4_settle 2 5 rfl) (by decide) ?_
    refine go_cV (con_setState (by rw [q3.1]; exact hS) hk (by omega)) lk_X4_98 rfl (by first | rfl | assumption) (at_of tX4_settle 2 7 rfl) rfl (by decide) rfl (Nat.le_of_ble_eq_true rfl) rfl (by first | decide | exact ⟨Nat.zero_le _, Nat.zero_le _⟩) ?_
    refine go_iload_n (at_of tX4_settle 2 8 rfl) rfl ?_
    exact go_reti (at_of tX4_settle 2 9 rfl) (by rw [ec])
  · obtain ⟨σ1, q1, q2, q3⟩ := con_settleStyleP hS hk hD (c := c) (acc := false)
    obtain ⟨d1, f1⟩ := fin q2 q3 (z := 114) (by omega)
    have hS1 : Str σ1.2.1 := by rw [q3.1]; exact hS
    obtain ⟨p1', p2', p3', p4', p5', p6', -⟩ := strk hS1 k hk
    refine ⟨_, ?_, d1, f1⟩
    refine con_of_go mfX4_settle.1 trivial (Nat.le_of_ble_eq_true rfl) rfl (by decide) ?_
    show Go _ _ _ _ 0 [vA _, vI _, vI _, vT 9 0] [] _ _
    refine go_aload_n (at_of tX4_settle 0 0 rfl) rfl ?_
    refine go_getr fl_X4_12 rfl (by first | rfl | assumption) (by first | assumption | exact p1 | exact p2 | exact p3 | exact p4 | exact p5 | exact p6) (at_of tX4_settle 0 1 rfl) ?_
    refine go_iload_n (at_of tX4_settle 0 2 rfl) rfl ?_
    refine go_cV (con_concerned (rowP (by exact hS) hk) hR.u) lk_X4_82 rfl (by first | rfl | assumption) (at_of tX4_settle 0 3 rfl) rfl (by decide) rfl (Nat.le_of_ble_eq_true rfl) rfl (by first | decide | exact ⟨Nat.zero_le _, Nat.zero_le _⟩) ?_
    refine go_istore_n (at_of tX4_settle 0 4 rfl) rfl rfl ?_
    refine go_aload_n (at_of tX4_settle 0 5 rfl) rfl ?_
    refine go_getr fl_X4_21 rfl (by first | rfl | assumption) (by first | assumption | exact p1 | exact p2 | exact p3 | exact p4 | exact p5 | exact p6) (at_of tX4_settle 0 6 rfl) ?_
    refine go_iload_n (at_of tX4_settle 0 7 rfl) rfl ?_
    refine go_cV (con_kindL hS hk hL (by omega)) lk_X4_86 rfl (by first | rfl | assumption) (at_of tX4_settle 0 8 rfl) rfl (by decide) rfl (Nat.le_of_ble_eq_true rfl) rfl (by first | decide | exact ⟨Nat.zero_le _, Nat.zero_le _⟩) ?_
    rw [hkd]
    refine go_lookup (tgt := 72) (at_of tX4_settle 0 9 rfl) (by decide) rfl (by decide) ?_
    refine go_aload_n (at_of tX4_settle 1 10 rfl) rfl ?_
    refine go_getr fl_X4_12 rfl (by first | rfl | assumption) (by first | assumption | exact p1 | exact p2 | exact p3 | exact p4 | exact p5 | exact p6) (at_of tX4_settle 1 11 rfl) ?_
    refine go_iload_n (at_of tX4_settle 1 12 rfl) rfl ?_
    refine go_iload_n (at_of tX4_settle 1 13 rfl) rfl ?_
    refine go_cV (q1) lk_X4_94 rfl (by first | rfl | assumption) (at_of tX4_settle 1 14 rfl) rfl (by decide) rfl (Nat.le_of_ble_eq_true rfl) rfl (by first | decide | exact ⟨Nat.zero_le _, Nat.zero_le _⟩) ?_
    refine go_aload_n (at_of tX4_settle 1 15 rfl) rfl ?_
    refine go_getr fl_X4_21 rfl (by first | rfl | assumption) (by first | assumption | exact p1 | exact p2 | exact p3 | exact p4 | exact p5 | exact p6) (at_of tX4_settle 2 0 rfl) ?_
    refine go_iload_n (at_of tX4_settle 2 1 rfl) rfl ?_
    refine go_iload_n (at_of tX4_settle 2 2 rfl) rfl ?_
    refine go_if_eq (tgt := 95) (at_of tX4_settle 2 3 rfl) (by decide) (fun h87 => ?_) (fun h87 => ?_)
    rotate_left
    · exfalso; exact h87 rfl
    refine go_bipush (at_of tX4_settle 2 6 rfl) (by decide) ?_
    refine go_cV (con_setState (by rw [q3.1]; exact hS) hk (by omega)) lk_X4_98 rfl (by first | rfl | assumption) (at_of tX4_settle 2 7 rfl) rfl (by decide) rfl (Nat.le_of_ble_eq_true rfl) rfl (by first | decide | exact ⟨Nat.zero_le _, Nat.zero_le _⟩) ?_
    refine go_iload_n (at_of tX4_settle 2 8 rfl) rfl ?_
    exact go_reti (at_of tX4_settle 2 9 rfl) (by rw [ec])
  · obtain ⟨σ1, q1, q2, q3⟩ := con_settleStyleP hS hk hD (c := c) (acc := true)
    obtain ⟨d1, f1⟩ := fin q2 q3 (z := 97) (by omega)
    have hS1 : Str σ1.2.1 := by rw [q3.1]; exact hS
    obtain ⟨p1', p2', p3', p4', p5', p6', -⟩ := strk hS1 k hk
    refine ⟨_, ?_, d1, f1⟩
    refine con_of_go mfX4_settle.1 trivial (Nat.le_of_ble_eq_true rfl) rfl (by decide) ?_
    show Go _ _ _ _ 0 [vA _, vI _, vI _, vT 9 0] [] _ _
    refine go_aload_n (at_of tX4_settle 0 0 rfl) rfl ?_
    refine go_getr fl_X4_12 rfl (by first | rfl | assumption) (by first | assumption | exact p1 | exact p2 | exact p3 | exact p4 | exact p5 | exact p6) (at_of tX4_settle 0 1 rfl) ?_
    refine go_iload_n (at_of tX4_settle 0 2 rfl) rfl ?_
    refine go_cV (con_concerned (rowP (by exact hS) hk) hR.u) lk_X4_82 rfl (by first | rfl | assumption) (at_of tX4_settle 0 3 rfl) rfl (by decide) rfl (Nat.le_of_ble_eq_true rfl) rfl (by first | decide | exact ⟨Nat.zero_le _, Nat.zero_le _⟩) ?_
    refine go_istore_n (at_of tX4_settle 0 4 rfl) rfl rfl ?_
    refine go_aload_n (at_of tX4_settle 0 5 rfl) rfl ?_
    refine go_getr fl_X4_21 rfl (by first | rfl | assumption) (by first | assumption | exact p1 | exact p2 | exact p3 | exact p4 | exact p5 | exact p6) (at_of tX4_settle 0 6 rfl) ?_
    refine go_iload_n (at_of tX4_settle 0 7 rfl) rfl ?_
    refine go_cV (con_kindL hS hk hL (by omega)) lk_X4_86 rfl (by first | rfl | assumption) (at_of tX4_settle 0 8 rfl) rfl (by decide) rfl (Nat.le_of_ble_eq_true rfl) rfl (by first | decide | exact ⟨Nat.zero_le _, Nat.zero_le _⟩) ?_
    rw [hkd]
    refine go_lookup (tgt := 72) (at_of tX4_settle 0 9 rfl) (by decide) rfl (by decide) ?_
    refine go_aload_n (at_of tX4_settle 1 10 rfl) rfl ?_
    refine go_getr fl_X4_12 rfl (by first | rfl | assumption) (by first | assumption | exact p1 | exact p2 | exact p3 | exact p4 | exact p5 | exact p6) (at_of tX4_settle 1 11 rfl) ?_
    refine go_iload_n (at_of tX4_settle 1 12 rfl) rfl ?_
    refine go_iload_n (at_of tX4_settle 1 13 rfl) rfl ?_
    refine go_cV (q1) lk_X4_94 rfl (by first | rfl | assumption) (at_of tX4_settle 1 14 rfl) rfl (by decide) rfl (Nat.le_of_ble_eq_true rfl) rfl (by first | decide | exact ⟨Nat.zero_le _, Nat.zero_le _⟩) ?_
    refine go_aload_n (at_of tX4_settle 1 15 rfl) rfl ?_
    refine go_getr fl_X4_21 rfl (by first | rfl | assumption) (by first | assumption | exact p1 | exact p2 | exact p3 | exact p4 | exact p5 | exact p6) (at_of tX4_settle 2 0 rfl) ?_
    refine go_iload_n (at_of tX4_settle 2 1 rfl) rfl ?_
    refine go_iload_n (at_of tX4_settle 2 2 rfl) rfl ?_
    refine go_if_eq (tgt := 95) (at_of tX4_settle 2 3 rfl) (by decide) (fun h87 => ?_) (fun h87 => ?_)
    · exfalso; exact absurd h87 (by decide)
    refine go_bipush (at_of tX4_settle 2 4 rfl) (by decide) ?_
    refine go_goto (tgt := 97) (at_of tX4_settle 2 5 rfl) (by decide) ?_
    refine go_cV (con_setState (by rw [q3.1]; exact hS) hk (by omega)) lk_X4_98 rfl (by first | rfl | assumption) (at_of tX4_settle 2 7 rfl) rfl (by decide) rfl (Nat.le_of_ble_eq_true rfl) rfl (by first | decide | exact ⟨Nat.zero_le _, Nat.zero_le _⟩) ?_
    refine go_iload_n (at_of tX4_settle 2 8 rfl) rfl ?_
    exact go_reti (at_of tX4_settle 2 9 rfl) (by rw [ec])
/-- all of an author's changes that wait, settled one by one -/
def stlF (a : Int) (acc : Bool) (A : PapD × Int) (c : Int) : PapD × Int := if A.1.2.1.2.2.2 c = 119 ∧ (a = -1 ∨ A.1.2.1.2.2.1 c = a) then (setlD A.1 c acc, A.2 + 1) else A
def stlAll (D : PapD) (a : Int) (acc : Bool) : PapD × Int := upX (stlF a acc) D.2.1.1.toNat 0 (D, 0)
theorem con_settleAll (hS : Str σ.2.1) (hk : k < 8) {D : PapD} (hD : RepP σ k D) {a : Int} {acc : Bool} : ∃ σ', Con 4 mX4_settleAll 0 0 [vA (3 + 10 * k), vI a, vI (bI (acc = true))] σ (vI (stlAll D a acc).2, σ') ∧ RepP σ' k (stlAll D a acc).1 ∧ Frm σ σ' (4 + 10 * k) (11 + 10 * k) := by
  have hlw := hD.2.1.2.2.2
  have key := loop_up (α := PapD × Int) (Rep := fun σ' A i => RepP σ' k A.1 ∧ Frm σ σ' (4 + 10 * k) (11 + 10 * k) ∧ 0 ≤ i ∧ A.1.2.1.1 = D.2.1.1 ∧ 0 ≤ A.2 ∧ A.2 ≤ i) (f := stlF a acc) (hi := D.2.1.1)
    (G := fun b A i σ out => Go (fun _ => 0) 4 mX4_settleAll b 5 [vA (3 + 10 * k), vI a, vI (bI (acc = true)), vI A.2, vI i] [] σ out) (fun σ A i h hlo => ?_) D.2.1.1.toNat σ (D, 0) 0 ⟨hD, Frm.refl, by omega, rfl, by simp, by simp⟩ (by have := hlw.1; omega)
  · obtain ⟨σ', ⟨q1, q2, -, hcc, -⟩, q3⟩ := key
    refine ⟨σ', ?_, q1, q2⟩
    obtain ⟨g1, g2, g3, g4, g5, g6, g7, g8, g9, g10⟩ := gamk k hk
    obtain ⟨p1, p2, p3, p4, p5, p6, p7, p8, p9⟩ := strk hS k hk
    have hSf : Str σ'.2.1 := by rw [q2.1]; exact hS
    obtain ⟨p1', p2', p3', p4', p5', p6', -⟩ := strk hSf k hk
    have hmf := q1.2.1.1
    refine con_of_go mfX4_settleAll.1 trivial (Nat.le_of_ble_eq_true rfl) rfl (by decide) ?_
    show Go _ _ _ _ 0 [vA _, vI _, vI _, vT 9 0, vT 9 0] [] _ _
    refine go_iconst (at_of tX4_settleAll 0 0 rfl) (by unfold in32; omega) ?_
    refine go_istore_n (at_of tX4_settleAll 0 1 rfl) rfl rfl ?_
    refine go_iconst (at_of tX4_settleAll 0 2 rfl) (by unfold in32; omega) ?_
    refine go_istore (at_of tX4_settleAll 0 3 rfl) rfl rfl ?_
    refine q3 _ _ (fun b => ?_)
    refine go_iload (at_of tX4_settleAll 0 4 rfl) rfl rfl ?_
    refine go_aload_n (at_of tX4_settleAll 0 5 rfl) rfl ?_
    refine go_getr fl_X4_21 rfl (by first | rfl | assumption) (by first | assumption | exact p1 | exact p2 | exact p3 | exact p4 | exact p5 | exact p6) (at_of tX4_settleAll 0 6 rfl) ?_
    refine go_cV (con_many (by exact hSf) hk) lk_X4_109 rfl (by first | rfl | assumption) (at_of tX4_settleAll 0 7 rfl) rfl (by decide) rfl (Nat.le_of_ble_eq_true rfl) rfl (by first | decide | exact ⟨Nat.zero_le _, Nat.zero_le _⟩) ?_
    refine go_icmp_ge (tgt := 66) (at_of tX4_settleAll 0 8 rfl) (by decide) (fun h14 => ?_) (fun h14 => ?_)
    rotate_left
    · exfalso; rw [hmf] at h14; omega
    refine go_iload_n (at_of tX4_settleAll 2 0 rfl) rfl ?_
    exact go_reti (at_of tX4_settleAll 2 1 rfl) rfl
  · obtain ⟨hP, hF, hi, hcc, hj, hji⟩ := h
    obtain ⟨g1, g2, g3, g4, g5, g6, g7, g8, g9, g10⟩ := gamk k hk
    have hS : Str σ.2.1 := by rw [hF.1]; exact hS
    obtain ⟨p1, p2, p3, p4, p5, p6, p7, p8, p9⟩ := strk hS k hk
    have hL := hP.2.1.2.2.1
    have hm := hP.2.1.1
    have hv := hP.2.1.2.1 i hi (by omega)
    have hlw' := hP.2.1.2.2.2
    obtain ⟨l1, l2, l3⟩ := hlw'
    by_cases hc : A.1.2.1.2.2.2 i = 119 ∧ (a = -1 ∨ A.1.2.1.2.2.1 i = a)
    · have e9 : stlF a acc A i = (setlD A.1 i acc, A.2 + 1) := if_pos hc
      rw [e9]
      obtain ⟨σ1, q1, q2, q3⟩ := con_settle hS hk hP (c := i) (acc := acc) ⟨hi, by omega⟩
      refine ⟨σ1, ⟨q2, hF.trans q3, by omega, hcc, by show 0 ≤ A.2 + 1; omega, by show A.2 + 1 ≤ i + 1; omega⟩, fun b out K => ?_⟩
      have hgt : σ.1 (11 + 10 * k) i.toNat = 119 := hv.2.2.trans hc.1
      by_cases ha : a = -1
      · refine go_iload (at_of tX4_settleAll 0 4 rfl) rfl rfl ?_
        refine go_aload_n (at_of tX4_settleAll 0 5 rfl) rfl ?_
        refine go_getr fl_X4_21 rfl (by first | rfl | assumption) (by first | assumption | exact p1 | exact p2 | exact p3 | exact p4 | exact p5 | exact p6) (at_of tX4_settleAll 0 6 rfl) ?_
        refine go_cV (con_many (by exact hS) hk) lk_X4_109 rfl (by first | rfl | assumption) (at_of tX4_settleAll 0 7 rfl) rfl (by decide) rfl (Nat.le_of_ble_eq_true rfl) rfl (by first | decide | exact ⟨Nat.zero_le _, Nat.zero_le _⟩) ?_
        refine go_icmp_ge (tgt := 66) (at_of tX4_settleAll 0 8 rfl) (by decide) (fun h14 => ?_) (fun h14 => ?_)
        · exfalso; rw [hm] at h14; omega
        refine go_aload_n (at_of tX4_settleAll 0 9 rfl) rfl ?_
        refine go_getr fl_X4_21 rfl (by first | rfl | assumption) (by first | assumption | exact p1 | exact p2 | exact p3 | exact p4 | exact p5 | exact p6) (at_of tX4_settleAll 0 10 rfl) ?_
        refine go_iload (at_of tX4_settleAll 0 11 rfl) rfl rfl ?_
        refine go_cV (con_stateL hS hk hL (by omega)) lk_X4_113 rfl (by first | rfl | assumption) (at_of tX4_settleAll 0 12 rfl) rfl (by decide) rfl (Nat.le_of_ble_eq_true rfl) rfl (by first | decide | exact ⟨Nat.zero_le _, Nat.zero_le _⟩) ?_
        refine go_bipush (at_of tX4_settleAll 0 13 rfl) (by decide) ?_
        refine go_icmp_ne (tgt := 60) (at_of tX4_settleAll 0 14 rfl) (by decide) (fun h28 => ?_) (fun h28 => ?_)
        · exfalso; omega
        refine go_iload_n (at_of tX4_settleAll 0 15 rfl) rfl ?_
        refine go_iconst (at_of tX4_settleAll 1 0 rfl) (by unfold in32; omega) ?_
        refine go_icmp_eq (tgt := 49) (at_of tX4_settleAll 1 1 rfl) (by decide) (fun h33 => ?_) (fun h33 => ?_)
        rotate_left
        · exfalso; omega
        refine go_aload_n (at_of tX4_settleAll 1 8 rfl) rfl ?_
        refine go_iload (at_of tX4_settleAll 1 9 rfl) rfl rfl ?_
        refine go_iload_n (at_of tX4_settleAll 1 10 rfl) rfl ?_
        refine go_cV (q1) lk_X4_78 rfl (by first | rfl | assumption) (at_of tX4_settleAll 1 11 rfl) rfl (by decide) rfl (Nat.le_of_ble_eq_true rfl) rfl (by first | decide | exact ⟨Nat.zero_le _, Nat.zero_le _⟩) ?_
        refine go_pop (at_of tX4_settleAll 1 12 rfl) rfl ?_
        refine go_iinc (at_of tX4_settleAll 1 13 rfl) rfl (by unfold in32; omega) rfl rfl ?_
        refine go_iinc (at_of tX4_settleAll 1 14 rfl) rfl (by unfold in32; omega) rfl rfl ?_
        refine go_goto (tgt := 5) (at_of tX4_settleAll 1 15 rfl) (by decide) ?_
        exact K _
      · have hga : σ.1 (10 + 10 * k) i.toNat = a := hv.2.1.trans (hc.2.resolve_left ha)
        refine go_iload (at_of tX4_settleAll 0 4 rfl) rfl rfl ?_
        refine go_aload_n (at_of tX4_settleAll 0 5 rfl) rfl ?_
        refine go_getr fl_X4_21 rfl (by first | rfl | assumption) (by first | assumption | exact p1 | exact p2 | exact p3 | exact p4 | exact p5 | exact p6) (at_of tX4_settleAll 0 6 rfl) ?_
        refine go_cV (con_many (by exact hS) hk) lk_X4_109 rfl (by first | rfl | assumption) (at_of tX4_settleAll 0 7 rfl) rfl (by decide) rfl (Nat.le_of_ble_eq_true rfl) rfl (by first | decide | exact ⟨Nat.zero_le _, Nat.zero_le _⟩) ?_
        refine go_icmp_ge (tgt := 66) (at_of tX4_settleAll 0 8 rfl) (by decide) (fun h14 => ?_) (fun h14 => ?_)
        · exfalso; rw [hm] at h14; omega
        refine go_aload_n (at_of tX4_settleAll 0 9 rfl) rfl ?_
        refine go_getr fl_X4_21 rfl (by first | rfl | assumption) (by first | assumption | exact p1 | exact p2 | exact p3 | exact p4 | exact p5 | exact p6) (at_of tX4_settleAll 0 10 rfl) ?_
        refine go_iload (at_of tX4_settleAll 0 11 rfl) rfl rfl ?_
        refine go_cV (con_stateL hS hk hL (by omega)) lk_X4_113 rfl (by first | rfl | assumption) (at_of tX4_settleAll 0 12 rfl) rfl (by decide) rfl (Nat.le_of_ble_eq_true rfl) rfl (by first | decide | exact ⟨Nat.zero_le _, Nat.zero_le _⟩) ?_
        refine go_bipush (at_of tX4_settleAll 0 13 rfl) (by decide) ?_
        refine go_icmp_ne (tgt := 60) (at_of tX4_settleAll 0 14 rfl) (by decide) (fun h28 => ?_) (fun h28 => ?_)
        · exfalso; omega
        refine go_iload_n (at_of tX4_settleAll 0 15 rfl) rfl ?_
        refine go_iconst (at_of tX4_settleAll 1 0 rfl) (by unfold in32; omega) ?_
        refine go_icmp_eq (tgt := 49) (at_of tX4_settleAll 1 1 rfl) (by decide) (fun h33 => ?_) (fun h33 => ?_)
        · exfalso; omega
        refine go_aload_n (at_of tX4_settleAll 1 2 rfl) rfl ?_
        refine go_getr fl_X4_21 rfl (by first | rfl | assumption) (by first | assumption | exact p1 | exact p2 | exact p3 | exact p4 | exact p5 | exact p6) (at_of tX4_settleAll 1 3 rfl) ?_
        refine go_iload (at_of tX4_settleAll 1 4 rfl) rfl rfl ?_
        refine go_cV (con_authorL hS hk (by omega)) lk_X4_116 rfl (by first | rfl | assumption) (at_of tX4_settleAll 1 5 rfl) rfl (by decide) rfl (Nat.le_of_ble_eq_true rfl) rfl (by first | decide | exact ⟨Nat.zero_le _, Nat.zero_le _⟩) ?_
        refine go_iload_n (at_of tX4_settleAll 1 6 rfl) rfl ?_
        refine go_icmp_ne (tgt := 60) (at_of tX4_settleAll 1 7 rfl) (by decide) (fun h46 => ?_) (fun h46 => ?_)
        · exfalso; omega
        refine go_aload_n (at_of tX4_settleAll 1 8 rfl) rfl ?_
        refine go_iload (at_of tX4_settleAll 1 9 rfl) rfl rfl ?_
        refine go_iload_n (at_of tX4_settleAll 1 10 rfl) rfl ?_
        refine go_cV (q1) lk_X4_78 rfl (by first | rfl | assumption) (at_of tX4_settleAll 1 11 rfl) rfl (by decide) rfl (Nat.le_of_ble_eq_true rfl) rfl (by first | decide | exact ⟨Nat.zero_le _, Nat.zero_le _⟩) ?_
        refine go_pop (at_of tX4_settleAll 1 12 rfl) rfl ?_
        refine go_iinc (at_of tX4_settleAll 1 13 rfl) rfl (by unfold in32; omega) rfl rfl ?_
        refine go_iinc (at_of tX4_settleAll 1 14 rfl) rfl (by unfold in32; omega) rfl rfl ?_
        refine go_goto (tgt := 5) (at_of tX4_settleAll 1 15 rfl) (by decide) ?_
        exact K _
    · have e9 : stlF a acc A i = A := if_neg hc
      rw [e9]
      refine ⟨σ, ⟨hP, hF, by omega, hcc, hj, by omega⟩, fun b out K => ?_⟩
      rw [← hv.2.2, ← hv.2.1] at hc
      by_cases hst : σ.1 (11 + 10 * k) i.toNat = 119
      · have hna : ¬ a = -1 := fun q => hc ⟨hst, Or.inl q⟩
        have hnb : ¬ σ.1 (10 + 10 * k) i.toNat = a := fun q => hc ⟨hst, Or.inr q⟩
        refine go_iload (at_of tX4_settleAll 0 4 rfl) rfl rfl ?_
        refine go_aload_n (at_of tX4_settleAll 0 5 rfl) rfl ?_
        refine go_getr fl_X4_21 rfl (by first | rfl | assumption) (by first | assumption | exact p1 | exact p2 | exact p3 | exact p4 | exact p5 | exact p6) (at_of tX4_settleAll 0 6 rfl) ?_
        refine go_cV (con_many (by exact hS) hk) lk_X4_109 rfl (by first | rfl | assumption) (at_of tX4_settleAll 0 7 rfl) rfl (by decide) rfl (Nat.le_of_ble_eq_true rfl) rfl (by first | decide | exact ⟨Nat.zero_le _, Nat.zero_le _⟩) ?_
        refine go_icmp_ge (tgt := 66) (at_of tX4_settleAll 0 8 rfl) (by decide) (fun h14 => ?_) (fun h14 => ?_)
        · exfalso; rw [hm] at h14; omega
        refine go_aload_n (at_of tX4_settleAll 0 9 rfl) rfl ?_
        refine go_getr fl_X4_21 rfl (by first | rfl | assumption) (by first | assumption | exact p1 | exact p2 | exact p3 | exact p4 | exact p5 | exact p6) (at_of tX4_settleAll 0 10 rfl) ?_
        refine go_iload (at_of tX4_settleAll 0 11 rfl) rfl rfl ?_
        refine go_cV (con_stateL hS hk hL (by omega)) lk_X4_113 rfl (by first | rfl | assumption) (at_of tX4_settleAll 0 12 rfl) rfl (by decide) rfl (Nat.le_of_ble_eq_true rfl) rfl (by first | decide | exact ⟨Nat.zero_le _, Nat.zero_le _⟩) ?_
        refine go_bipush (at_of tX4_settleAll 0 13 rfl) (by decide) ?_
        refine go_icmp_ne (tgt := 60) (at_of tX4_settleAll 0 14 rfl) (by decide) (fun h28 => ?_) (fun h28 => ?_)
        · exfalso; omega
        refine go_iload_n (at_of tX4_settleAll 0 15 rfl) rfl ?_
        refine go_iconst (at_of tX4_settleAll 1 0 rfl) (by unfold in32; omega) ?_
        refine go_icmp_eq (tgt := 49) (at_of tX4_settleAll 1 1 rfl) (by decide) (fun h33 => ?_) (fun h33 => ?_)
        · exfalso; omega
        refine go_aload_n (at_of tX4_settleAll 1 2 rfl) rfl ?_
        refine go_getr fl_X4_21 rfl (by first | rfl | assumption) (by first | assumption | exact p1 | exact p2 | exact p3 | exact p4 | exact p5 | exact p6) (at_of tX4_settleAll 1 3 rfl) ?_
        refine go_iload (at_of tX4_settleAll 1 4 rfl) rfl rfl ?_
        refine go_cV (con_authorL hS hk (by omega)) lk_X4_116 rfl (by first | rfl | assumption) (at_of tX4_settleAll 1 5 rfl) rfl (by decide) rfl (Nat.le_of_ble_eq_true rfl) rfl (by first | decide | exact ⟨Nat.zero_le _, Nat.zero_le _⟩) ?_
        refine go_iload_n (at_of tX4_settleAll 1 6 rfl) rfl ?_
        refine go_icmp_ne (tgt := 60) (at_of tX4_settleAll 1 7 rfl) (by decide) (fun h46 => ?_) (fun h46 => ?_)
        rotate_left
        · exfalso; omega
        refine go_iinc (at_of tX4_settleAll 1 14 rfl) rfl (by unfold in32; omega) rfl rfl ?_
        refine go_goto (tgt := 5) (at_of tX4_settleAll 1 15 rfl) (by decide) ?_
        exact K _
      · skip
        refine go_iload (at_of tX4_settleAll 0 4 rfl) rfl rfl ?_
        refine go_aload_n (at_of tX4_settleAll 0 5 rfl) rfl ?_
        refine go_getr fl_X4_21 rfl (by first | rfl | assumption) (by first | assumption | exact p1 | exact p2 | exact p3 | exact p4 | exact p5 | exact p6) (at_of tX4_settleAll 0 6 rfl) ?_
        refine go_cV (con_many (by exact hS) hk) lk_X4_109 rfl (by first | rfl | assumption) (at_of tX4_settleAll 0 7 rfl) rfl (by decide) rfl (Nat.le_of_ble_eq_true rfl) rfl (by first | decide | exact ⟨Nat.zero_le _, Nat.zero_le _⟩) ?_
        refine go_icmp_ge (tgt := 66) (at_of tX4_settleAll 0 8 rfl) (by decide) (fun h14 => ?_) (fun h14 => ?_)
        · exfalso; rw [hm] at h14; omega
        refine go_aload_n (at_of tX4_settleAll 0 9 rfl) rfl ?_
        refine go_getr fl_X4_21 rfl (by first | rfl | assumption) (by first | assumption | exact p1 | exact p2 | exact p3 | exact p4 | exact p5 | exact p6) (at_of tX4_settleAll 0 10 rfl) ?_
        refine go_iload (at_of tX4_settleAll 0 11 rfl) rfl rfl ?_
        refine go_cV (con_stateL hS hk hL (by omega)) lk_X4_113 rfl (by first | rfl | assumption) (at_of tX4_settleAll 0 12 rfl) rfl (by decide) rfl (Nat.le_of_ble_eq_true rfl) rfl (by first | decide | exact ⟨Nat.zero_le _, Nat.zero_le _⟩) ?_
        refine go_bipush (at_of tX4_settleAll 0 13 rfl) (by decide) ?_
        refine go_icmp_ne (tgt := 60) (at_of tX4_settleAll 0 14 rfl) (by decide) (fun h28 => ?_) (fun h28 => ?_)
        rotate_left
        · exfalso; omega
        refine go_iinc (at_of tX4_settleAll 1 14 rfl) rfl (by unfold in32; omega) rfl rfl ?_
        refine go_goto (tgt := 5) (at_of tX4_settleAll 1 15 rfl) (by decide) ?_
        exact K _
end Settle
