section Take
variable {σ : St} {k1 k2 : Nat}
theorem C1_z {a0 a1 j : Nat} {n : Int} (h : j < n.toNat) : (C1 σ a0 0 a1 0 n).1 a1 j = σ.1 a0 j := by
  unfold C1 cpM
  have e0 : (0 : Int).toNat = 0 := rfl
  dsimp only
  rw [if_pos ⟨rfl, by omega, by omega⟩]
  exact congrArg _ (by omega)
def tkR (σ : St) (k1 k2 : Nat) : St := P1 (C1 (C1 (C1 σ (5 + 10 * k2) 0 (5 + 10 * k1) 0 2211) (6 + 10 * k2) 0 (6 + 10 * k1) 0 6) (7 + 10 * k2) 0 (7 + 10 * k1) 0 6) (4 + 10 * k1) 3 (σ.1 (4 + 10 * k2) 3)
def tkL (σ : St) (k1 k2 : Nat) : St := P1 (C1 (C1 (C1 σ (9 + 10 * k2) 0 (9 + 10 * k1) 0 60) (10 + 10 * k2) 0 (10 + 10 * k1) 0 60) (11 + 10 * k2) 0 (11 + 10 * k1) 0 60) (8 + 10 * k1) 3 (σ.1 (8 + 10 * k2) 3)
def tkS (σ : St) (k1 k2 : Nat) : St := C1 (tkL (tkR σ k1 k2) k1 k2) (12 + 10 * k2) 0 (12 + 10 * k1) 0 20
theorem tkR_frm : Frm σ (tkR σ k1 k2) (4 + 10 * k1) (7 + 10 * k1) := ⟨rfl, fun a h j => by unfold tkR; rw [P1_ne (by omega), C1_ne (by omega), C1_ne (by omega), C1_ne (by omega)]⟩
theorem tkL_frm : Frm σ (tkL σ k1 k2) (8 + 10 * k1) (11 + 10 * k1) := ⟨rfl, fun a h j => by unfold tkL; rw [P1_ne (by omega), C1_ne (by omega), C1_ne (by omega), C1_ne (by omega)]⟩
theorem tkS_frm : Frm σ (tkS σ k1 k2) (4 + 10 * k1) (12 + 10 * k1) := ((tkR_frm.mono (by omega) (by omega)).trans (tkL_frm.mono (by omega) (by omega))).trans (C1_frm (by omega))
theorem rep_tkR {R : RowD} (hk : k1 ≠ k2) (h : RepR σ k2 R) : RepR (tkR σ k1 k2) k1 R := by
  obtain ⟨h1, h2, h3, h4⟩ := h
  refine ⟨?_, fun w i a b c d => ?_, fun b h0 h6 => ⟨?_, ?_⟩, h4⟩
  · unfold tkR; rw [P1_eq]; exact h1
  · have h5 := h4.2.1
    unfold fA tkR
    rw [P1_ne (by omega), C1_ne (by omega), C1_ne (by omega), C1_z (by have : (2211 : Int).toNat = 2211 := rfl; omega)]
    exact h2 w i a b c d
  · unfold tkR
    rw [P1_ne (by omega), C1_ne (by omega), C1_z (by have : (6 : Int).toNat = 6 := rfl; omega), C1_ne (by omega)]
    exact (h3 b h0 h6).1
  · unfold tkR
    rw [P1_ne (by omega), C1_z (by have : (6 : Int).toNat = 6 := rfl; omega), C1_ne (by omega), C1_ne (by omega)]
    exact (h3 b h0 h6).2
theorem rep_tkL {L : LogD} (hk : k1 ≠ k2) (h : RepL σ k2 L) : RepL (tkL σ k1 k2) k1 L := by
  obtain ⟨h1, h2, ⟨u1, u2, u3, u4⟩, h4⟩ := h
  have e60 : (60 : Int).toNat = 60 := rfl
  have e1 : ∀ j, j < 60 → (tkL σ k1 k2).1 (9 + 10 * k1) j = σ.1 (9 + 10 * k2) j := fun j hj => by
    unfold tkL; rw [P1_ne (by omega), C1_ne (by omega), C1_ne (by omega), C1_z (by omega)]
  have e2 : ∀ j, j < 60 → (tkL σ k1 k2).1 (10 + 10 * k1) j = σ.1 (10 + 10 * k2) j := fun j hj => by
    unfold tkL; rw [P1_ne (by omega), C1_ne (by omega), C1_z (by omega), C1_ne (by omega)]
  have e3 : ∀ j, j < 60 → (tkL σ k1 k2).1 (11 + 10 * k1) j = σ.1 (11 + 10 * k2) j := fun j hj => by
    unfold tkL; rw [P1_ne (by omega), C1_z (by omega), C1_ne (by omega), C1_ne (by omega)]
  have e4 : (tkL σ k1 k2).1 (8 + 10 * k1) 3 = σ.1 (8 + 10 * k2) 3 := by unfold tkL; rw [P1_eq]
  have h5 := h4.2.1
  refine ⟨e4.trans h1, fun c a b => ?_, ⟨by rw [e4]; exact u1, by rw [e4]; exact u2, fun j hj => by rw [e1 j hj]; exact u3 j hj, fun j hj => by rw [e3 j hj]; exact u4 j hj⟩, h4⟩
  rw [e1 _ (by omega), e2 _ (by omega), e3 _ (by omega)]
  exact h2 c a b
theorem rep_tkS {D : PapD} (hk : k1 ≠ k2) (h : RepP σ k2 D) : RepP (tkS σ k1 k2) k1 D := by
  have a1 : RepR (tkR σ k1 k2) k1 D.1 := rep_tkR hk h.1
  have a2 : RepL (tkR σ k1 k2) k2 D.2.1 := h.2.1.frm tkR_frm (by omega)
  have a3 := rep_tkL hk a2
  unfold tkS
  refine ⟨(a1.frm tkL_frm (by omega)).frm (C1_frm (lo := 12 + 10 * k1) (hi := 12 + 10 * k1) (by omega)) (by omega), a3.frm (C1_frm (lo := 12 + 10 * k1) (hi := 12 + 10 * k1) (by omega)) (by omega), fun c a b => ?_⟩
  rw [C1_z (by have : (20 : Int).toNat = 20 := rfl; omega), tkL_frm.2 _ (by omega), tkR_frm.2 _ (by omega)]
  exact h.2.2 c a b
theorem con_takeRow (hS : Str σ.2.1) (hk1 : k1 < 8) (hk2 : k2 < 8) (hk : k1 ≠ k2) : Con 0 mX7_takeRow 0 0 [vA (4 + 10 * k1), vA (4 + 10 * k2)] σ (vT 8 0, tkR σ k1 k2) := by
  obtain ⟨g1, g2, g3, g4, g5, g6, g7, g8, g9, g10⟩ := gamk k1 hk1
  obtain ⟨p1, p2, p3, p4, p5, p6, p7, p8, p9⟩ := strk hS k1 hk1
  obtain ⟨f1, f2, f3, f4, f5, f6, f7, f8, f9, f10⟩ := gamk k2 hk2
  obtain ⟨r1, r2, r3, r4, r5, r6, r7, r8, r9⟩ := strk hS k2 hk2
  refine con_of_go mfX7_takeRow.1 trivial (Nat.le_of_ble_eq_true rfl) rfl (by decide) ?_
  show Go _ _ _ _ 0 [vA _, vA _] [] _ _
  refine go_aload_n (at_of tX7_takeRow 0 0 rfl) rfl ?_
  refine go_getr fl_X7_11 rfl (by first | rfl | assumption) (by first | assumption | exact p1 | exact p2 | exact p3 | exact p4 | exact p5 | exact p6 | exact p7 | exact p8 | exact p9 | exact r1 | exact r2 | exact r3 | exact r4 | exact r5 | exact r6 | exact r7 | exact r8 | exact r9) (at_of tX7_takeRow 0 1 rfl) ?_
  refine go_iconst (at_of tX7_takeRow 0 2 rfl) (by unfold in32; omega) ?_
  refine go_aload_n (at_of tX7_takeRow 0 3 rfl) rfl ?_
  refine go_getr fl_X7_11 rfl (by first | rfl | assumption) (by first | assumption | exact p1 | exact p2 | exact p3 | exact p4 | exact p5 | exact p6 | exact p7 | exact p8 | exact p9 | exact r1 | exact r2 | exact r3 | exact r4 | exact r5 | exact r6 | exact r7 | exact r8 | exact r9) (at_of tX7_takeRow 0 4 rfl) ?_
  refine go_iconst (at_of tX7_takeRow 0 5 rfl) (by unfold in32; omega) ?_
  refine go_sipush (at_of tX7_takeRow 0 6 rfl) (by decide) ?_
  refine go_copy1 (inL 675 (by decide +kernel) (by decide +kernel)) (at_of tX7_takeRow 0 7 rfl) f3 g3 (by omega) (by omega) (by omega) (by omega) (by omega) (Nat.le_of_ble_eq_true rfl) ?_
  refine go_aload_n (at_of tX7_takeRow 0 8 rfl) rfl ?_
  refine go_getr fl_X7_15 rfl (by first | rfl | assumption) (by first | assumption | exact p1 | exact p2 | exact p3 | exact p4 | exact p5 | exact p6 | exact p7 | exact p8 | exact p9 | exact r1 | exact r2 | exact r3 | exact r4 | exact r5 | exact r6 | exact r7 | exact r8 | exact r9) (at_of tX7_takeRow 0 9 rfl) ?_
  refine go_iconst (at_of tX7_takeRow 0 10 rfl) (by unfold in32; omega) ?_
  refine go_aload_n (at_of tX7_takeRow 0 11 rfl) rfl ?_
  refine go_getr fl_X7_15 rfl (by first | rfl | assumption) (by first | assumption | exact p1 | exact p2 | exact p3 | exact p4 | exact p5 | exact p6 | exact p7 | exact p8 | exact p9 | exact r1 | exact r2 | exact r3 | exact r4 | exact r5 | exact r6 | exact r7 | exact r8 | exact r9) (at_of tX7_takeRow 0 12 rfl) ?_
  refine go_iconst (at_of tX7_takeRow 0 13 rfl) (by unfold in32; omega) ?_
  refine go_bipush (at_of tX7_takeRow 0 14 rfl) (by decide) ?_
  refine go_copy1 (inL 675 (by decide +kernel) (by decide +kernel)) (at_of tX7_takeRow 0 15 rfl) f4 g4 (by omega) (by omega) (by omega) (by omega) (by omega) (Nat.le_of_ble_eq_true rfl) ?_
  refine go_aload_n (at_of tX7_takeRow 1 0 rfl) rfl ?_
  refine go_getr fl_X7_18 rfl (by first | rfl | assumption) (by first | assumption | exact p1 | exact p2 | exact p3 | exact p4 | exact p5 | exact p6 | exact p7 | exact p8 | exact p9 | exact r1 | exact r2 | exact r3 | exact r4 | exact r5 | exact r6 | exact r7 | exact r8 | exact r9) (at_of tX7_takeRow 1 1 rfl) ?_
  refine go_iconst (at_of tX7_takeRow 1 2 rfl) (by unfold in32; omega) ?_
  refine go_aload_n (at_of tX7_takeRow 1 3 rfl) rfl ?_
  refine go_getr fl_X7_18 rfl (by first | rfl | assumption) (by first | assumption | exact p1 | exact p2 | exact p3 | exact p4 | exact p5 | exact p6 | exact p7 | exact p8 | exact p9 | exact r1 | exact r2 | exact r3 | exact r4 | exact r5 | exact r6 | exact r7 | exact r8 | exact r9) (at_of tX7_takeRow 1 4 rfl) ?_
  refine go_iconst (at_of tX7_takeRow 1 5 rfl) (by unfold in32; omega) ?_
  refine go_bipush (at_of tX7_takeRow 1 6 rfl) (by decide) ?_
  refine go_copy1 (inL 675 (by decide +kernel) (by decide +kernel)) (at_of tX7_takeRow 1 7 rfl) f5 g5 (by omega) (by omega) (by omega) (by omega) (by omega) (Nat.le_of_ble_eq_true rfl) ?_
  refine go_aload_n (at_of tX7_takeRow 1 8 rfl) rfl ?_
  refine go_aload_n (at_of tX7_takeRow 1 9 rfl) rfl ?_
  refine go_getf fl_X7_21 rfl (by first | rfl | assumption) (at_of tX7_takeRow 1 10 rfl) ?_
  rw [C1_ne (by omega), C1_ne (by omega), C1_ne (by omega)]
  refine go_put1 fp_X7_21 rfl (Or.inl rfl) (by first | rfl | assumption) (Or.inl rfl) (at_of tX7_takeRow 1 11 rfl) ?_
  exact go_retv (at_of tX7_takeRow 1 12 rfl) rfl
theorem con_takeLog (hS : Str σ.2.1) (hk1 : k1 < 8) (hk2 : k2 < 8) (hk : k1 ≠ k2) : Con 0 mX2_takeLog 0 0 [vA (8 + 10 * k1), vA (8 + 10 * k2)] σ (vT 8 0, tkL σ k1 k2) := by
  obtain ⟨g1, g2, g3, g4, g5, g6, g7, g8, g9, g10⟩ := gamk k1 hk1
  obtain ⟨p1, p2, p3, p4, p5, p6, p7, p8, p9⟩ := strk hS k1 hk1
  obtain ⟨f1, f2, f3, f4, f5, f6, f7, f8, f9, f10⟩ := gamk k2 hk2
  obtain ⟨r1, r2, r3, r4, r5, r6, r7, r8, r9⟩ := strk hS k2 hk2
  refine con_of_go mfX2_takeLog.1 trivial (Nat.le_of_ble_eq_true rfl) rfl (by decide) ?_
  show Go _ _ _ _ 0 [vA _, vA _] [] _ _
  refine go_aload_n (at_of tX2_takeLog 0 0 rfl) rfl ?_
  refine go_getr fl_X2_9 rfl (by first | rfl | assumption) (by first | assumption | exact p1 | exact p2 | exact p3 | exact p4 | exact p5 | exact p6 | exact p7 | exact p8 | exact p9 | exact r1 | exact r2 | exact r3 | exact r4 | exact r5 | exact r6 | exact r7 | exact r8 | exact r9) (at_of tX2_takeLog 0 1 rfl) ?_
  refine go_iconst (at_of tX2_takeLog 0 2 rfl) (by unfold in32; omega) ?_
  refine go_aload_n (at_of tX2_takeLog 0 3 rfl) rfl ?_
  refine go_getr fl_X2_9 rfl (by first | rfl | assumption) (by first | assumption | exact p1 | exact p2 | exact p3 | exact p4 | exact p5 | exact p6 | exact p7 | exact p8 | exact p9 | exact r1 | exact r2 | exact r3 | exact r4 | exact r5 | exact r6 | exact r7 | exact r8 | exact r9) (at_of tX2_takeLog 0 4 rfl) ?_
  refine go_iconst (at_of tX2_takeLog 0 5 rfl) (by unfold in32; omega) ?_
  refine go_bipush (at_of tX2_takeLog 0 6 rfl) (by decide) ?_
  refine go_copy1 (inL 682 (by decide +kernel) (by decide +kernel)) (at_of tX2_takeLog 0 7 rfl) f7 g7 (by omega) (by omega) (by omega) (by omega) (by omega) (Nat.le_of_ble_eq_true rfl) ?_
  refine go_aload_n (at_of tX2_takeLog 0 8 rfl) rfl ?_
  refine go_getr fl_X2_15 rfl (by first | rfl | assumption) (by first | assumption | exact p1 | exact p2 | exact p3 | exact p4 | exact p5 | exact p6 | exact p7 | exact p8 | exact p9 | exact r1 | exact r2 | exact r3 | exact r4 | exact r5 | exact r6 | exact r7 | exact r8 | exact r9) (at_of tX2_takeLog 0 9 rfl) ?_
  refine go_iconst (at_of tX2_takeLog 0 10 rfl) (by unfold in32; omega) ?_
  refine go_aload_n (at_of tX2_takeLog 0 11 rfl) rfl ?_
  refine go_getr fl_X2_15 rfl (by first | rfl | assumption) (by first | assumption | exact p1 | exact p2 | exact p3 | exact p4 | exact p5 | exact p6 | exact p7 | exact p8 | exact p9 | exact r1 | exact r2 | exact r3 | exact r4 | exact r5 | exact r6 | exact r7 | exact r8 | exact r9) (at_of tX2_takeLog 0 12 rfl) ?_
  refine go_iconst (at_of tX2_takeLog 0 13 rfl) (by unfold in32; omega) ?_
  refine go_bipush (at_of tX2_takeLog 0 14 rfl) (by decide) ?_
  refine go_copy1 (inL 682 (by decide +kernel) (by decide +kernel)) (at_of tX2_takeLog 0 15 rfl) f8 g8 (by omega) (by omega) (by omega) (by omega) (by omega) (Nat.le_of_ble_eq_true rfl) ?_
  refine go_aload_n (at_of tX2_takeLog 1 0 rfl) rfl ?_
  refine go_getr fl_X2_18 rfl (by first | rfl | assumption) (by first | assumption | exact p1 | exact p2 | exact p3 | exact p4 | exact p5 | exact p6 | exact p7 | exact p8 | exact p9 | exact r1 | exact r2 | exact r3 | exact r4 | exact r5 | exact r6 | exact r7 | exact r8 | exact r9) (at_of tX2_takeLog 1 1 rfl) ?_
  refine go_iconst (at_of tX2_takeLog 1 2 rfl) (by unfold in32; omega) ?_
  refine go_aload_n (at_of tX2_takeLog 1 3 rfl) rfl ?_
  refine go_getr fl_X2_18 rfl (by first | rfl | assumption) (by first | assumption | exact p1 | exact p2 | exact p3 | exact p4 | exact p5 | exact p6 | exact p7 | exact p8 | exact p9 | exact r1 | exact r2 | exact r3 | exact r4 | exact r5 | exact r6 | exact r7 | exact r8 | exact r9) (at_of tX2_takeLog 1 4 rfl) ?_
  refine go_iconst (at_of tX2_takeLog 1 5 rfl) (by unfold in32; omega) ?_
  refine go_bipush (at_of tX2_takeLog 1 6 rfl) (by decide) ?_
  refine go_copy1 (inL 682 (by decide +kernel) (by decide +kernel)) (at_of tX2_takeLog 1 7 rfl) f9 g9 (by omega) (by omega) (by omega) (by omega) (by omega) (Nat.le_of_ble_eq_true rfl) ?_
  refine go_aload_n (at_of tX2_takeLog 1 8 rfl) rfl ?_
  refine go_aload_n (at_of tX2_takeLog 1 9 rfl) rfl ?_
  refine go_getf fl_X2_21 rfl (by first | rfl | assumption) (at_of tX2_takeLog 1 10 rfl) ?_
  rw [C1_ne (by omega), C1_ne (by omega), C1_ne (by omega)]
  refine go_put1 fp_X2_21 rfl (Or.inl rfl) (by first | rfl | assumption) (Or.inl rfl) (at_of tX2_takeLog 1 11 rfl) ?_
  exact go_retv (at_of tX2_takeLog 1 12 rfl) rfl
theorem con_takeFrom (hS : Str σ.2.1) (hk1 : k1 < 8) (hk2 : k2 < 8) (hk : k1 ≠ k2) : Con 1 mX4_takeFrom 0 0 [vA (3 + 10 * k1), vA (3 + 10 * k2)] σ (vT 8 0, tkS σ k1 k2) := by
  obtain ⟨g1, g2, g3, g4, g5, g6, g7, g8, g9, g10⟩ := gamk k1 hk1
  obtain ⟨p1, p2, p3, p4, p5, p6, p7, p8, p9⟩ := strk hS k1 hk1
  obtain ⟨f1, f2, f3, f4, f5, f6, f7, f8, f9, f10⟩ := gamk k2 hk2
  obtain ⟨r1, r2, r3, r4, r5, r6, r7, r8, r9⟩ := strk hS k2 hk2
  refine con_of_go mfX4_takeFrom.1 trivial (Nat.le_of_ble_eq_true rfl) rfl (by decide) ?_
  show Go _ _ _ _ 0 [vA _, vA _] [] _ _
  refine go_aload_n (at_of tX4_takeFrom 0 0 rfl) rfl ?_
  refine go_getr fl_X4_12 rfl (by first | rfl | assumption) (by first | assumption | exact p1 | exact p2 | exact p3 | exact p4 | exact p5 | exact p6 | exact p7 | exact p8 | exact p9 | exact r1 | exact r2 | exact r3 | exact r4 | exact r5 | exact r6 | exact r7 | exact r8 | exact r9) (at_of tX4_takeFrom 0 1 rfl) ?_
  refine go_aload_n (at_of tX4_takeFrom 0 2 rfl) rfl ?_
  refine go_getr fl_X4_12 rfl (by first | rfl | assumption) (by first | assumption | exact p1 | exact p2 | exact p3 | exact p4 | exact p5 | exact p6 | exact p7 | exact p8 | exact p9 | exact r1 | exact r2 | exact r3 | exact r4 | exact r5 | exact r6 | exact r7 | exact r8 | exact r9) (at_of tX4_takeFrom 0 3 rfl) ?_
  refine go_cV (con_takeRow hS hk1 hk2 hk) lk_X4_29 rfl (by first | rfl | assumption) (at_of tX4_takeFrom 0 4 rfl) rfl (by decide) rfl (Nat.le_of_ble_eq_true rfl) rfl (by first | decide | exact ⟨Nat.zero_le _, Nat.zero_le _⟩) ?_
  refine go_aload_n (at_of tX4_takeFrom 0 5 rfl) rfl ?_
  refine go_getr fl_X4_21 rfl (by first | rfl | assumption) (by first | assumption | exact p1 | exact p2 | exact p3 | exact p4 | exact p5 | exact p6 | exact p7 | exact p8 | exact p9 | exact r1 | exact r2 | exact r3 | exact r4 | exact r5 | exact r6 | exact r7 | exact r8 | exact r9) (at_of tX4_takeFrom 0 6 rfl) ?_
  refine go_aload_n (at_of tX4_takeFrom 0 7 rfl) rfl ?_
  refine go_getr fl_X4_21 rfl (by first | rfl | assumption) (by first | assumption | exact p1 | exact p2 | exact p3 | exact p4 | exact p5 | exact p6 | exact p7 | exact p8 | exact p9 | exact r1 | exact r2 | exact r3 | exact r4 | exact r5 | exact r6 | exact r7 | exact r8 | exact r9) (at_of tX4_takeFrom 0 8 rfl) ?_
  refine go_cV (con_takeLog (by exact hS) hk1 hk2 hk) lk_X4_33 rfl (by first | rfl | assumption) (at_of tX4_takeFrom 0 9 rfl) rfl (by decide) rfl (Nat.le_of_ble_eq_true rfl) rfl (by first | decide | exact ⟨Nat.zero_le _, Nat.zero_le _⟩) ?_
  refine go_aload_n (at_of tX4_takeFrom 0 10 rfl) rfl ?_
  refine go_getr fl_X4_25 rfl (by first | rfl | assumption) (by first | assumption | exact p1 | exact p2 | exact p3 | exact p4 | exact p5 | exact p6 | exact p7 | exact p8 | exact p9 | exact r1 | exact r2 | exact r3 | exact r4 | exact r5 | exact r6 | exact r7 | exact r8 | exact r9) (at_of tX4_takeFrom 0 11 rfl) ?_
  refine go_iconst (at_of tX4_takeFrom 0 12 rfl) (by unfold in32; omega) ?_
  refine go_aload_n (at_of tX4_takeFrom 0 13 rfl) rfl ?_
  refine go_getr fl_X4_25 rfl (by first | rfl | assumption) (by first | assumption | exact p1 | exact p2 | exact p3 | exact p4 | exact p5 | exact p6 | exact p7 | exact p8 | exact p9 | exact r1 | exact r2 | exact r3 | exact r4 | exact r5 | exact r6 | exact r7 | exact r8 | exact r9) (at_of tX4_takeFrom 0 14 rfl) ?_
  refine go_iconst (at_of tX4_takeFrom 0 15 rfl) (by unfold in32; omega) ?_
  refine go_bipush (at_of tX4_takeFrom 1 0 rfl) (by decide) ?_
  refine go_copy1 (inL 683 (by decide +kernel) (by decide +kernel)) (at_of tX4_takeFrom 1 1 rfl) f10 g10 (by omega) (by omega) (by omega) (by omega) (by omega) (Nat.le_of_ble_eq_true rfl) ?_
  exact go_retv (at_of tX4_takeFrom 1 2 rfl) rfl
end Take
section Past
variable {σ : St}
abbrev PastD : Type := (Nat → PapD) × Nat × Nat
/-- the papers that can be had: those ahead, the one now, those undone -/
def PastR (σ : St) (pi : Nat → Nat) (A : PastD) : Prop := Pap σ.2.1 pi ∧ σ.1 1 1 = A.2.1 ∧ σ.1 1 2 = A.2.2 ∧ A.2.1 + A.2.2 ≤ 6 ∧ ∀ j, j ≤ A.2.1 + A.2.2 → RepP σ (pi j) (A.1 j)
def FrM (σ σ' : St) (lo hi : Nat) : Prop := ∀ a, (a < lo ∨ hi < a) → ∀ j, σ'.1 a j = σ.1 a j
/-- no row of pointers changes but that of the papers -/
def FrQ (σ σ' : St) : Prop := ∀ a, a ≠ 2 → ∀ j, σ'.2.1 a j = σ.2.1 a j
theorem RepP.frM {σ' : St} {k : Nat} {D : PapD} (h : RepP σ k D) {lo hi : Nat} (hF : FrM σ σ' lo hi) (hd : 12 + 10 * k < lo ∨ hi < 4 + 10 * k) : RepP σ' k D := by
  have h2 : RepP ((σ'.1, σ.2) : St) k D := h.frm (⟨rfl, hF⟩ : Frm σ ((σ'.1, σ.2) : St) lo hi) hd
  exact h2
theorem g1_ : Gam 1 = (15, 0) := by decide +kernel
theorem g2_ : Gam 2 = (5, 7) := by decide +kernel
theorem con_now (hS : Str σ.2.1) {pi : Nat → Nat} {A : PastD} (hA : PastR σ pi A) : Con 1 mX5_now 0 0 [vA 1] σ (vA (3 + 10 * pi A.2.1), σ) := by
  obtain ⟨hp, hd, hu, hle, hrep⟩ := id hA
  have hp0 : σ.2.1 1 0 = some 2 := (hS 1 0 rfl).trans rfl
  have hq := (hp.1 A.2.1 (by omega)).1
  refine con_of_go mfX5_now.1 trivial (Nat.le_of_ble_eq_true rfl) rfl (by decide) ?_
  show Go _ _ _ _ 0 [vA _] [] _ _
  refine go_aload_n (at_of tX5_now 0 0 rfl) rfl ?_
  refine go_getr fl_X5_11 rfl g1_ hp0 (at_of tX5_now 0 1 rfl) ?_
  refine go_aload_n (at_of tX5_now 0 2 rfl) rfl ?_
  refine go_getf fl_X5_17 rfl g1_ (at_of tX5_now 0 3 rfl) ?_
  refine go_aload_n (at_of tX5_now 0 4 rfl) rfl ?_
  refine go_getr fl_X5_11 rfl g1_ hp0 (at_of tX5_now 0 5 rfl) ?_
  refine go_alen g2_ (by omega) (by omega) (at_of tX5_now 0 6 rfl) ?_
  refine go_cN (con_isWithin) lk_X5_25 rfl (at_of tX5_now 0 7 rfl) rfl (by decide) rfl (Nat.le_of_ble_eq_true rfl) rfl (by first | decide | exact ⟨Nat.zero_le _, Nat.zero_le _⟩) ?_
  refine go_if_eq (tgt := 26) (at_of tX5_now 0 8 rfl) (by decide) (fun h16 => ?_) (fun h16 => ?_)
  · exfalso; rw [hd] at h16; exact bI_0.mp h16 (by omega)
  refine go_aload_n (at_of tX5_now 0 9 rfl) rfl ?_
  refine go_getf fl_X5_17 rfl g1_ (at_of tX5_now 0 10 rfl) ?_
  refine go_goto (tgt := 27) (at_of tX5_now 0 11 rfl) (by decide) ?_
  rw [hd]
  refine go_aald g2_ (by omega) (by omega) (by rw [Int.toNat_natCast]; exact hq) (at_of tX5_now 0 13 rfl) ?_
  exact go_reta (at_of tX5_now 0 14 rfl) rfl
theorem con_canGoBack (hS : Str σ.2.1) {pi : Nat → Nat} {A : PastD} (hA : PastR σ pi A) : Con 0 mX5_canGoBack 0 0 [vA 1] σ (vI (bI (0 < A.2.1)), σ) := by
  obtain ⟨hp, hd, hu, hle, hrep⟩ := id hA
  have hp0 : σ.2.1 1 0 = some 2 := (hS 1 0 rfl).trans rfl
  refine con_of_go mfX5_canGoBack.1 bI_01 (Nat.le_of_ble_eq_true rfl) rfl (by decide) ?_
  show Go _ _ _ _ 0 [vA _] [] _ _
  refine go_aload_n (at_of tX5_canGoBack 0 0 rfl) rfl ?_
  refine go_getf fl_X5_17 rfl g1_ (at_of tX5_canGoBack 0 1 rfl) ?_
  refine go_if_le (tgt := 11) (at_of tX5_canGoBack 0 2 rfl) (by decide) (fun h4 => ?_) (fun h4 => ?_)
  · refine go_iconst (at_of tX5_canGoBack 0 5 rfl) (by unfold in32; omega) ?_
    exact go_reti (at_of tX5_canGoBack 0 6 rfl) (le_i (by first | exact bI_t (by omega) | exact bI_f (by omega)))
  · refine go_iconst (at_of tX5_canGoBack 0 3 rfl) (by unfold in32; omega) ?_
    refine go_goto (tgt := 12) (at_of tX5_canGoBack 0 4 rfl) (by decide) ?_
    exact go_reti (at_of tX5_canGoBack 0 6 rfl) (le_i (by first | exact bI_t (by omega) | exact bI_f (by omega)))
theorem con_canGoOn (hS : Str σ.2.1) {pi : Nat → Nat} {A : PastD} (hA : PastR σ pi A) : Con 0 mX5_canGoOn 0 0 [vA 1] σ (vI (bI (0 < A.2.2)), σ) := by
  obtain ⟨hp, hd, hu, hle, hrep⟩ := id hA
  have hp0 : σ.2.1 1 0 = some 2 := (hS 1 0 rfl).trans rfl
  refine con_of_go mfX5_canGoOn.1 bI_01 (Nat.le_of_ble_eq_true rfl) rfl (by decide) ?_
  show Go _ _ _ _ 0 [vA _] [] _ _
  refine go_aload_n (at_of tX5_canGoOn 0 0 rfl) rfl ?_
  refine go_getf fl_X5_21 rfl g1_ (at_of tX5_canGoOn 0 1 rfl) ?_
  refine go_if_le (tgt := 11) (at_of tX5_canGoOn 0 2 rfl) (by decide) (fun h4 => ?_) (fun h4 => ?_)
  · refine go_iconst (at_of tX5_canGoOn 0 5 rfl) (by unfold in32; omega) ?_
    exact go_reti (at_of tX5_canGoOn 0 6 rfl) (le_i (by first | exact bI_t (by omega) | exact bI_f (by omega)))
  · refine go_iconst (at_of tX5_canGoOn 0 3 rfl) (by unfold in32; omega) ?_
    refine go_goto (tgt := 12) (at_of tX5_canGoOn 0 4 rfl) (by decide) ?_
    exact go_reti (at_of tX5_canGoOn 0 6 rfl) (le_i (by first | exact bI_t (by omega) | exact bI_f (by omega)))
theorem con_goBack (hS : Str σ.2.1) {pi : Nat → Nat} {A : PastD} (hA : PastR σ pi A) (h : 0 < A.2.1) : ∃ σ', Con 0 mX5_goBack 0 0 [vA 1] σ (vI ((A.2.1 - 1 : Nat) : Int), σ') ∧ PastR σ' pi (A.1, A.2.1 - 1, A.2.2 + 1) ∧ Frm σ σ' 1 1 := by
  obtain ⟨hp, hd, hu, hle, hrep⟩ := id hA
  have hp0 : σ.2.1 1 0 = some 2 := (hS 1 0 rfl).trans rfl
  refine ⟨P1 (P1 σ 1 1 (A.2.1 - 1)) 1 2 (A.2.2 + 1), ?_, ⟨hp, ?_, ?_, by show A.2.1 - 1 + (A.2.2 + 1) ≤ 6; omega, fun j hj => ?_⟩, ?_⟩
  · skip
    refine con_of_go mfX5_goBack.1 trivial (Nat.le_of_ble_eq_true rfl) rfl (by decide) ?_
    show Go _ _ _ _ 0 [vA _] [] _ _
    refine go_aload_n (at_of tX5_goBack 0 0 rfl) rfl ?_
    refine go_dup (at_of tX5_goBack 0 1 rfl) rfl ?_
    refine go_getf fl_X5_17 rfl g1_ (at_of tX5_goBack 0 2 rfl) ?_
    rw [hd]
    refine go_iconst (at_of tX5_goBack 0 3 rfl) (by unfold in32; omega) ?_
    refine go_isub (at_of tX5_goBack 0 4 rfl) (by unfold in32; omega) ?_
    refine go_put1 fp_X5_17 rfl (Or.inl rfl) g1_ (Or.inl rfl) (at_of tX5_goBack 0 5 rfl) ?_
    refine go_aload_n (at_of tX5_goBack 0 6 rfl) rfl ?_
    refine go_dup (at_of tX5_goBack 0 7 rfl) rfl ?_
    refine go_getf fl_X5_21 rfl g1_ (at_of tX5_goBack 0 8 rfl) ?_
    rw [P1_nj (by decide), hu]
    refine go_iconst (at_of tX5_goBack 0 9 rfl) (by unfold in32; omega) ?_
    refine go_iadd (at_of tX5_goBack 0 10 rfl) (by unfold in32; omega) ?_
    refine go_put1 fp_X5_21 rfl (Or.inl rfl) g1_ (Or.inl rfl) (at_of tX5_goBack 0 11 rfl) ?_
    refine go_aload_n (at_of tX5_goBack 0 12 rfl) rfl ?_
    refine go_getf fl_X5_17 rfl g1_ (at_of tX5_goBack 0 13 rfl) ?_
    rw [P1_nj (by decide), P1_eq]
    exact go_reti (at_of tX5_goBack 0 14 rfl) (le_i (by omega))
  · rw [P1_nj (by decide), P1_eq]; show _ = ((A.2.1 - 1 : Nat) : Int); omega
  · rw [P1_eq]; show _ = ((A.2.2 + 1 : Nat) : Int); omega
  · have hj : j ≤ A.2.1 - 1 + (A.2.2 + 1) := hj
    exact (hrep j (by omega)).frm (((P1_frm (lo := 1) (hi := 1) (by omega)).trans (P1_frm (by omega)))) (by omega)
  · exact (P1_frm (by omega)).trans (P1_frm (by omega))
theorem con_goOn (hS : Str σ.2.1) {pi : Nat → Nat} {A : PastD} (hA : PastR σ pi A) (h : 0 < A.2.2) : ∃ σ', Con 0 mX5_goOn 0 0 [vA 1] σ (vI ((A.2.2 - 1 : Nat) : Int), σ') ∧ PastR σ' pi (A.1, A.2.1 + 1, A.2.2 - 1) ∧ Frm σ σ' 1 1 := by
  obtain ⟨hp, hd, hu, hle, hrep⟩ := id hA
  have hp0 : σ.2.1 1 0 = some 2 := (hS 1 0 rfl).trans rfl
  refine ⟨P1 (P1 σ 1 1 (A.2.1 + 1)) 1 2 (A.2.2 - 1), ?_, ⟨hp, ?_, ?_, by show A.2.1 + 1 + (A.2.2 - 1) ≤ 6; omega, fun j hj => ?_⟩, ?_⟩
  · skip
    refine con_of_go mfX5_goOn.1 trivial (Nat.le_of_ble_eq_true rfl) rfl (by decide) ?_
    show Go _ _ _ _ 0 [vA _] [] _ _
    refine go_aload_n (at_of tX5_goOn 0 0 rfl) rfl ?_
    refine go_dup (at_of tX5_goOn 0 1 rfl) rfl ?_
    refine go_getf fl_X5_17 rfl g1_ (at_of tX5_goOn 0 2 rfl) ?_
    rw [hd]
    refine go_iconst (at_of tX5_goOn 0 3 rfl) (by unfold in32; omega) ?_
    refine go_iadd (at_of tX5_goOn 0 4 rfl) (by unfold in32; omega) ?_
    refine go_put1 fp_X5_17 rfl (Or.inl rfl) g1_ (Or.inl rfl) (at_of tX5_goOn 0 5 rfl) ?_
    refine go_aload_n (at_of tX5_goOn 0 6 rfl) rfl ?_
    refine go_dup (at_of tX5_goOn 0 7 rfl) rfl ?_
    refine go_getf fl_X5_21 rfl g1_ (at_of tX5_goOn 0 8 rfl) ?_
    rw [P1_nj (by decide), hu]
    refine go_iconst (at_of tX5_goOn 0 9 rfl) (by unfold in32; omega) ?_
    refine go_isub (at_of tX5_goOn 0 10 rfl) (by unfold in32; omega) ?_
    refine go_put1 fp_X5_21 rfl (Or.inl rfl) g1_ (Or.inl rfl) (at_of tX5_goOn 0 11 rfl) ?_
    refine go_aload_n (at_of tX5_goOn 0 12 rfl) rfl ?_
    refine go_getf fl_X5_21 rfl g1_ (at_of tX5_goOn 0 13 rfl) ?_
    rw [P1_eq]
    exact go_reti (at_of tX5_goOn 0 14 rfl) (le_i (by omega))
  · rw [P1_nj (by decide), P1_eq]; show _ = ((A.2.1 + 1 : Nat) : Int); omega
  · rw [P1_eq]; show _ = ((A.2.2 - 1 : Nat) : Int); omega
  · have hj : j ≤ A.2.1 + 1 + (A.2.2 - 1) := hj
    exact (hrep j (by omega)).frm (((P1_frm (lo := 1) (hi := 1) (by omega)).trans (P1_frm (by omega)))) (by omega)
  · exact (P1_frm (by omega)).trans (P1_frm (by omega))
end Past
