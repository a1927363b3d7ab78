section Api
variable {σ : St}
theorem cwE_0 {D : PapD} {tr : Bool} {a i : Int} (h : cwE D tr a i = 0) : D.1.2.1 < 200 ∧ (tr = true → chAhD D a i = -1 → D.2.1.1 < 60) := by
  unfold cwE at h
  have h1 : ¬ (200 ≤ D.1.2.1 ∨ (tr = true ∧ 60 ≤ D.2.1.1 ∧ chAhD D a i = -1)) := fun q => by rw [if_pos q] at h; cases h
  refine ⟨?_, fun h2 h3 => ?_⟩
  · by_cases q : 200 ≤ D.1.2.1
    · exact absurd (Or.inl q) h1
    · omega
  · by_cases q : 60 ≤ D.2.1.1
    · exact absurd (Or.inr ⟨h2, q, h3⟩) h1
    · omega
theorem scan_neg (p : Int → Bool) : ∀ (n : Nat) (i a : Int), a < 0 → scan p n i a = -1 := by
  intro n
  induction n with
  | zero => intro i a _; rfl
  | succ n ih =>
    intro i a h
    rw [scan, if_neg (by omega : ¬ a = 0), ih _ _ (by omega), ih _ _ h]
    split <;> rfl
theorem scan_mono (p : Int → Bool) : ∀ (n : Nat) (i a b : Int), a ≤ b → scan p n i a ≠ -1 → scan p n i b ≠ -1 → 0 ≤ i → scan p n i a ≤ scan p n i b := by
  intro n
  induction n with
  | zero => intro i a b _ h; exact absurd rfl h
  | succ n ih =>
    intro i a b hab ha hb hi
    rw [scan] at ha hb ⊢
    rw [scan]
    by_cases hp : p i = true
    · rw [if_pos hp] at ha hb ⊢
      rw [if_pos hp]
      by_cases ha0 : a = 0
      · rw [if_pos ha0]
        by_cases hb0 : b = 0
        · rw [if_pos hb0]; omega
        · rw [if_neg hb0] at hb ⊢
          rcases scan_le p n (i + 1) (b - 1) (by omega) with h | h
          · exact absurd h hb
          · omega
      · rw [if_neg ha0] at ha ⊢
        by_cases hb0 : b = 0
        · exfalso
          have := scan_neg p n (i + 1) (a - 1) (by omega)
          exact ha this
        · rw [if_neg hb0] at hb ⊢
          exact ih (i + 1) (a - 1) (b - 1) (by omega) ha hb (by omega)
    · rw [if_neg hp] at ha hb ⊢
      rw [if_neg hp]
      exact ih (i + 1) a b hab ha hb (by omega)
theorem ixOf_mono {F : Int → Int → Int} {n p z : Int} (h : p ≤ z) (h1 : ixOf F n p ≠ -1) (h2 : ixOf F n z ≠ -1) : ixOf F n p ≤ ixOf F n z := scan_mono _ _ _ _ _ h h1 h2 (by omega)
theorem ok_insert (hS : Str σ.2.1) {pi : Nat → Nat} {A : PastD} (hA : PastR σ pi A) {tr : Bool} (htr : σ.1 0 0 = bI (tr = true)) {a p l : Int} (h1 : 0 ≤ a ∧ a < 4) (h2 : ixOf (A.1 A.2.1).1.1 (A.1 A.2.1).1.2.1 p ≠ -1) (h3 : 97 ≤ l ∧ l ≤ 122 ∨ l = 32 ∨ l = 47) (h4 : cwE (A.1 A.2.1) tr a (ixOf (A.1 A.2.1).1.1 (A.1 A.2.1).1.2.1 p) = 0) : ∃ σ' pi', Con 5 mX9_insert 0 0 [vA 0, vI a, vI p, vI l] σ (vI (wrC (A.1 A.2.1) tr a (ixOf (A.1 A.2.1).1.1 (A.1 A.2.1).1.2.1 p)), σ') ∧ Ed σ σ' pi' (edA (begA A) (wrD (A.1 A.2.1) tr a (ixOf (A.1 A.2.1).1.1 (A.1 A.2.1).1.2.1 p) l (-1))) := by
  obtain ⟨hp, hd, hu, hle, hrep⟩ := id hA
  have hk7 := (hp.1 A.2.1 (by omega)).2
  have hk : pi A.2.1 < 8 := by omega
  have hD := hrep A.2.1 (by omega)
  have hR := hD.1
  have hL := hD.2.1.2.2.1
  have hn := hR.1
  obtain ⟨hw1, hw2, hw3⟩ := hR.2.2.2
  have hm := hD.2.1.1
  obtain ⟨l1, l2, l3⟩ := hD.2.1.2.2.2
  obtain ⟨g1, g2, g3, g4, g5, g6, g7, g8, g9, g10⟩ := gamk _ hk
  obtain ⟨p1, p2, p3, p4, p5, p6, p7, p8, p9⟩ := strk hS _ hk
  have hix := ((@ixOf_le (A.1 A.2.1).1.1 (A.1 A.2.1).1.2.1 p hw1).resolve_left h2)
  obtain ⟨hlt, hch⟩ := cwE_0 h4
  obtain ⟨σ', pi', q1, q2⟩ := con_write hS hA htr (a := a) (i := ixOf (A.1 A.2.1).1.1 (A.1 A.2.1).1.2.1 p) (l := l) (fd := -1) hix hlt hch
  refine ⟨σ', pi', ?_, q2⟩
  refine con_of_go mfX9_insert.1 trivial (Nat.le_of_ble_eq_true rfl) rfl (by decide) ?_
  show Go _ _ _ _ 0 [vA _, vI _, vI _, vI _, vT 9 0] [] _ _
  refine go_iload_n (at_of tX9_insert 0 0 rfl) rfl ?_
  refine go_cS (ok_Author h1) lk_X9_66 rfl (at_of tX9_insert 0 1 rfl) rfl (by decide) rfl (Nat.le_of_ble_eq_true rfl) rfl (by first | decide | exact ⟨Nat.zero_le _, Nat.zero_le _⟩) ?_
  refine go_aload_n (at_of tX9_insert 0 2 rfl) rfl ?_
  refine go_iload_n (at_of tX9_insert 0 3 rfl) rfl ?_
  refine go_cV (ok_Place hS hA h2) lk_X9_70 rfl (by first | assumption | exact G_0 | exact g1_ | exact G_83 | exact G_87 | exact G_92 | exact G_96 | exact G_98) (at_of tX9_insert 0 4 rfl) rfl (by decide) rfl (Nat.le_of_ble_eq_true rfl) rfl (by first | decide | exact ⟨Nat.zero_le _, Nat.zero_le _⟩) ?_
  refine go_istore (at_of tX9_insert 0 5 rfl) rfl rfl ?_
  refine go_iload_n (at_of tX9_insert 0 6 rfl) rfl ?_
  refine go_cS (con_isLetter) lk_X9_74 rfl (at_of tX9_insert 0 7 rfl) rfl (by decide) rfl (Nat.le_of_ble_eq_true rfl) rfl (by first | decide | exact ⟨Nat.zero_le _, Nat.zero_le _⟩) ?_
  refine go_if_ne (tgt := 28) (at_of tX9_insert 0 8 rfl) (by decide) (fun h15 => ?_) (fun h15 => ?_)
  rotate_left
  · exfalso; exact bI_0.mp h15 h3
  refine go_aload_n (at_of tX9_insert 0 14 rfl) rfl ?_
  refine go_iload_n (at_of tX9_insert 0 15 rfl) rfl ?_
  refine go_iload (at_of tX9_insert 1 0 rfl) rfl rfl ?_
  refine go_cV (ok_Writing hS hA htr ((@ixOf_le (A.1 A.2.1).1.1 (A.1 A.2.1).1.2.1 p hw1).resolve_left h2) h4) lk_X9_85 rfl (by first | assumption | exact G_0 | exact g1_ | exact G_83 | exact G_87 | exact G_92 | exact G_96 | exact G_98) (at_of tX9_insert 1 1 rfl) rfl (by decide) rfl (Nat.le_of_ble_eq_true rfl) rfl (by first | decide | exact ⟨Nat.zero_le _, Nat.zero_le _⟩) ?_
  refine go_aload_n (at_of tX9_insert 1 2 rfl) rfl ?_
  refine go_iload_n (at_of tX9_insert 1 3 rfl) rfl ?_
  refine go_iload (at_of tX9_insert 1 4 rfl) rfl rfl ?_
  refine go_iload_n (at_of tX9_insert 1 5 rfl) rfl ?_
  refine go_iconst (at_of tX9_insert 1 6 rfl) (by unfold in32; omega) ?_
  refine go_cV (q1) lk_X9_89 rfl (by first | assumption | exact G_0 | exact g1_ | exact G_83 | exact G_87 | exact G_92 | exact G_96 | exact G_98) (at_of tX9_insert 1 7 rfl) rfl (by decide) rfl (Nat.le_of_ble_eq_true rfl) rfl (by first | decide | exact ⟨Nat.zero_le _, Nat.zero_le _⟩) ?_
  exact go_reti (at_of tX9_insert 1 8 rfl) rfl
theorem ok_erase_f (hS : Str σ.2.1) {pi : Nat → Nat} {A : PastD} (hA : PastR σ pi A) {a p z : Int} (htr : σ.1 0 0 = bI (false = true)) (h1 : 0 ≤ a ∧ a < 4) (h2 : ixOf (A.1 A.2.1).1.1 (A.1 A.2.1).1.2.1 p ≠ -1) (h3 : ixOf (A.1 A.2.1).1.1 (A.1 A.2.1).1.2.1 z ≠ -1) (h4 : p < z) (h5 : ¬ (false = true ∧ 60 ≤ (A.1 A.2.1).2.1.1 ∧ needD (A.1 A.2.1) a (ixOf (A.1 A.2.1).1.1 (A.1 A.2.1).1.2.1 p) (ixOf (A.1 A.2.1).1.1 (A.1 A.2.1).1.2.1 z) = true)) (h8 : ¬ (grdF (A.1 A.2.1).1.1 (A.1 A.2.1).1.2.1 (ixOf (A.1 A.2.1).1.1 (A.1 A.2.1).1.2.1 z) ((A.1 A.2.1).1.2.1 + 1 - (ixOf (A.1 A.2.1).1.1 (A.1 A.2.1).1.2.1 p)).toNat (ixOf (A.1 A.2.1).1.1 (A.1 A.2.1).1.2.1 p) = true)) : ∃ σ' pi', Con 6 mX9_erase 0 0 [vA 0, vI a, vI p, vI z] σ (vI (-1), σ') ∧ Ed σ σ' pi' (edA (begA A) (dnX (drpF (fun R i => seenB R.1 R.2.1 i)) (ixOf (A.1 A.2.1).1.1 (A.1 A.2.1).1.2.1 z - (ixOf (A.1 A.2.1).1.1 (A.1 A.2.1).1.2.1 p)).toNat (ixOf (A.1 A.2.1).1.1 (A.1 A.2.1).1.2.1 z - 1) (A.1 A.2.1).1, (A.1 A.2.1).2)) := by
  obtain ⟨hp, hd, hu, hle, hrep⟩ := id hA
  have hk7 := (hp.1 A.2.1 (by omega)).2
  have hk : pi A.2.1 < 8 := by omega
  have hD := hrep A.2.1 (by omega)
  have hR := hD.1
  have hL := hD.2.1.2.2.1
  have hn := hR.1
  obtain ⟨hw1, hw2, hw3⟩ := hR.2.2.2
  have hm := hD.2.1.1
  obtain ⟨l1, l2, l3⟩ := hD.2.1.2.2.2
  obtain ⟨g1, g2, g3, g4, g5, g6, g7, g8, g9, g10⟩ := gamk _ hk
  obtain ⟨p1, p2, p3, p4, p5, p6, p7, p8, p9⟩ := strk hS _ hk
  have hxp : 0 ≤ ixOf (A.1 A.2.1).1.1 (A.1 A.2.1).1.2.1 p ∧ ixOf (A.1 A.2.1).1.1 (A.1 A.2.1).1.2.1 p ≤ (A.1 A.2.1).1.2.1 := (@ixOf_le (A.1 A.2.1).1.1 (A.1 A.2.1).1.2.1 p hw1).resolve_left h2
  have hxz : 0 ≤ ixOf (A.1 A.2.1).1.1 (A.1 A.2.1).1.2.1 z ∧ ixOf (A.1 A.2.1).1.1 (A.1 A.2.1).1.2.1 z ≤ (A.1 A.2.1).1.2.1 := (@ixOf_le (A.1 A.2.1).1.1 (A.1 A.2.1).1.2.1 z hw1).resolve_left h3
  have hpz : ixOf (A.1 A.2.1).1.1 (A.1 A.2.1).1.2.1 p ≤ ixOf (A.1 A.2.1).1.1 (A.1 A.2.1).1.2.1 z := by have := ixOf_mono (F := (A.1 A.2.1).1.1) (n := (A.1 A.2.1).1.2.1) (p := p) (z := z) (by omega) h2 h3; omega
  obtain ⟨σ1, k1, pi1, hkk, b1, b2, b3, hk1, hS1⟩ := beg_ex hS hA
  have e00 : σ1.1 0 0 = σ.1 0 0 := b2.2.2.2.1 0 (by omega) 0
  obtain ⟨s1, s2, s3, s4, s5, s6, s7, s8, s9, s10⟩ := gamk k1 hk1
  obtain ⟨t1, t2, t3, t4, t5, t6, t7, t8, t9⟩ := strk hS1 k1 hk1
  obtain ⟨σ', c1, c2, c3⟩ := con_dropSeen hS1 hk1 b3.1 hxp.1 hpz hxz.2
  refine ⟨σ', pi1, ?_, Ed.pap b2 hkk (b3.row c3 c2) (c3.mono (by omega) (by omega))⟩
  refine con_of_go mfX9_erase.1 trivial (Nat.le_of_ble_eq_true rfl) rfl (by decide) ?_
  show Go _ _ _ _ 0 [vA _, vI _, vI _, vI _, vT 9 0, vT 9 0, vT 9 0, vT 9 0] [] _ _
  refine go_iload_n (at_of tX9_erase 0 0 rfl) rfl ?_
  refine go_cS (ok_Author h1) lk_X9_66 rfl (at_of tX9_erase 0 1 rfl) rfl (by decide) rfl (Nat.le_of_ble_eq_true rfl) rfl (by first | decide | exact ⟨Nat.zero_le _, Nat.zero_le _⟩) ?_
  refine go_aload_n (at_of tX9_erase 0 2 rfl) rfl ?_
  refine go_iload_n (at_of tX9_erase 0 3 rfl) rfl ?_
  refine go_cV (ok_Place hS hA h2) lk_X9_70 rfl (by first | assumption | exact G_0 | exact g1_ | exact G_83 | exact G_87 | exact G_92 | exact G_96 | exact G_98) (at_of tX9_erase 0 4 rfl) rfl (by decide) rfl (Nat.le_of_ble_eq_true rfl) rfl (by first | decide | exact ⟨Nat.zero_le _, Nat.zero_le _⟩) ?_
  refine go_istore (at_of tX9_erase 0 5 rfl) rfl rfl ?_
  refine go_aload_n (at_of tX9_erase 0 6 rfl) rfl ?_
  refine go_iload_n (at_of tX9_erase 0 7 rfl) rfl ?_
  refine go_cV (ok_Place hS hA h3) lk_X9_70 rfl (by first | assumption | exact G_0 | exact g1_ | exact G_83 | exact G_87 | exact G_92 | exact G_96 | exact G_98) (at_of tX9_erase 0 8 rfl) rfl (by decide) rfl (Nat.le_of_ble_eq_true rfl) rfl (by first | decide | exact ⟨Nat.zero_le _, Nat.zero_le _⟩) ?_
  refine go_istore (at_of tX9_erase 0 9 rfl) rfl rfl ?_
  refine go_iload_n (at_of tX9_erase 0 10 rfl) rfl ?_
  refine go_iload_n (at_of tX9_erase 0 11 rfl) rfl ?_
  refine go_icmp_lt (tgt := 33) (at_of tX9_erase 0 12 rfl) (by decide) (fun h20 => ?_) (fun h20 => ?_)
  rotate_left
  · exfalso; omega
  refine go_aload_n (at_of tX9_erase 1 2 rfl) rfl ?_
  refine go_getr fl_X9_16 rfl (by first | assumption | exact G_0 | exact g1_ | exact G_83 | exact G_87 | exact G_92 | exact G_96 | exact G_98) (by first | assumption | exact (hS _ _ rfl).trans rfl) (at_of tX9_erase 1 3 rfl) ?_
  refine go_cV (con_now hS hA) lk_X9_114 rfl (by first | assumption | exact G_0 | exact g1_ | exact G_83 | exact G_87 | exact G_92 | exact G_96 | exact G_98) (at_of tX9_erase 1 4 rfl) rfl (by decide) rfl (Nat.le_of_ble_eq_true rfl) rfl (by first | decide | exact ⟨Nat.zero_le _, Nat.zero_le _⟩) ?_
  refine go_astore (at_of tX9_erase 1 5 rfl) rfl rfl ?_
  refine go_aload_n (at_of tX9_erase 1 6 rfl) rfl ?_
  refine go_getf fl_X9_7 rfl (by first | assumption | exact G_0 | exact g1_ | exact G_83 | exact G_87 | exact G_92 | exact G_96 | exact G_98) (at_of tX9_erase 1 7 rfl) ?_
  refine go_if_eq (tgt := 83) (at_of tX9_erase 1 8 rfl) (by decide) (fun h46 => ?_) (fun h46 => ?_)
  rotate_left
  · exfalso; rw [htr] at h46; exact h46 (by decide)
  refine go_aload (at_of tX9_erase 2 8 rfl) rfl ?_
  refine go_getr fl_X9_131 rfl (by first | assumption | exact G_0 | exact g1_ | exact G_83 | exact G_87 | exact G_92 | exact G_96 | exact G_98) (by first | assumption | exact (hS _ _ rfl).trans rfl) (at_of tX9_erase 2 9 rfl) ?_
  refine go_iload (at_of tX9_erase 2 10 rfl) rfl rfl ?_
  refine go_iload (at_of tX9_erase 2 11 rfl) rfl rfl ?_
  refine go_cV (r_isGuarded hS hk hR hxp) lk_X9_135 rfl (by first | assumption | exact G_0 | exact g1_ | exact G_83 | exact G_87 | exact G_92 | exact G_96 | exact G_98) (at_of tX9_erase 2 12 rfl) rfl (by decide) rfl (Nat.le_of_ble_eq_true rfl) rfl (by first | decide | exact ⟨Nat.zero_le _, Nat.zero_le _⟩) ?_
  refine go_if_eq (tgt := 108) (at_of tX9_erase 2 13 rfl) (by decide) (fun h95 => ?_) (fun h95 => ?_)
  rotate_left
  · exfalso; exact h8 (bI_1.mp h95)
  refine go_aload_n (at_of tX9_erase 3 3 rfl) rfl ?_
  refine go_getr fl_X9_16 rfl (by first | assumption | exact G_0 | exact g1_ | exact G_83 | exact G_87 | exact G_92 | exact G_96 | exact G_98) (by first | assumption | exact (hS _ _ rfl).trans rfl) (at_of tX9_erase 3 4 rfl) ?_
  refine go_cV (b1) lk_X9_146 rfl (by first | assumption | exact G_0 | exact g1_ | exact G_83 | exact G_87 | exact G_92 | exact G_96 | exact G_98) (at_of tX9_erase 3 5 rfl) rfl (by decide) rfl (Nat.le_of_ble_eq_true rfl) rfl (by first | decide | exact ⟨Nat.zero_le _, Nat.zero_le _⟩) ?_
  refine go_astore (at_of tX9_erase 3 6 rfl) rfl rfl ?_
  refine go_aload_n (at_of tX9_erase 3 7 rfl) rfl ?_
  refine go_getf fl_X9_7 rfl (by first | assumption | exact G_0 | exact g1_ | exact G_83 | exact G_87 | exact G_92 | exact G_96 | exact G_98) (at_of tX9_erase 3 8 rfl) ?_
  refine go_if_eq (tgt := 135) (at_of tX9_erase 3 9 rfl) (by decide) (fun h121 => ?_) (fun h121 => ?_)
  rotate_left
  · exfalso; rw [e00, htr] at h121; exact h121 (by decide)
  refine go_aload (at_of tX9_erase 4 0 rfl) rfl ?_
  refine go_getr fl_X9_131 rfl (by first | assumption | exact G_0 | exact g1_ | exact G_83 | exact G_87 | exact G_92 | exact G_96 | exact G_98) (by first | assumption | exact (hS _ _ rfl).trans rfl) (at_of tX9_erase 4 1 rfl) ?_
  refine go_iload (at_of tX9_erase 4 2 rfl) rfl rfl ?_
  refine go_iload (at_of tX9_erase 4 3 rfl) rfl rfl ?_
  refine go_cV (c1) lk_X9_153 rfl (by first | assumption | exact G_0 | exact g1_ | exact G_83 | exact G_87 | exact G_92 | exact G_96 | exact G_98) (at_of tX9_erase 4 4 rfl) rfl (by decide) rfl (Nat.le_of_ble_eq_true rfl) rfl (by first | decide | exact ⟨Nat.zero_le _, Nat.zero_le _⟩) ?_
  refine go_iconst (at_of tX9_erase 4 5 rfl) (by unfold in32; omega) ?_
  exact go_reti (at_of tX9_erase 4 6 rfl) rfl
theorem ok_erase_t (hS : Str σ.2.1) {pi : Nat → Nat} {A : PastD} (hA : PastR σ pi A) {a p z : Int} (htr : σ.1 0 0 = bI (true = true)) (h1 : 0 ≤ a ∧ a < 4) (h2 : ixOf (A.1 A.2.1).1.1 (A.1 A.2.1).1.2.1 p ≠ -1) (h3 : ixOf (A.1 A.2.1).1.1 (A.1 A.2.1).1.2.1 z ≠ -1) (h4 : p < z) (h5 : ¬ (true = true ∧ 60 ≤ (A.1 A.2.1).2.1.1 ∧ needD (A.1 A.2.1) a (ixOf (A.1 A.2.1).1.1 (A.1 A.2.1).1.2.1 p) (ixOf (A.1 A.2.1).1.1 (A.1 A.2.1).1.2.1 z) = true)) (h8 : ¬ (grdF (A.1 A.2.1).1.1 (A.1 A.2.1).1.2.1 (ixOf (A.1 A.2.1).1.1 (A.1 A.2.1).1.2.1 z) ((A.1 A.2.1).1.2.1 + 1 - (ixOf (A.1 A.2.1).1.1 (A.1 A.2.1).1.2.1 p)).toNat (ixOf (A.1 A.2.1).1.1 (A.1 A.2.1).1.2.1 p) = true)) : ∃ σ' pi', Con 6 mX9_erase 0 0 [vA 0, vI a, vI p, vI z] σ (vI (stkC (A.1 A.2.1) a (ixOf (A.1 A.2.1).1.1 (A.1 A.2.1).1.2.1 p) (ixOf (A.1 A.2.1).1.1 (A.1 A.2.1).1.2.1 z)), σ') ∧ Ed σ σ' pi' (edA (begA A) (strikeD (A.1 A.2.1) a (ixOf (A.1 A.2.1).1.1 (A.1 A.2.1).1.2.1 p) (ixOf (A.1 A.2.1).1.1 (A.1 A.2.1).1.2.1 z))) := by
  obtain ⟨hp, hd, hu, hle, hrep⟩ := id hA
  have hk7 := (hp.1 A.2.1 (by omega)).2
  have hk : pi A.2.1 < 8 := by omega
  have hD := hrep A.2.1 (by omega)
  have hR := hD.1
  have hL := hD.2.1.2.2.1
  have hn := hR.1
  obtain ⟨hw1, hw2, hw3⟩ := hR.2.2.2
  have hm := hD.2.1.1
  obtain ⟨l1, l2, l3⟩ := hD.2.1.2.2.2
  obtain ⟨g1, g2, g3, g4, g5, g6, g7, g8, g9, g10⟩ := gamk _ hk
  obtain ⟨p1, p2, p3, p4, p5, p6, p7, p8, p9⟩ := strk hS _ hk
  have hxp : 0 ≤ ixOf (A.1 A.2.1).1.1 (A.1 A.2.1).1.2.1 p ∧ ixOf (A.1 A.2.1).1.1 (A.1 A.2.1).1.2.1 p ≤ (A.1 A.2.1).1.2.1 := (@ixOf_le (A.1 A.2.1).1.1 (A.1 A.2.1).1.2.1 p hw1).resolve_left h2
  have hxz : 0 ≤ ixOf (A.1 A.2.1).1.1 (A.1 A.2.1).1.2.1 z ∧ ixOf (A.1 A.2.1).1.1 (A.1 A.2.1).1.2.1 z ≤ (A.1 A.2.1).1.2.1 := (@ixOf_le (A.1 A.2.1).1.1 (A.1 A.2.1).1.2.1 z hw1).resolve_left h3
  have hpz : ixOf (A.1 A.2.1).1.1 (A.1 A.2.1).1.2.1 p ≤ ixOf (A.1 A.2.1).1.1 (A.1 A.2.1).1.2.1 z := by have := ixOf_mono (F := (A.1 A.2.1).1.1) (n := (A.1 A.2.1).1.2.1) (p := p) (z := z) (by omega) h2 h3; omega
  obtain ⟨σ1, k1, pi1, hkk, b1, b2, b3, hk1, hS1⟩ := beg_ex hS hA
  have e00 : σ1.1 0 0 = σ.1 0 0 := b2.2.2.2.1 0 (by omega) 0
  obtain ⟨s1, s2, s3, s4, s5, s6, s7, s8, s9, s10⟩ := gamk k1 hk1
  obtain ⟨t1, t2, t3, t4, t5, t6, t7, t8, t9⟩ := strk hS1 k1 hk1
  obtain ⟨σ', c1, c2, c3⟩ := con_strike hS1 hk1 b3 (a := a) hxp.1 hpz hxz.2 (fun q => by
    by_cases h6 : 60 ≤ (A.1 A.2.1).2.1.1
    · exact absurd ⟨rfl, h6, q⟩ h5
    · omega)
  refine ⟨σ', pi1, ?_, Ed.pap b2 hkk c2 (c3.mono (by omega) (by omega))⟩
  by_cases h6 : 60 ≤ (A.1 A.2.1).2.1.1
  · skip
    refine con_of_go mfX9_erase.1 trivial (Nat.le_of_ble_eq_true rfl) rfl (by decide) ?_
    show Go _ _ _ _ 0 [vA _, vI _, vI _, vI _, vT 9 0, vT 9 0, vT 9 0, vT 9 0] [] _ _
    refine go_iload_n (at_of tX9_erase 0 0 rfl) rfl ?_
    refine go_cS (ok_Author h1) lk_X9_66 rfl (at_of tX9_erase 0 1 rfl) rfl (by decide) rfl (Nat.le_of_ble_eq_true rfl) rfl (by first | decide | exact ⟨Nat.zero_le _, Nat.zero_le _⟩) ?_
    refine go_aload_n (at_of tX9_erase 0 2 rfl) rfl ?_
    refine go_iload_n (at_of tX9_erase 0 3 rfl) rfl ?_
    refine go_cV (ok_Place hS hA h2) lk_X9_70 rfl (by first | assumption | exact G_0 | exact g1_ | exact G_83 | exact G_87 | exact G_92 | exact G_96 | exact G_98) (at_of tX9_erase 0 4 rfl) rfl (by decide) rfl (Nat.le_of_ble_eq_true rfl) rfl (by first | decide | exact ⟨Nat.zero_le _, Nat.zero_le _⟩) ?_
    refine go_istore (at_of tX9_erase 0 5 rfl) rfl rfl ?_
    refine go_aload_n (at_of tX9_erase 0 6 rfl) rfl ?_
    refine go_iload_n (at_of tX9_erase 0 7 rfl) rfl ?_
    refine go_cV (ok_Place hS hA h3) lk_X9_70 rfl (by first | assumption | exact G_0 | exact g1_ | exact G_83 | exact G_87 | exact G_92 | exact G_96 | exact G_98) (at_of tX9_erase 0 8 rfl) rfl (by decide) rfl (Nat.le_of_ble_eq_true rfl) rfl (by first | decide | exact ⟨Nat.zero_le _, Nat.zero_le _⟩) ?_
    refine go_istore (at_of tX9_erase 0 9 rfl) rfl rfl ?_
    refine go_iload_n (at_of tX9_erase 0 10 rfl) rfl ?_
    refine go_iload_n (at_of tX9_erase 0 11 rfl) rfl ?_
    refine go_icmp_lt (tgt := 33) (at_of tX9_erase 0 12 rfl) (by decide) (fun h20 => ?_) (fun h20 => ?_)
    rotate_left
    · exfalso; omega
    refine go_aload_n (at_of tX9_erase 1 2 rfl) rfl ?_
    refine go_getr fl_X9_16 rfl (by first | assumption | exact G_0 | exact g1_ | exact G_83 | exact G_87 | exact G_92 | exact G_96 | exact G_98) (by first | assumption | exact (hS _ _ rfl).trans rfl) (at_of tX9_erase 1 3 rfl) ?_
    refine go_cV (con_now hS hA) lk_X9_114 rfl (by first | assumption | exact G_0 | exact g1_ | exact G_83 | exact G_87 | exact G_92 | exact G_96 | exact G_98) (at_of tX9_erase 1 4 rfl) rfl (by decide) rfl (Nat.le_of_ble_eq_true rfl) rfl (by first | decide | exact ⟨Nat.zero_le _, Nat.zero_le _⟩) ?_
    refine go_astore (at_of tX9_erase 1 5 rfl) rfl rfl ?_
    refine go_aload_n (at_of tX9_erase 1 6 rfl) rfl ?_
    refine go_getf fl_X9_7 rfl (by first | assumption | exact G_0 | exact g1_ | exact G_83 | exact G_87 | exact G_92 | exact G_96 | exact G_98) (at_of tX9_erase 1 7 rfl) ?_
    refine go_if_eq (tgt := 83) (at_of tX9_erase 1 8 rfl) (by decide) (fun h46 => ?_) (fun h46 => ?_)
    · exfalso; rw [htr] at h46; exact absurd h46 (by decide)
    refine go_aload (at_of tX9_erase 1 9 rfl) rfl ?_
    refine go_getr fl_X9_118 rfl (by first | assumption | exact G_0 | exact g1_ | exact G_83 | exact G_87 | exact G_92 | exact G_96 | exact G_98) (by first | assumption | exact (hS _ _ rfl).trans rfl) (at_of tX9_erase 1 10 rfl) ?_
    refine go_cV (l_isFull hS hk hD) lk_X9_122 rfl (by first | assumption | exact G_0 | exact g1_ | exact G_83 | exact G_87 | exact G_92 | exact G_96 | exact G_98) (at_of tX9_erase 1 11 rfl) rfl (by decide) rfl (Nat.le_of_ble_eq_true rfl) rfl (by first | decide | exact ⟨Nat.zero_le _, Nat.zero_le _⟩) ?_
    refine go_if_eq (tgt := 83) (at_of tX9_erase 1 12 rfl) (by decide) (fun h57 => ?_) (fun h57 => ?_)
    · exfalso; exact bI_0.mp h57 h6
    refine go_aload (at_of tX9_erase 1 13 rfl) rfl ?_
    refine go_iload_n (at_of tX9_erase 1 14 rfl) rfl ?_
    refine go_iload (at_of tX9_erase 1 15 rfl) rfl rfl ?_
    refine go_iload (at_of tX9_erase 2 0 rfl) rfl rfl ?_
    refine go_cV (p_hasOthers hS hk hD hxp.1 hpz (by omega)) lk_X9_125 rfl (by first | assumption | exact G_0 | exact g1_ | exact G_83 | exact G_87 | exact G_92 | exact G_96 | exact G_98) (at_of tX9_erase 2 1 rfl) rfl (by decide) rfl (Nat.le_of_ble_eq_true rfl) rfl (by first | decide | exact ⟨Nat.zero_le _, Nat.zero_le _⟩) ?_
    refine go_if_eq (tgt := 83) (at_of tX9_erase 2 2 rfl) (by decide) (fun h70 => ?_) (fun h70 => ?_)
    rotate_left
    · exfalso; exact h5 ⟨rfl, h6, bI_1.mp h70⟩
    refine go_aload (at_of tX9_erase 2 8 rfl) rfl ?_
    refine go_getr fl_X9_131 rfl (by first | assumption | exact G_0 | exact g1_ | exact G_83 | exact G_87 | exact G_92 | exact G_96 | exact G_98) (by first | assumption | exact (hS _ _ rfl).trans rfl) (at_of tX9_erase 2 9 rfl) ?_
    refine go_iload (at_of tX9_erase 2 10 rfl) rfl rfl ?_
    refine go_iload (at_of tX9_erase 2 11 rfl) rfl rfl ?_
    refine go_cV (r_isGuarded hS hk hR hxp) lk_X9_135 rfl (by first | assumption | exact G_0 | exact g1_ | exact G_83 | exact G_87 | exact G_92 | exact G_96 | exact G_98) (at_of tX9_erase 2 12 rfl) rfl (by decide) rfl (Nat.le_of_ble_eq_true rfl) rfl (by first | decide | exact ⟨Nat.zero_le _, Nat.zero_le _⟩) ?_
    refine go_if_eq (tgt := 108) (at_of tX9_erase 2 13 rfl) (by decide) (fun h95 => ?_) (fun h95 => ?_)
    rotate_left
    · exfalso; exact h8 (bI_1.mp h95)
    refine go_aload_n (at_of tX9_erase 3 3 rfl) rfl ?_
    refine go_getr fl_X9_16 rfl (by first | assumption | exact G_0 | exact g1_ | exact G_83 | exact G_87 | exact G_92 | exact G_96 | exact G_98) (by first | assumption | exact (hS _ _ rfl).trans rfl) (at_of tX9_erase 3 4 rfl) ?_
    refine go_cV (b1) lk_X9_146 rfl (by first | assumption | exact G_0 | exact g1_ | exact G_83 | exact G_87 | exact G_92 | exact G_96 | exact G_98) (at_of tX9_erase 3 5 rfl) rfl (by decide) rfl (Nat.le_of_ble_eq_true rfl) rfl (by first | decide | exact ⟨Nat.zero_le _, Nat.zero_le _⟩) ?_
    refine go_astore (at_of tX9_erase 3 6 rfl) rfl rfl ?_
    refine go_aload_n (at_of tX9_erase 3 7 rfl) rfl ?_
    refine go_getf fl_X9_7 rfl (by first | assumption | exact G_0 | exact g1_ | exact G_83 | exact G_87 | exact G_92 | exact G_96 | exact G_98) (at_of tX9_erase 3 8 rfl) ?_
    refine go_if_eq (tgt := 135) (at_of tX9_erase 3 9 rfl) (by decide) (fun h121 => ?_) (fun h121 => ?_)
    · exfalso; rw [e00, htr] at h121; exact absurd h121 (by decide)
    refine go_aload (at_of tX9_erase 3 10 rfl) rfl ?_
    refine go_iload_n (at_of tX9_erase 3 11 rfl) rfl ?_
    refine go_iload (at_of tX9_erase 3 12 rfl) rfl rfl ?_
    refine go_iload (at_of tX9_erase 3 13 rfl) rfl rfl ?_
    refine go_cV (c1) lk_X9_149 rfl (by first | assumption | exact G_0 | exact g1_ | exact G_83 | exact G_87 | exact G_92 | exact G_96 | exact G_98) (at_of tX9_erase 3 14 rfl) rfl (by decide) rfl (Nat.le_of_ble_eq_true rfl) rfl (by first | decide | exact ⟨Nat.zero_le _, Nat.zero_le _⟩) ?_
    exact go_reti (at_of tX9_erase 3 15 rfl) rfl
  · skip
    refine con_of_go mfX9_erase.1 trivial (Nat.le_of_ble_eq_true rfl) rfl (by decide) ?_
    show Go _ _ _ _ 0 [vA _, vI _, vI _, vI _, vT 9 0, vT 9 0, vT 9 0, vT 9 0] [] _ _
    refine go_iload_n (at_of tX9_erase 0 0 rfl) rfl ?_
    refine go_cS (ok_Author h1) lk_X9_66 rfl (at_of tX9_erase 0 1 rfl) rfl (by decide) rfl (Nat.le_of_ble_eq_true rfl) rfl (by first | decide | exact ⟨Nat.zero_le _, Nat.zero_le _⟩) ?_
    refine go_aload_n (at_of tX9_erase 0 2 rfl) rfl ?_
    refine go_iload_n (at_of tX9_erase 0 3 rfl) rfl ?_
    refine go_cV (ok_Place hS hA h2) lk_X9_70 rfl (by first | assumption | exact G_0 | exact g1_ | exact G_83 | exact G_87 | exact G_92 | exact G_96 | exact G_98) (at_of tX9_erase 0 4 rfl) rfl (by decide) rfl (Nat.le_of_ble_eq_true rfl) rfl (by first | decide | exact ⟨Nat.zero_le _, Nat.zero_le _⟩) ?_
    refine go_istore (at_of tX9_erase 0 5 rfl) rfl rfl ?_
    refine go_aload_n (at_of tX9_erase 0 6 rfl) rfl ?_
    refine go_iload_n (at_of tX9_erase 0 7 rfl) rfl ?_
    refine go_cV (ok_Place hS hA h3) lk_X9_70 rfl (by first | assumption | exact G_0 | exact g1_ | exact G_83 | exact G_87 | exact G_92 | exact G_96 | exact G_98) (at_of tX9_erase 0 8 rfl) rfl (by decide) rfl (Nat.le_of_ble_eq_true rfl) rfl (by first | decide | exact ⟨Nat.zero_le _, Nat.zero_le _⟩) ?_
    refine go_istore (at_of tX9_erase 0 9 rfl) rfl rfl ?_
    refine go_iload_n (at_of tX9_erase 0 10 rfl) rfl ?_
    refine go_iload_n (at_of tX9_erase 0 11 rfl) rfl ?_
    refine go_icmp_lt (tgt := 33) (at_of tX9_erase 0 12 rfl) (by decide) (fun h20 => ?_) (fun h20 => ?_)
    rotate_left
    · exfalso; omega
    refine go_aload_n (at_of tX9_erase 1 2 rfl) rfl ?_
    refine go_getr fl_X9_16 rfl (by first | assumption | exact G_0 | exact g1_ | exact G_83 | exact G_87 | exact G_92 | exact G_96 | exact G_98) (by first | assumption | exact (hS _ _ rfl).trans rfl) (at_of tX9_erase 1 3 rfl) ?_
    refine go_cV (con_now hS hA) lk_X9_114 rfl (by first | assumption | exact G_0 | exact g1_ | exact G_83 | exact G_87 | exact G_92 | exact G_96 | exact G_98) (at_of tX9_erase 1 4 rfl) rfl (by decide) rfl (Nat.le_of_ble_eq_true rfl) rfl (by first | decide | exact ⟨Nat.zero_le _, Nat.zero_le _⟩) ?_
    refine go_astore (at_of tX9_erase 1 5 rfl) rfl rfl ?_
    refine go_aload_n (at_of tX9_erase 1 6 rfl) rfl ?_
    refine go_getf fl_X9_7 rfl (by first | assumption | exact G_0 | exact g1_ | exact G_83 | exact G_87 | exact G_92 | exact G_96 | exact G_98) (at_of tX9_erase 1 7 rfl) ?_
    refine go_if_eq (tgt := 83) (at_of tX9_erase 1 8 rfl) (by decide) (fun h46 => ?_) (fun h46 => ?_)
    · exfalso; rw [htr] at h46; exact absurd h46 (by decide)
    refine go_aload (at_of tX9_erase 1 9 rfl) rfl ?_
    refine go_getr fl_X9_118 rfl (by first | assumption | exact G_0 | exact g1_ | exact G_83 | exact G_87 | exact G_92 | exact G_96 | exact G_98) (by first | assumption | exact (hS _ _ rfl).trans rfl) (at_of tX9_erase 1 10 rfl) ?_
    refine go_cV (l_isFull hS hk hD) lk_X9_122 rfl (by first | assumption | exact G_0 | exact g1_ | exact G_83 | exact G_87 | exact G_92 | exact G_96 | exact G_98) (at_of tX9_erase 1 11 rfl) rfl (by decide) rfl (Nat.le_of_ble_eq_true rfl) rfl (by first | decide | exact ⟨Nat.zero_le _, Nat.zero_le _⟩) ?_
    refine go_if_eq (tgt := 83) (at_of tX9_erase 1 12 rfl) (by decide) (fun h57 => ?_) (fun h57 => ?_)
    rotate_left
    · exfalso; exact h6 (bI_1.mp h57)
    refine go_aload (at_of tX9_erase 2 8 rfl) rfl ?_
    refine go_getr fl_X9_131 rfl (by first | assumption | exact G_0 | exact g1_ | exact G_83 | exact G_87 | exact G_92 | exact G_96 | exact G_98) (by first | assumption | exact (hS _ _ rfl).trans rfl) (at_of tX9_erase 2 9 rfl) ?_
    refine go_iload (at_of tX9_erase 2 10 rfl) rfl rfl ?_
    refine go_iload (at_of tX9_erase 2 11 rfl) rfl rfl ?_
    refine go_cV (r_isGuarded hS hk hR hxp) lk_X9_135 rfl (by first | assumption | exact G_0 | exact g1_ | exact G_83 | exact G_87 | exact G_92 | exact G_96 | exact G_98) (at_of tX9_erase 2 12 rfl) rfl (by decide) rfl (Nat.le_of_ble_eq_true rfl) rfl (by first | decide | exact ⟨Nat.zero_le _, Nat.zero_le _⟩) ?_
    refine go_if_eq (tgt := 108) (at_of tX9_erase 2 13 rfl) (by decide) (fun h95 => ?_) (fun h95 => ?_)
    rotate_left
    · exfalso; exact h8 (bI_1.mp h95)
    refine go_aload_n (at_of tX9_erase 3 3 rfl) rfl ?_
    refine go_getr fl_X9_16 rfl (by first | assumption | exact G_0 | exact g1_ | exact G_83 | exact G_87 | exact G_92 | exact G_96 | exact G_98) (by first | assumption | exact (hS _ _ rfl).trans rfl) (at_of tX9_erase 3 4 rfl) ?_
    refine go_cV (b1) lk_X9_146 rfl (by first | assumption | exact G_0 | exact g1_ | exact G_83 | exact G_87 | exact G_92 | exact G_96 | exact G_98) (at_of tX9_erase 3 5 rfl) rfl (by decide) rfl (Nat.le_of_ble_eq_true rfl) rfl (by first | decide | exact ⟨Nat.zero_le _, Nat.zero_le _⟩) ?_
    refine go_astore (at_of tX9_erase 3 6 rfl) rfl rfl ?_
    refine go_aload_n (at_of tX9_erase 3 7 rfl) rfl ?_
    refine go_getf fl_X9_7 rfl (by first | assumption | exact G_0 | exact g1_ | exact G_83 | exact G_87 | exact G_92 | exact G_96 | exact G_98) (at_of tX9_erase 3 8 rfl) ?_
    refine go_if_eq (tgt := 135) (at_of tX9_erase 3 9 rfl) (by decide) (fun h121 => ?_) (fun h121 => ?_)
    · exfalso; rw [e00, htr] at h121; exact absurd h121 (by decide)
    refine go_aload (at_of tX9_erase 3 10 rfl) rfl ?_
    refine go_iload_n (at_of tX9_erase 3 11 rfl) rfl ?_
    refine go_iload (at_of tX9_erase 3 12 rfl) rfl rfl ?_
    refine go_iload (at_of tX9_erase 3 13 rfl) rfl rfl ?_
    refine go_cV (c1) lk_X9_149 rfl (by first | assumption | exact G_0 | exact g1_ | exact G_83 | exact G_87 | exact G_92 | exact G_96 | exact G_98) (at_of tX9_erase 3 14 rfl) rfl (by decide) rfl (Nat.le_of_ble_eq_true rfl) rfl (by first | decide | exact ⟨Nat.zero_le _, Nat.zero_le _⟩) ?_
    exact go_reti (at_of tX9_erase 3 15 rfl) rfl
theorem ok_accept (hS : Str σ.2.1) {pi : Nat → Nat} {A : PastD} (hA : PastR σ pi A) {c : Int} (h1 : 0 ≤ c ∧ c < (A.1 A.2.1).2.1.1) (h2 : (A.1 A.2.1).2.1.2.2.2 c = 119) : ∃ σ' pi', Con 4 mX9_accept 0 0 [vA 0, vI c] σ (vI (concN (A.1 A.2.1).1.1 (A.1 A.2.1).1.2.1 c), σ') ∧ Ed σ σ' pi' (edA (begA A) (setlD (A.1 A.2.1) c true)) := by
  obtain ⟨hp, hd, hu, hle, hrep⟩ := id hA
  have hk7 := (hp.1 A.2.1 (by omega)).2
  have hk : pi A.2.1 < 8 := by omega
  have hD := hrep A.2.1 (by omega)
  have hR := hD.1
  have hL := hD.2.1.2.2.1
  have hn := hR.1
  obtain ⟨hw1, hw2, hw3⟩ := hR.2.2.2
  have hm := hD.2.1.1
  obtain ⟨l1, l2, l3⟩ := hD.2.1.2.2.2
  obtain ⟨g1, g2, g3, g4, g5, g6, g7, g8, g9, g10⟩ := gamk _ hk
  obtain ⟨p1, p2, p3, p4, p5, p6, p7, p8, p9⟩ := strk hS _ hk
  obtain ⟨σ1, k1, pi1, hkk, b1, b2, b3, hk1, hS1⟩ := beg_ex hS hA
  have e00 : σ1.1 0 0 = σ.1 0 0 := b2.2.2.2.1 0 (by omega) 0
  obtain ⟨s1, s2, s3, s4, s5, s6, s7, s8, s9, s10⟩ := gamk k1 hk1
  obtain ⟨t1, t2, t3, t4, t5, t6, t7, t8, t9⟩ := strk hS1 k1 hk1
  obtain ⟨σ', c1, c2, c3⟩ := con_settle hS1 hk1 b3 (c := c) (acc := true) h1
  refine ⟨σ', pi1, ?_, Ed.pap b2 hkk c2 (c3.mono (by omega) (by omega))⟩
  refine con_of_go mfX9_accept.1 trivial (Nat.le_of_ble_eq_true rfl) rfl (by decide) ?_
  show Go _ _ _ _ 0 [vA _, vI _] [] _ _
  refine go_aload_n (at_of tX9_accept 0 0 rfl) rfl ?_
  refine go_iload_n (at_of tX9_accept 0 1 rfl) rfl ?_
  refine go_cV (ok_Waiting hS hA h1 h2) lk_X9_249 rfl (by first | assumption | exact G_0 | exact g1_ | exact G_83 | exact G_87 | exact G_92 | exact G_96 | exact G_98) (at_of tX9_accept 0 2 rfl) rfl (by decide) rfl (Nat.le_of_ble_eq_true rfl) rfl (by first | decide | exact ⟨Nat.zero_le _, Nat.zero_le _⟩) ?_
  refine go_aload_n (at_of tX9_accept 0 3 rfl) rfl ?_
  refine go_getr fl_X9_16 rfl (by first | assumption | exact G_0 | exact g1_ | exact G_83 | exact G_87 | exact G_92 | exact G_96 | exact G_98) (by first | assumption | exact (hS _ _ rfl).trans rfl) (at_of tX9_accept 0 4 rfl) ?_
  refine go_cV (b1) lk_X9_146 rfl (by first | assumption | exact G_0 | exact g1_ | exact G_83 | exact G_87 | exact G_92 | exact G_96 | exact G_98) (at_of tX9_accept 0 5 rfl) rfl (by decide) rfl (Nat.le_of_ble_eq_true rfl) rfl (by first | decide | exact ⟨Nat.zero_le _, Nat.zero_le _⟩) ?_
  refine go_iload_n (at_of tX9_accept 0 6 rfl) rfl ?_
  refine go_iconst (at_of tX9_accept 0 7 rfl) (by unfold in32; omega) ?_
  refine go_cV (c1) lk_X9_252 rfl (by first | assumption | exact G_0 | exact g1_ | exact G_83 | exact G_87 | exact G_92 | exact G_96 | exact G_98) (at_of tX9_accept 0 8 rfl) rfl (by decide) rfl (Nat.le_of_ble_eq_true rfl) rfl (by first | decide | exact ⟨Nat.zero_le _, Nat.zero_le _⟩) ?_
  exact go_reti (at_of tX9_accept 0 9 rfl) rfl
theorem ok_refuse (hS : Str σ.2.1) {pi : Nat → Nat} {A : PastD} (hA : PastR σ pi A) {c : Int} (h1 : 0 ≤ c ∧ c < (A.1 A.2.1).2.1.1) (h2 : (A.1 A.2.1).2.1.2.2.2 c = 119) : ∃ σ' pi', Con 4 mX9_refuse 0 0 [vA 0, vI c] σ (vI (concN (A.1 A.2.1).1.1 (A.1 A.2.1).1.2.1 c), σ') ∧ Ed σ σ' pi' (edA (begA A) (setlD (A.1 A.2.1) c false)) := by
  obtain ⟨hp, hd, hu, hle, hrep⟩ := id hA
  have hk7 := (hp.1 A.2.1 (by omega)).2
  have hk : pi A.2.1 < 8 := by omega
  have hD := hrep A.2.1 (by omega)
  have hR := hD.1
  have hL := hD.2.1.2.2.1
  have hn := hR.1
  obtain ⟨hw1, hw2, hw3⟩ := hR.2.2.2
  have hm := hD.2.1.1
  obtain ⟨l1, l2, l3⟩ := hD.2.1.2.2.2
  obtain ⟨g1, g2, g3, g4, g5, g6, g7, g8, g9, g10⟩ := gamk _ hk
  obtain ⟨p1, p2, p3, p4, p5, p6, p7, p8, p9⟩ := strk hS _ hk
  obtain ⟨σ1, k1, pi1, hkk, b1, b2, b3, hk1, hS1⟩ := beg_ex hS hA
  have e00 : σ1.1 0 0 = σ.1 0 0 := b2.2.2.2.1 0 (by omega) 0
  obtain ⟨s1, s2, s3, s4, s5, s6, s7, s8, s9, s10⟩ := gamk k1 hk1
  obtain ⟨t1, t2, t3, t4, t5, t6, t7, t8, t9⟩ := strk hS1 k1 hk1
  obtain ⟨σ', c1, c2, c3⟩ := con_settle hS1 hk1 b3 (c := c) (acc := false) h1
  refine ⟨σ', pi1, ?_, Ed.pap b2 hkk c2 (c3.mono (by omega) (by omega))⟩
  refine con_of_go mfX9_refuse.1 trivial (Nat.le_of_ble_eq_true rfl) rfl (by decide) ?_
  show Go _ _ _ _ 0 [vA _, vI _] [] _ _
  refine go_aload_n (at_of tX9_refuse 0 0 rfl) rfl ?_
  refine go_iload_n (at_of tX9_refuse 0 1 rfl) rfl ?_
  refine go_cV (ok_Waiting hS hA h1 h2) lk_X9_249 rfl (by first | assumption | exact G_0 | exact g1_ | exact G_83 | exact G_87 | exact G_92 | exact G_96 | exact G_98) (at_of tX9_refuse 0 2 rfl) rfl (by decide) rfl (Nat.le_of_ble_eq_true rfl) rfl (by first | decide | exact ⟨Nat.zero_le _, Nat.zero_le _⟩) ?_
  refine go_aload_n (at_of tX9_refuse 0 3 rfl) rfl ?_
  refine go_getr fl_X9_16 rfl (by first | assumption | exact G_0 | exact g1_ | exact G_83 | exact G_87 | exact G_92 | exact G_96 | exact G_98) (by first | assumption | exact (hS _ _ rfl).trans rfl) (at_of tX9_refuse 0 4 rfl) ?_
  refine go_cV (b1) lk_X9_146 rfl (by first | assumption | exact G_0 | exact g1_ | exact G_83 | exact G_87 | exact G_92 | exact G_96 | exact G_98) (at_of tX9_refuse 0 5 rfl) rfl (by decide) rfl (Nat.le_of_ble_eq_true rfl) rfl (by first | decide | exact ⟨Nat.zero_le _, Nat.zero_le _⟩) ?_
  refine go_iload_n (at_of tX9_refuse 0 6 rfl) rfl ?_
  refine go_iconst (at_of tX9_refuse 0 7 rfl) (by unfold in32; omega) ?_
  refine go_cV (c1) lk_X9_252 rfl (by first | assumption | exact G_0 | exact g1_ | exact G_83 | exact G_87 | exact G_92 | exact G_96 | exact G_98) (at_of tX9_refuse 0 8 rfl) rfl (by decide) rfl (Nat.le_of_ble_eq_true rfl) rfl (by first | decide | exact ⟨Nat.zero_le _, Nat.zero_le _⟩) ?_
  exact go_reti (at_of tX9_refuse 0 9 rfl) rfl
theorem ok_judge (hS : Str σ.2.1) {pi : Nat → Nat} {A : PastD} (hA : PastR σ pi A) {a : Int} {acc : Bool} (h : a = -1 ∨ (0 ≤ a ∧ a < 4)) : ∃ σ' pi', Con 5 mX9_judge 0 0 [vA 0, vI a, vI (bI (acc = true))] σ (vI (stlAll (A.1 A.2.1) a acc).2, σ') ∧ Ed σ σ' pi' (edA (begA A) (stlAll (A.1 A.2.1) a acc).1) := by
  obtain ⟨hp, hd, hu, hle, hrep⟩ := id hA
  have hk7 := (hp.1 A.2.1 (by omega)).2
  have hk : pi A.2.1 < 8 := by omega
  have hD := hrep A.2.1 (by omega)
  have hR := hD.1
  have hL := hD.2.1.2.2.1
  have hn := hR.1
  obtain ⟨hw1, hw2, hw3⟩ := hR.2.2.2
  have hm := hD.2.1.1
  obtain ⟨l1, l2, l3⟩ := hD.2.1.2.2.2
  obtain ⟨g1, g2, g3, g4, g5, g6, g7, g8, g9, g10⟩ := gamk _ hk
  obtain ⟨p1, p2, p3, p4, p5, p6, p7, p8, p9⟩ := strk hS _ hk
  obtain ⟨σ1, k1, pi1, hkk, b1, b2, b3, hk1, hS1⟩ := beg_ex hS hA
  have e00 : σ1.1 0 0 = σ.1 0 0 := b2.2.2.2.1 0 (by omega) 0
  obtain ⟨s1, s2, s3, s4, s5, s6, s7, s8, s9, s10⟩ := gamk k1 hk1
  obtain ⟨t1, t2, t3, t4, t5, t6, t7, t8, t9⟩ := strk hS1 k1 hk1
  obtain ⟨σ', c1, c2, c3⟩ := con_settleAll hS1 hk1 b3 (a := a) (acc := acc)
  refine ⟨σ', pi1, ?_, Ed.pap b2 hkk c2 (c3.mono (by omega) (by omega))⟩
  by_cases ha : a = -1
  · skip
    refine con_of_go mfX9_judge.1 trivial (Nat.le_of_ble_eq_true rfl) rfl (by decide) ?_
    show Go _ _ _ _ 0 [vA _, vI _, vI _] [] _ _
    refine go_iload_n (at_of tX9_judge 0 0 rfl) rfl ?_
    refine go_iconst (at_of tX9_judge 0 1 rfl) (by unfold in32; omega) ?_
    refine go_icmp_eq (tgt := 9) (at_of tX9_judge 0 2 rfl) (by decide) (fun h2 => ?_) (fun h2 => ?_)
    rotate_left
    · exfalso; omega
    refine go_aload_n (at_of tX9_judge 0 5 rfl) rfl ?_
    refine go_getr fl_X9_16 rfl (by first | assumption | exact G_0 | exact g1_ | exact G_83 | exact G_87 | exact G_92 | exact G_96 | exact G_98) (by first | assumption | exact (hS _ _ rfl).trans rfl) (at_of tX9_judge 0 6 rfl) ?_
    refine go_cV (b1) lk_X9_146 rfl (by first | assumption | exact G_0 | exact g1_ | exact G_83 | exact G_87 | exact G_92 | exact G_96 | exact G_98) (at_of tX9_judge 0 7 rfl) rfl (by decide) rfl (Nat.le_of_ble_eq_true rfl) rfl (by first | decide | exact ⟨Nat.zero_le _, Nat.zero_le _⟩) ?_
    refine go_iload_n (at_of tX9_judge 0 8 rfl) rfl ?_
    refine go_iload_n (at_of tX9_judge 0 9 rfl) rfl ?_
    refine go_cV (c1) lk_X9_256 rfl (by first | assumption | exact G_0 | exact g1_ | exact G_83 | exact G_87 | exact G_92 | exact G_96 | exact G_98) (at_of tX9_judge 0 10 rfl) rfl (by decide) rfl (Nat.le_of_ble_eq_true rfl) rfl (by first | decide | exact ⟨Nat.zero_le _, Nat.zero_le _⟩) ?_
    exact go_reti (at_of tX9_judge 0 11 rfl) rfl
  · skip
    refine con_of_go mfX9_judge.1 trivial (Nat.le_of_ble_eq_true rfl) rfl (by decide) ?_
    show Go _ _ _ _ 0 [vA _, vI _, vI _] [] _ _
    refine go_iload_n (at_of tX9_judge 0 0 rfl) rfl ?_
    refine go_iconst (at_of tX9_judge 0 1 rfl) (by unfold in32; omega) ?_
    refine go_icmp_eq (tgt := 9) (at_of tX9_judge 0 2 rfl) (by decide) (fun h2 => ?_) (fun h2 => ?_)
    · exfalso; omega
    refine go_iload_n (at_of tX9_judge 0 3 rfl) rfl ?_
    refine go_cS (ok_Author (by omega)) lk_X9_66 rfl (at_of tX9_judge 0 4 rfl) rfl (by decide) rfl (Nat.le_of_ble_eq_true rfl) rfl (by first | decide | exact ⟨Nat.zero_le _, Nat.zero_le _⟩) ?_
    refine go_aload_n (at_of tX9_judge 0 5 rfl) rfl ?_
    refine go_getr fl_X9_16 rfl (by first | assumption | exact G_0 | exact g1_ | exact G_83 | exact G_87 | exact G_92 | exact G_96 | exact G_98) (by first | assumption | exact (hS _ _ rfl).trans rfl) (at_of tX9_judge 0 6 rfl) ?_
    refine go_cV (b1) lk_X9_146 rfl (by first | assumption | exact G_0 | exact g1_ | exact G_83 | exact G_87 | exact G_92 | exact G_96 | exact G_98) (at_of tX9_judge 0 7 rfl) rfl (by decide) rfl (Nat.le_of_ble_eq_true rfl) rfl (by first | decide | exact ⟨Nat.zero_le _, Nat.zero_le _⟩) ?_
    refine go_iload_n (at_of tX9_judge 0 8 rfl) rfl ?_
    refine go_iload_n (at_of tX9_judge 0 9 rfl) rfl ?_
    refine go_cV (c1) lk_X9_256 rfl (by first | assumption | exact G_0 | exact g1_ | exact G_83 | exact G_87 | exact G_92 | exact G_96 | exact G_98) (at_of tX9_judge 0 10 rfl) rfl (by decide) rfl (Nat.le_of_ble_eq_true rfl) rfl (by first | decide | exact ⟨Nat.zero_le _, Nat.zero_le _⟩) ?_
    exact go_reti (at_of tX9_judge 0 11 rfl) rfl
theorem th4_undo (hS : Str σ.2.1) {pi : Nat → Nat} {A : PastD} (hA : PastR σ pi A) (h : A.2.1 = 0) : Con 2 mX9_undo 1 6 [vA 0] σ (vT 24 0, σ) := by
  refine con_of_go mfX9_undo.1 (Nat.le_of_ble_eq_true rfl) (Nat.le_of_ble_eq_true rfl) rfl (by decide) ?_
  show Go _ _ _ _ 0 [vA _] [] _ _
  refine go_aload_n (at_of tX9_undo 0 0 rfl) rfl ?_
  refine go_getr fl_X9_16 rfl (by first | assumption | exact G_0 | exact g1_ | exact G_83 | exact G_87 | exact G_92 | exact G_96 | exact G_98) (by first | assumption | exact (hS _ _ rfl).trans rfl) (at_of tX9_undo 0 1 rfl) ?_
  refine go_cV (con_canGoBack hS hA) lk_X9_185 rfl (by first | assumption | exact G_0 | exact g1_ | exact G_83 | exact G_87 | exact G_92 | exact G_96 | exact G_98) (at_of tX9_undo 0 2 rfl) rfl (by decide) rfl (Nat.le_of_ble_eq_true rfl) rfl (by first | decide | exact ⟨Nat.zero_le _, Nat.zero_le _⟩) ?_
  refine go_if_ne (tgt := 20) (at_of tX9_undo 0 3 rfl) (by decide) (fun h7 => ?_) (fun h7 => ?_)
  · exfalso; exact absurd (bI_1.mp h7) (by omega)
  exact go_throw (i := 4) (Or.inl ⟨188, 190, 192, _, (at_of tX9_undo 0 4 rfl), (at_of tX9_undo 0 5 rfl), (at_of tX9_undo 0 6 rfl), (at_of tX9_undo 0 7 rfl), (at_of tX9_undo 0 8 rfl), cl_X9_188, List.mem_of_getElem? (i := 12) rfl, inL 876 (by decide +kernel) (by decide +kernel)⟩) (by decide) rfl (Nat.le_of_ble_eq_true rfl) ⟨by decide, by decide⟩ rfl
theorem ok_undo (hS : Str σ.2.1) {pi : Nat → Nat} {A : PastD} (hA : PastR σ pi A) (h : 0 < A.2.1) : ∃ σ', Con 1 mX9_undo 0 0 [vA 0] σ (vI ((A.2.1 - 1 : Nat) : Int), σ') ∧ PastR σ' pi (A.1, A.2.1 - 1, A.2.2 + 1) ∧ Frm σ σ' 1 1 := by
  obtain ⟨σ', c1, c2, c3⟩ := con_goBack hS hA h
  refine ⟨σ', ?_, c2, c3⟩
  refine con_of_go mfX9_undo.1 trivial (Nat.le_of_ble_eq_true rfl) rfl (by decide) ?_
  show Go _ _ _ _ 0 [vA _] [] _ _
  refine go_aload_n (at_of tX9_undo 0 0 rfl) rfl ?_
  refine go_getr fl_X9_16 rfl (by first | assumption | exact G_0 | exact g1_ | exact G_83 | exact G_87 | exact G_92 | exact G_96 | exact G_98) (by first | assumption | exact (hS _ _ rfl).trans rfl) (at_of tX9_undo 0 1 rfl) ?_
  refine go_cV (con_canGoBack hS hA) lk_X9_185 rfl (by first | assumption | exact G_0 | exact g1_ | exact G_83 | exact G_87 | exact G_92 | exact G_96 | exact G_98) (at_of tX9_undo 0 2 rfl) rfl (by decide) rfl (Nat.le_of_ble_eq_true rfl) rfl (by first | decide | exact ⟨Nat.zero_le _, Nat.zero_le _⟩) ?_
  refine go_if_ne (tgt := 20) (at_of tX9_undo 0 3 rfl) (by decide) (fun h7 => ?_) (fun h7 => ?_)
  rotate_left
  · exfalso; exact absurd (bI_0.mp h7) (by omega)
  refine go_aload_n (at_of tX9_undo 0 9 rfl) rfl ?_
  refine go_getr fl_X9_16 rfl (by first | assumption | exact G_0 | exact g1_ | exact G_83 | exact G_87 | exact G_92 | exact G_96 | exact G_98) (by first | assumption | exact (hS _ _ rfl).trans rfl) (at_of tX9_undo 0 10 rfl) ?_
  refine go_cV (c1) lk_X9_193 rfl (by first | assumption | exact G_0 | exact g1_ | exact G_83 | exact G_87 | exact G_92 | exact G_96 | exact G_98) (at_of tX9_undo 0 11 rfl) rfl (by decide) rfl (Nat.le_of_ble_eq_true rfl) rfl (by first | decide | exact ⟨Nat.zero_le _, Nat.zero_le _⟩) ?_
  exact go_reti (at_of tX9_undo 0 12 rfl) rfl
theorem th4_redo (hS : Str σ.2.1) {pi : Nat → Nat} {A : PastD} (hA : PastR σ pi A) (h : A.2.2 = 0) : Con 2 mX9_redo 1 6 [vA 0] σ (vT 24 0, σ) := by
  refine con_of_go mfX9_redo.1 (Nat.le_of_ble_eq_true rfl) (Nat.le_of_ble_eq_true rfl) rfl (by decide) ?_
  show Go _ _ _ _ 0 [vA _] [] _ _
  refine go_aload_n (at_of tX9_redo 0 0 rfl) rfl ?_
  refine go_getr fl_X9_16 rfl (by first | assumption | exact G_0 | exact g1_ | exact G_83 | exact G_87 | exact G_92 | exact G_96 | exact G_98) (by first | assumption | exact (hS _ _ rfl).trans rfl) (at_of tX9_redo 0 1 rfl) ?_
  refine go_cV (con_canGoOn hS hA) lk_X9_197 rfl (by first | assumption | exact G_0 | exact g1_ | exact G_83 | exact G_87 | exact G_92 | exact G_96 | exact G_98) (at_of tX9_redo 0 2 rfl) rfl (by decide) rfl (Nat.le_of_ble_eq_true rfl) rfl (by first | decide | exact ⟨Nat.zero_le _, Nat.zero_le _⟩) ?_
  refine go_if_ne (tgt := 20) (at_of tX9_redo 0 3 rfl) (by decide) (fun h7 => ?_) (fun h7 => ?_)
  · exfalso; exact absurd (bI_1.mp h7) (by omega)
  exact go_throw (i := 4) (Or.inl ⟨188, 200, 192, _, (at_of tX9_redo 0 4 rfl), (at_of tX9_redo 0 5 rfl), (at_of tX9_redo 0 6 rfl), (at_of tX9_redo 0 7 rfl), (at_of tX9_redo 0 8 rfl), cl_X9_188, List.mem_of_getElem? (i := 11) rfl, inL 876 (by decide +kernel) (by decide +kernel)⟩) (by decide) rfl (Nat.le_of_ble_eq_true rfl) ⟨by decide, by decide⟩ rfl
theorem ok_redo (hS : Str σ.2.1) {pi : Nat → Nat} {A : PastD} (hA : PastR σ pi A) (h : 0 < A.2.2) : ∃ σ', Con 1 mX9_redo 0 0 [vA 0] σ (vI ((A.2.2 - 1 : Nat) : Int), σ') ∧ PastR σ' pi (A.1, A.2.1 + 1, A.2.2 - 1) ∧ Frm σ σ' 1 1 := by
  obtain ⟨σ', c1, c2, c3⟩ := con_goOn hS hA h
  refine ⟨σ', ?_, c2, c3⟩
  refine con_of_go mfX9_redo.1 trivial (Nat.le_of_ble_eq_true rfl) rfl (by decide) ?_
  show Go _ _ _ _ 0 [vA _] [] _ _
  refine go_aload_n (at_of tX9_redo 0 0 rfl) rfl ?_
  refine go_getr fl_X9_16 rfl (by first | assumption | exact G_0 | exact g1_ | exact G_83 | exact G_87 | exact G_92 | exact G_96 | exact G_98) (by first | assumption | exact (hS _ _ rfl).trans rfl) (at_of tX9_redo 0 1 rfl) ?_
  refine go_cV (con_canGoOn hS hA) lk_X9_197 rfl (by first | assumption | exact G_0 | exact g1_ | exact G_83 | exact G_87 | exact G_92 | exact G_96 | exact G_98) (at_of tX9_redo 0 2 rfl) rfl (by decide) rfl (Nat.le_of_ble_eq_true rfl) rfl (by first | decide | exact ⟨Nat.zero_le _, Nat.zero_le _⟩) ?_
  refine go_if_ne (tgt := 20) (at_of tX9_redo 0 3 rfl) (by decide) (fun h7 => ?_) (fun h7 => ?_)
  rotate_left
  · exfalso; exact absurd (bI_0.mp h7) (by omega)
  refine go_aload_n (at_of tX9_redo 0 9 rfl) rfl ?_
  refine go_getr fl_X9_16 rfl (by first | assumption | exact G_0 | exact g1_ | exact G_83 | exact G_87 | exact G_92 | exact G_96 | exact G_98) (by first | assumption | exact (hS _ _ rfl).trans rfl) (at_of tX9_redo 0 10 rfl) ?_
  refine go_cV (c1) lk_X9_202 rfl (by first | assumption | exact G_0 | exact g1_ | exact G_83 | exact G_87 | exact G_92 | exact G_96 | exact G_98) (at_of tX9_redo 0 11 rfl) rfl (by decide) rfl (Nat.le_of_ble_eq_true rfl) rfl (by first | decide | exact ⟨Nat.zero_le _, Nat.zero_le _⟩) ?_
  exact go_reti (at_of tX9_redo 0 12 rfl) rfl
end Api
