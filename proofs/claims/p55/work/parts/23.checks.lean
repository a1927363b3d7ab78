section Checks
variable {σ : St}
theorem G_0 : Gam 0 = (19, 0) := by decide +kernel
theorem G_83 : Gam 83 = (18, 0) := by decide +kernel
theorem G_87 : Gam 87 = (13, 0) := by decide +kernel
theorem G_92 : Gam 92 = (10, 0) := by decide +kernel
theorem G_96 : Gam 96 = (16, 0) := by decide +kernel
theorem G_98 : Gam 98 = (11, 0) := by decide +kernel
theorem con_isLetter {l : Int} : Con 0 mX9_isLetter 0 0 [vI l] σ (vI (bI (97 ≤ l ∧ l ≤ 122 ∨ l = 32 ∨ l = 47)), σ) := by
  refine con_of_go mfX9_isLetter.1 bI_01 (Nat.le_of_ble_eq_true rfl) rfl (by decide) ?_
  show Go _ _ _ _ 0 [vI _] [] _ _
  refine go_iload_n (at_of tX9_isLetter 0 0 rfl) rfl ?_
  refine go_bipush (at_of tX9_isLetter 0 1 rfl) (by decide) ?_
  refine go_icmp_lt (tgt := 12) (at_of tX9_isLetter 0 2 rfl) (by decide) (fun h3 => ?_) (fun h3 => ?_)
  · refine go_iload_n (at_of tX9_isLetter 0 6 rfl) rfl ?_
    refine go_bipush (at_of tX9_isLetter 0 7 rfl) (by decide) ?_
    refine go_icmp_eq (tgt := 24) (at_of tX9_isLetter 0 8 rfl) (by decide) (fun h15 => ?_) (fun h15 => ?_)
    · refine go_iconst (at_of tX9_isLetter 0 12 rfl) (by unfold in32; omega) ?_
      refine go_goto (tgt := 29) (at_of tX9_isLetter 0 13 rfl) (by decide) ?_
      exact go_reti (at_of tX9_isLetter 0 15 rfl) (le_i (by first | exact bI_t (by omega) | exact bI_f (by omega)))
    · refine go_iload_n (at_of tX9_isLetter 0 9 rfl) rfl ?_
      refine go_bipush (at_of tX9_isLetter 0 10 rfl) (by decide) ?_
      refine go_icmp_ne (tgt := 28) (at_of tX9_isLetter 0 11 rfl) (by decide) (fun h21 => ?_) (fun h21 => ?_)
      · refine go_iconst (at_of tX9_isLetter 0 14 rfl) (by unfold in32; omega) ?_
        exact go_reti (at_of tX9_isLetter 0 15 rfl) (le_i (by first | exact bI_t (by omega) | exact bI_f (by omega)))
      · refine go_iconst (at_of tX9_isLetter 0 12 rfl) (by unfold in32; omega) ?_
        refine go_goto (tgt := 29) (at_of tX9_isLetter 0 13 rfl) (by decide) ?_
        exact go_reti (at_of tX9_isLetter 0 15 rfl) (le_i (by first | exact bI_t (by omega) | exact bI_f (by omega)))
  · refine go_iload_n (at_of tX9_isLetter 0 3 rfl) rfl ?_
    refine go_bipush (at_of tX9_isLetter 0 4 rfl) (by decide) ?_
    refine go_icmp_le (tgt := 24) (at_of tX9_isLetter 0 5 rfl) (by decide) (fun h9 => ?_) (fun h9 => ?_)
    · refine go_iconst (at_of tX9_isLetter 0 12 rfl) (by unfold in32; omega) ?_
      refine go_goto (tgt := 29) (at_of tX9_isLetter 0 13 rfl) (by decide) ?_
      exact go_reti (at_of tX9_isLetter 0 15 rfl) (le_i (by first | exact bI_t (by omega) | exact bI_f (by omega)))
    · refine go_iload_n (at_of tX9_isLetter 0 6 rfl) rfl ?_
      refine go_bipush (at_of tX9_isLetter 0 7 rfl) (by decide) ?_
      refine go_icmp_eq (tgt := 24) (at_of tX9_isLetter 0 8 rfl) (by decide) (fun h15 => ?_) (fun h15 => ?_)
      · refine go_iconst (at_of tX9_isLetter 0 12 rfl) (by unfold in32; omega) ?_
        refine go_goto (tgt := 29) (at_of tX9_isLetter 0 13 rfl) (by decide) ?_
        exact go_reti (at_of tX9_isLetter 0 15 rfl) (le_i (by first | exact bI_t (by omega) | exact bI_f (by omega)))
      · refine go_iload_n (at_of tX9_isLetter 0 9 rfl) rfl ?_
        refine go_bipush (at_of tX9_isLetter 0 10 rfl) (by decide) ?_
        refine go_icmp_ne (tgt := 28) (at_of tX9_isLetter 0 11 rfl) (by decide) (fun h21 => ?_) (fun h21 => ?_)
        · refine go_iconst (at_of tX9_isLetter 0 14 rfl) (by unfold in32; omega) ?_
          exact go_reti (at_of tX9_isLetter 0 15 rfl) (le_i (by first | exact bI_t (by omega) | exact bI_f (by omega)))
        · refine go_iconst (at_of tX9_isLetter 0 12 rfl) (by unfold in32; omega) ?_
          refine go_goto (tgt := 29) (at_of tX9_isLetter 0 13 rfl) (by decide) ?_
          exact go_reti (at_of tX9_isLetter 0 15 rfl) (le_i (by first | exact bI_t (by omega) | exact bI_f (by omega)))
theorem ok_Author {a : Int} (h : 0 ≤ a ∧ a < 4) : Con 1 mX9_checkAuthor 0 0 [vI a] σ (vT 8 0, σ) := by
  refine con_of_go mfX9_checkAuthor.1 trivial (Nat.le_of_ble_eq_true rfl) rfl (by decide) ?_
  show Go _ _ _ _ 0 [vI _] [] _ _
  refine go_iload_n (at_of tX9_checkAuthor 0 0 rfl) rfl ?_
  refine go_iconst (at_of tX9_checkAuthor 0 1 rfl) (by unfold in32; omega) ?_
  refine go_cS (con_isWithin) lk_X9_270 rfl (at_of tX9_checkAuthor 0 2 rfl) rfl (by decide) rfl (Nat.le_of_ble_eq_true rfl) rfl (by first | decide | exact ⟨Nat.zero_le _, Nat.zero_le _⟩) ?_
  refine go_if_ne (tgt := 19) (at_of tX9_checkAuthor 0 3 rfl) (by decide) (fun h5 => ?_) (fun h5 => ?_)
  rotate_left
  · exfalso; exact bI_0.mp h5 h
  exact go_retv (at_of tX9_checkAuthor 0 9 rfl) rfl
theorem ixOf_le {F : Int → Int → Int} {n p : Int} (hn : 0 ≤ n) : ixOf F n p = -1 ∨ (0 ≤ ixOf F n p ∧ ixOf F n p ≤ n) := by
  unfold ixOf
  rcases scan_le (seenB F n) (n + 1).toNat 0 p (by omega) with h | ⟨h1, h2, -⟩
  · exact Or.inl h
  · exact Or.inr ⟨h1, by omega⟩
theorem ixOld_le {F : Int → Int → Int} {n p : Int} (hn : 0 ≤ n) : ixOld F n p = -1 ∨ (0 ≤ ixOld F n p ∧ ixOld F n p < n) := by
  unfold ixOld
  rcases scan_le (oldB F n) n.toNat 0 p (by omega) with h | ⟨h1, h2, -⟩
  · exact Or.inl h
  · exact Or.inr ⟨h1, by omega⟩
theorem ok_Place (hS : Str σ.2.1) {pi : Nat → Nat} {A : PastD} (hA : PastR σ pi A) {p : Int} (h : ixOf (A.1 A.2.1).1.1 (A.1 A.2.1).1.2.1 p ≠ -1) : Con 3 mX9_indexOfPlace 0 0 [vA 0, vI p] σ (vI (ixOf (A.1 A.2.1).1.1 (A.1 A.2.1).1.2.1 p), σ) := by
  obtain ⟨hp, hd, hu, hle, hrep⟩ := id hA
  have hk7 := (hp.1 A.2.1 (by omega)).2
  have hk : pi A.2.1 < 8 := by omega
  have hD := hrep A.2.1 (by omega)
  have hR := hD.1
  have hL := hD.2.1.2.2.1
  have hn := hR.1
  obtain ⟨hw1, hw2, hw3⟩ := hR.2.2.2
  have hm := hD.2.1.1
  obtain ⟨l1, l2, l3⟩ := hD.2.1.2.2.2
  obtain ⟨g1, g2, g3, g4, g5, g6, g7, g8, g9, g10⟩ := gamk _ hk
  obtain ⟨p1, p2, p3, p4, p5, p6, p7, p8, p9⟩ := strk hS _ hk
  refine con_of_go mfX9_indexOfPlace.1 trivial (Nat.le_of_ble_eq_true rfl) rfl (by decide) ?_
  show Go _ _ _ _ 0 [vA _, vI _, vT 9 0] [] _ _
  refine go_aload_n (at_of tX9_indexOfPlace 0 0 rfl) rfl ?_
  refine go_getr fl_X9_16 rfl (by first | assumption | exact G_0 | exact g1_ | exact G_83 | exact G_87 | exact G_92 | exact G_96 | exact G_98) (by first | assumption | exact (hS _ _ rfl).trans rfl) (at_of tX9_indexOfPlace 0 1 rfl) ?_
  refine go_cV (con_now hS hA) lk_X9_114 rfl (by first | assumption | exact G_0 | exact g1_ | exact G_83 | exact G_87 | exact G_92 | exact G_96 | exact G_98) (at_of tX9_indexOfPlace 0 2 rfl) rfl (by decide) rfl (Nat.le_of_ble_eq_true rfl) rfl (by first | decide | exact ⟨Nat.zero_le _, Nat.zero_le _⟩) ?_
  refine go_getr fl_X9_131 rfl (by first | assumption | exact G_0 | exact g1_ | exact G_83 | exact G_87 | exact G_92 | exact G_96 | exact G_98) (by first | assumption | exact (hS _ _ rfl).trans rfl) (at_of tX9_indexOfPlace 0 3 rfl) ?_
  refine go_iload_n (at_of tX9_indexOfPlace 0 4 rfl) rfl ?_
  refine go_cV (r_indexOf hS hk hR) lk_X9_444 rfl (by first | assumption | exact G_0 | exact g1_ | exact G_83 | exact G_87 | exact G_92 | exact G_96 | exact G_98) (at_of tX9_indexOfPlace 0 5 rfl) rfl (by decide) rfl (Nat.le_of_ble_eq_true rfl) rfl (by first | decide | exact ⟨Nat.zero_le _, Nat.zero_le _⟩) ?_
  refine go_istore_n (at_of tX9_indexOfPlace 0 6 rfl) rfl rfl ?_
  refine go_iload_n (at_of tX9_indexOfPlace 0 7 rfl) rfl ?_
  refine go_iconst (at_of tX9_indexOfPlace 0 8 rfl) (by unfold in32; omega) ?_
  refine go_icmp_ne (tgt := 31) (at_of tX9_indexOfPlace 0 9 rfl) (by decide) (fun h17 => ?_) (fun h17 => ?_)
  rotate_left
  · exfalso; exact absurd h17 h
  refine go_iload_n (at_of tX9_indexOfPlace 0 15 rfl) rfl ?_
  exact go_reti (at_of tX9_indexOfPlace 1 0 rfl) rfl
theorem ok_Unit (hS : Str σ.2.1) {pi : Nat → Nat} {A : PastD} (hA : PastR σ pi A) {p : Int} (h : ixOf (A.1 A.2.1).1.1 (A.1 A.2.1).1.2.1 p ≠ -1) (h2 : ixOf (A.1 A.2.1).1.1 (A.1 A.2.1).1.2.1 p < (A.1 A.2.1).1.2.1) : Con 4 mX9_indexOfUnit 0 0 [vA 0, vI p] σ (vI (ixOf (A.1 A.2.1).1.1 (A.1 A.2.1).1.2.1 p), σ) := by
  obtain ⟨hp, hd, hu, hle, hrep⟩ := id hA
  have hk7 := (hp.1 A.2.1 (by omega)).2
  have hk : pi A.2.1 < 8 := by omega
  have hD := hrep A.2.1 (by omega)
  have hR := hD.1
  have hL := hD.2.1.2.2.1
  have hn := hR.1
  obtain ⟨hw1, hw2, hw3⟩ := hR.2.2.2
  have hm := hD.2.1.1
  obtain ⟨l1, l2, l3⟩ := hD.2.1.2.2.2
  obtain ⟨g1, g2, g3, g4, g5, g6, g7, g8, g9, g10⟩ := gamk _ hk
  obtain ⟨p1, p2, p3, p4, p5, p6, p7, p8, p9⟩ := strk hS _ hk
  refine con_of_go mfX9_indexOfUnit.1 trivial (Nat.le_of_ble_eq_true rfl) rfl (by decide) ?_
  show Go _ _ _ _ 0 [vA _, vI _, vT 9 0] [] _ _
  refine go_aload_n (at_of tX9_indexOfUnit 0 0 rfl) rfl ?_
  refine go_iload_n (at_of tX9_indexOfUnit 0 1 rfl) rfl ?_
  refine go_cV (ok_Place hS hA h) lk_X9_70 rfl (by first | assumption | exact G_0 | exact g1_ | exact G_83 | exact G_87 | exact G_92 | exact G_96 | exact G_98) (at_of tX9_indexOfUnit 0 2 rfl) rfl (by decide) rfl (Nat.le_of_ble_eq_true rfl) rfl (by first | decide | exact ⟨Nat.zero_le _, Nat.zero_le _⟩) ?_
  refine go_istore_n (at_of tX9_indexOfUnit 0 3 rfl) rfl rfl ?_
  refine go_iload_n (at_of tX9_indexOfUnit 0 4 rfl) rfl ?_
  refine go_aload_n (at_of tX9_indexOfUnit 0 5 rfl) rfl ?_
  refine go_getr fl_X9_16 rfl (by first | assumption | exact G_0 | exact g1_ | exact G_83 | exact G_87 | exact G_92 | exact G_96 | exact G_98) (by first | assumption | exact (hS _ _ rfl).trans rfl) (at_of tX9_indexOfUnit 0 6 rfl) ?_
  refine go_cV (con_now hS hA) lk_X9_114 rfl (by first | assumption | exact G_0 | exact g1_ | exact G_83 | exact G_87 | exact G_92 | exact G_96 | exact G_98) (at_of tX9_indexOfUnit 0 7 rfl) rfl (by decide) rfl (Nat.le_of_ble_eq_true rfl) rfl (by first | decide | exact ⟨Nat.zero_le _, Nat.zero_le _⟩) ?_
  refine go_getr fl_X9_131 rfl (by first | assumption | exact G_0 | exact g1_ | exact G_83 | exact G_87 | exact G_92 | exact G_96 | exact G_98) (by first | assumption | exact (hS _ _ rfl).trans rfl) (at_of tX9_indexOfUnit 0 8 rfl) ?_
  refine go_cV (r_allUnits hS hk hR) lk_X9_378 rfl (by first | assumption | exact G_0 | exact g1_ | exact G_83 | exact G_87 | exact G_92 | exact G_96 | exact G_98) (at_of tX9_indexOfUnit 0 9 rfl) rfl (by decide) rfl (Nat.le_of_ble_eq_true rfl) rfl (by first | decide | exact ⟨Nat.zero_le _, Nat.zero_le _⟩) ?_
  refine go_icmp_lt (tgt := 33) (at_of tX9_indexOfUnit 0 10 rfl) (by decide) (fun h20 => ?_) (fun h20 => ?_)
  rotate_left
  · exfalso; omega
  refine go_iload_n (at_of tX9_indexOfUnit 1 0 rfl) rfl ?_
  exact go_reti (at_of tX9_indexOfUnit 1 1 rfl) rfl
theorem ok_Ung (hS : Str σ.2.1) {pi : Nat → Nat} {A : PastD} (hA : PastR σ pi A) {e : Int} (he : 0 ≤ e ∧ e ≤ (A.1 A.2.1).1.2.1) (h : (A.1 A.2.1).1.1 10 e ≠ 1) : Con 2 mX9_checkUnguarded 0 0 [vA 0, vI e] σ (vT 8 0, σ) := by
  obtain ⟨hp, hd, hu, hle, hrep⟩ := id hA
  have hk7 := (hp.1 A.2.1 (by omega)).2
  have hk : pi A.2.1 < 8 := by omega
  have hD := hrep A.2.1 (by omega)
  have hR := hD.1
  have hL := hD.2.1.2.2.1
  have hn := hR.1
  obtain ⟨hw1, hw2, hw3⟩ := hR.2.2.2
  have hm := hD.2.1.1
  obtain ⟨l1, l2, l3⟩ := hD.2.1.2.2.2
  obtain ⟨g1, g2, g3, g4, g5, g6, g7, g8, g9, g10⟩ := gamk _ hk
  obtain ⟨p1, p2, p3, p4, p5, p6, p7, p8, p9⟩ := strk hS _ hk
  refine con_of_go mfX9_checkUnguarded.1 trivial (Nat.le_of_ble_eq_true rfl) rfl (by decide) ?_
  show Go _ _ _ _ 0 [vA _, vI _] [] _ _
  refine go_aload_n (at_of tX9_checkUnguarded 0 0 rfl) rfl ?_
  refine go_getr fl_X9_16 rfl (by first | assumption | exact G_0 | exact g1_ | exact G_83 | exact G_87 | exact G_92 | exact G_96 | exact G_98) (by first | assumption | exact (hS _ _ rfl).trans rfl) (at_of tX9_checkUnguarded 0 1 rfl) ?_
  refine go_cV (con_now hS hA) lk_X9_114 rfl (by first | assumption | exact G_0 | exact g1_ | exact G_83 | exact G_87 | exact G_92 | exact G_96 | exact G_98) (at_of tX9_checkUnguarded 0 2 rfl) rfl (by decide) rfl (Nat.le_of_ble_eq_true rfl) rfl (by first | decide | exact ⟨Nat.zero_le _, Nat.zero_le _⟩) ?_
  refine go_getr fl_X9_131 rfl (by first | assumption | exact G_0 | exact g1_ | exact G_83 | exact G_87 | exact G_92 | exact G_96 | exact G_98) (by first | assumption | exact (hS _ _ rfl).trans rfl) (at_of tX9_checkUnguarded 0 3 rfl) ?_
  refine go_bipush (at_of tX9_checkUnguarded 0 4 rfl) (by decide) ?_
  refine go_iload_n (at_of tX9_checkUnguarded 0 5 rfl) rfl ?_
  refine go_cV (r_fact hS hk hR (by omega) he) lk_X9_168 rfl (by first | assumption | exact G_0 | exact g1_ | exact G_83 | exact G_87 | exact G_92 | exact G_96 | exact G_98) (at_of tX9_checkUnguarded 0 6 rfl) rfl (by decide) rfl (Nat.le_of_ble_eq_true rfl) rfl (by first | decide | exact ⟨Nat.zero_le _, Nat.zero_le _⟩) ?_
  refine go_iconst (at_of tX9_checkUnguarded 0 7 rfl) (by unfold in32; omega) ?_
  refine go_icmp_ne (tgt := 31) (at_of tX9_checkUnguarded 0 8 rfl) (by decide) (fun h17 => ?_) (fun h17 => ?_)
  rotate_left
  · exfalso; exact absurd h17 h
  exact go_retv (at_of tX9_checkUnguarded 0 14 rfl) rfl
theorem ok_Change (hS : Str σ.2.1) {pi : Nat → Nat} {A : PastD} (hA : PastR σ pi A) {c : Int} (h : 0 ≤ c ∧ c < (A.1 A.2.1).2.1.1) : Con 2 mX9_checkChange 0 0 [vA 0, vI c] σ (vT 8 0, σ) := by
  obtain ⟨hp, hd, hu, hle, hrep⟩ := id hA
  have hk7 := (hp.1 A.2.1 (by omega)).2
  have hk : pi A.2.1 < 8 := by omega
  have hD := hrep A.2.1 (by omega)
  have hR := hD.1
  have hL := hD.2.1.2.2.1
  have hn := hR.1
  obtain ⟨hw1, hw2, hw3⟩ := hR.2.2.2
  have hm := hD.2.1.1
  obtain ⟨l1, l2, l3⟩ := hD.2.1.2.2.2
  obtain ⟨g1, g2, g3, g4, g5, g6, g7, g8, g9, g10⟩ := gamk _ hk
  obtain ⟨p1, p2, p3, p4, p5, p6, p7, p8, p9⟩ := strk hS _ hk
  refine con_of_go mfX9_checkChange.1 trivial (Nat.le_of_ble_eq_true rfl) rfl (by decide) ?_
  show Go _ _ _ _ 0 [vA _, vI _] [] _ _
  refine go_iload_n (at_of tX9_checkChange 0 0 rfl) rfl ?_
  refine go_aload_n (at_of tX9_checkChange 0 1 rfl) rfl ?_
  refine go_getr fl_X9_16 rfl (by first | assumption | exact G_0 | exact g1_ | exact G_83 | exact G_87 | exact G_92 | exact G_96 | exact G_98) (by first | assumption | exact (hS _ _ rfl).trans rfl) (at_of tX9_checkChange 0 2 rfl) ?_
  refine go_cV (con_now hS hA) lk_X9_114 rfl (by first | assumption | exact G_0 | exact g1_ | exact G_83 | exact G_87 | exact G_92 | exact G_96 | exact G_98) (at_of tX9_checkChange 0 3 rfl) rfl (by decide) rfl (Nat.le_of_ble_eq_true rfl) rfl (by first | decide | exact ⟨Nat.zero_le _, Nat.zero_le _⟩) ?_
  refine go_getr fl_X9_118 rfl (by first | assumption | exact G_0 | exact g1_ | exact G_83 | exact G_87 | exact G_92 | exact G_96 | exact G_98) (by first | assumption | exact (hS _ _ rfl).trans rfl) (at_of tX9_checkChange 0 4 rfl) ?_
  refine go_cV (l_many hS hk hD) lk_X9_228 rfl (by first | assumption | exact G_0 | exact g1_ | exact G_83 | exact G_87 | exact G_92 | exact G_96 | exact G_98) (at_of tX9_checkChange 0 5 rfl) rfl (by decide) rfl (Nat.le_of_ble_eq_true rfl) rfl (by first | decide | exact ⟨Nat.zero_le _, Nat.zero_le _⟩) ?_
  refine go_cS (con_isWithin) lk_X9_270 rfl (at_of tX9_checkChange 0 6 rfl) rfl (by decide) rfl (Nat.le_of_ble_eq_true rfl) rfl (by first | decide | exact ⟨Nat.zero_le _, Nat.zero_le _⟩) ?_
  refine go_if_ne (tgt := 31) (at_of tX9_checkChange 0 7 rfl) (by decide) (fun h17 => ?_) (fun h17 => ?_)
  rotate_left
  · exfalso; exact bI_0.mp h17 h
  exact go_retv (at_of tX9_checkChange 0 13 rfl) rfl
theorem ok_Waiting (hS : Str σ.2.1) {pi : Nat → Nat} {A : PastD} (hA : PastR σ pi A) {c : Int} (h : 0 ≤ c ∧ c < (A.1 A.2.1).2.1.1) (hw : (A.1 A.2.1).2.1.2.2.2 c = 119) : Con 3 mX9_checkWaiting 0 0 [vA 0, vI c] σ (vT 8 0, σ) := by
  obtain ⟨hp, hd, hu, hle, hrep⟩ := id hA
  have hk7 := (hp.1 A.2.1 (by omega)).2
  have hk : pi A.2.1 < 8 := by omega
  have hD := hrep A.2.1 (by omega)
  have hR := hD.1
  have hL := hD.2.1.2.2.1
  have hn := hR.1
  obtain ⟨hw1, hw2, hw3⟩ := hR.2.2.2
  have hm := hD.2.1.1
  obtain ⟨l1, l2, l3⟩ := hD.2.1.2.2.2
  obtain ⟨g1, g2, g3, g4, g5, g6, g7, g8, g9, g10⟩ := gamk _ hk
  obtain ⟨p1, p2, p3, p4, p5, p6, p7, p8, p9⟩ := strk hS _ hk
  refine con_of_go mfX9_checkWaiting.1 trivial (Nat.le_of_ble_eq_true rfl) rfl (by decide) ?_
  show Go _ _ _ _ 0 [vA _, vI _] [] _ _
  refine go_aload_n (at_of tX9_checkWaiting 0 0 rfl) rfl ?_
  refine go_iload_n (at_of tX9_checkWaiting 0 1 rfl) rfl ?_
  refine go_cV (ok_Change hS hA h) lk_X9_231 rfl (by first | assumption | exact G_0 | exact g1_ | exact G_83 | exact G_87 | exact G_92 | exact G_96 | exact G_98) (at_of tX9_checkWaiting 0 2 rfl) rfl (by decide) rfl (Nat.le_of_ble_eq_true rfl) rfl (by first | decide | exact ⟨Nat.zero_le _, Nat.zero_le _⟩) ?_
  refine go_aload_n (at_of tX9_checkWaiting 0 3 rfl) rfl ?_
  refine go_getr fl_X9_16 rfl (by first | assumption | exact G_0 | exact g1_ | exact G_83 | exact G_87 | exact G_92 | exact G_96 | exact G_98) (by first | assumption | exact (hS _ _ rfl).trans rfl) (at_of tX9_checkWaiting 0 4 rfl) ?_
  refine go_cV (con_now hS hA) lk_X9_114 rfl (by first | assumption | exact G_0 | exact g1_ | exact G_83 | exact G_87 | exact G_92 | exact G_96 | exact G_98) (at_of tX9_checkWaiting 0 5 rfl) rfl (by decide) rfl (Nat.le_of_ble_eq_true rfl) rfl (by first | decide | exact ⟨Nat.zero_le _, Nat.zero_le _⟩) ?_
  refine go_getr fl_X9_118 rfl (by first | assumption | exact G_0 | exact g1_ | exact G_83 | exact G_87 | exact G_92 | exact G_96 | exact G_98) (by first | assumption | exact (hS _ _ rfl).trans rfl) (at_of tX9_checkWaiting 0 6 rfl) ?_
  refine go_iload_n (at_of tX9_checkWaiting 0 7 rfl) rfl ?_
  refine go_cV (l_state hS hk hD h) lk_X9_241 rfl (by first | assumption | exact G_0 | exact g1_ | exact G_83 | exact G_87 | exact G_92 | exact G_96 | exact G_98) (at_of tX9_checkWaiting 0 8 rfl) rfl (by decide) rfl (Nat.le_of_ble_eq_true rfl) rfl (by first | decide | exact ⟨Nat.zero_le _, Nat.zero_le _⟩) ?_
  refine go_bipush (at_of tX9_checkWaiting 0 9 rfl) (by decide) ?_
  refine go_icmp_eq (tgt := 35) (at_of tX9_checkWaiting 0 10 rfl) (by decide) (fun h21 => ?_) (fun h21 => ?_)
  rotate_left
  · exfalso; omega
  exact go_retv (at_of tX9_checkWaiting 1 0 rfl) rfl
/-- why nothing can be written at i: 0 for no reason -/
def cwE (D : PapD) (tr : Bool) (a i : Int) : Nat := if 200 ≤ D.1.2.1 ∨ (tr = true ∧ 60 ≤ D.2.1.1 ∧ chAhD D a i = -1) then 3 else if D.1.1 10 (endFr D.1.1 D.1.2.1 i) = 1 then 4 else 0
theorem ok_Writing (hS : Str σ.2.1) {pi : Nat → Nat} {A : PastD} (hA : PastR σ pi A) {tr : Bool} (htr : σ.1 0 0 = bI (tr = true)) {a i : Int} (hi : 0 ≤ i ∧ i ≤ (A.1 A.2.1).1.2.1) (h : cwE (A.1 A.2.1) tr a i = 0) : Con 4 mX9_checkWriting 0 0 [vA 0, vI a, vI i] σ (vT 8 0, σ) := by
  obtain ⟨hp, hd, hu, hle, hrep⟩ := id hA
  have hk7 := (hp.1 A.2.1 (by omega)).2
  have hk : pi A.2.1 < 8 := by omega
  have hD := hrep A.2.1 (by omega)
  have hR := hD.1
  have hL := hD.2.1.2.2.1
  have hn := hR.1
  obtain ⟨hw1, hw2, hw3⟩ := hR.2.2.2
  have hm := hD.2.1.1
  obtain ⟨l1, l2, l3⟩ := hD.2.1.2.2.2
  obtain ⟨g1, g2, g3, g4, g5, g6, g7, g8, g9, g10⟩ := gamk _ hk
  obtain ⟨p1, p2, p3, p4, p5, p6, p7, p8, p9⟩ := strk hS _ hk
  unfold cwE at h
  have h1 : ¬ (200 ≤ (A.1 A.2.1).1.2.1 ∨ (tr = true ∧ 60 ≤ (A.1 A.2.1).2.1.1 ∧ chAhD (A.1 A.2.1) a i = -1)) := fun q => by rw [if_pos q] at h; cases h
  rw [if_neg h1] at h
  have h2 : (A.1 A.2.1).1.1 10 (endFr (A.1 A.2.1).1.1 (A.1 A.2.1).1.2.1 i) ≠ 1 := fun q => by rw [if_pos q] at h; cases h
  have hN : ¬ 200 ≤ (A.1 A.2.1).1.2.1 := fun q => h1 (Or.inl q)
  cases tr with
  | false =>
    refine con_of_go mfX9_checkWriting.1 trivial (Nat.le_of_ble_eq_true rfl) rfl (by decide) ?_
    show Go _ _ _ _ 0 [vA _, vI _, vI _, vT 9 0] [] _ _
    refine go_aload_n (at_of tX9_checkWriting 0 0 rfl) rfl ?_
    refine go_getr fl_X9_16 rfl (by first | assumption | exact G_0 | exact g1_ | exact G_83 | exact G_87 | exact G_92 | exact G_96 | exact G_98) (by first | assumption | exact (hS _ _ rfl).trans rfl) (at_of tX9_checkWriting 0 1 rfl) ?_
    refine go_cV (con_now hS hA) lk_X9_114 rfl (by first | assumption | exact G_0 | exact g1_ | exact G_83 | exact G_87 | exact G_92 | exact G_96 | exact G_98) (at_of tX9_checkWriting 0 2 rfl) rfl (by decide) rfl (Nat.le_of_ble_eq_true rfl) rfl (by first | decide | exact ⟨Nat.zero_le _, Nat.zero_le _⟩) ?_
    refine go_astore_n (at_of tX9_checkWriting 0 3 rfl) rfl rfl ?_
    refine go_aload_n (at_of tX9_checkWriting 0 4 rfl) rfl ?_
    refine go_getr fl_X9_131 rfl (by first | assumption | exact G_0 | exact g1_ | exact G_83 | exact G_87 | exact G_92 | exact G_96 | exact G_98) (by first | assumption | exact (hS _ _ rfl).trans rfl) (at_of tX9_checkWriting 0 5 rfl) ?_
    refine go_cV (r_allUnits hS hk hR) lk_X9_378 rfl (by first | assumption | exact G_0 | exact g1_ | exact G_83 | exact G_87 | exact G_92 | exact G_96 | exact G_98) (at_of tX9_checkWriting 0 6 rfl) rfl (by decide) rfl (Nat.le_of_ble_eq_true rfl) rfl (by first | decide | exact ⟨Nat.zero_le _, Nat.zero_le _⟩) ?_
    refine go_sipush (at_of tX9_checkWriting 0 7 rfl) (by decide) ?_
    refine go_icmp_lt (tgt := 32) (at_of tX9_checkWriting 0 8 rfl) (by decide) (fun h18 => ?_) (fun h18 => ?_)
    rotate_left
    · exfalso; omega
    refine go_aload_n (at_of tX9_checkWriting 0 14 rfl) rfl ?_
    refine go_getf fl_X9_7 rfl (by first | assumption | exact G_0 | exact g1_ | exact G_83 | exact G_87 | exact G_92 | exact G_96 | exact G_98) (at_of tX9_checkWriting 0 15 rfl) ?_
    refine go_if_eq (tgt := 69) (at_of tX9_checkWriting 1 0 rfl) (by decide) (fun h36 => ?_) (fun h36 => ?_)
    rotate_left
    · exfalso; rw [htr] at h36; exact h36 (by decide)
    refine go_aload_n (at_of tX9_checkWriting 2 0 rfl) rfl ?_
    refine go_aload_n (at_of tX9_checkWriting 2 1 rfl) rfl ?_
    refine go_getr fl_X9_131 rfl (by first | assumption | exact G_0 | exact g1_ | exact G_83 | exact G_87 | exact G_92 | exact G_96 | exact G_98) (by first | assumption | exact (hS _ _ rfl).trans rfl) (at_of tX9_checkWriting 2 2 rfl) ?_
    refine go_iload_n (at_of tX9_checkWriting 2 3 rfl) rfl ?_
    refine go_cV (r_endFrom hS hk hR hi) lk_X9_441 rfl (by first | assumption | exact G_0 | exact g1_ | exact G_83 | exact G_87 | exact G_92 | exact G_96 | exact G_98) (at_of tX9_checkWriting 2 4 rfl) rfl (by decide) rfl (Nat.le_of_ble_eq_true rfl) rfl (by first | decide | exact ⟨Nat.zero_le _, Nat.zero_le _⟩) ?_
    refine go_cV (ok_Ung hS hA (by have := @endFr_le (A.1 A.2.1).1.1 (A.1 A.2.1).1.2.1 i hi; omega) h2) lk_X9_172 rfl (by first | assumption | exact G_0 | exact g1_ | exact G_83 | exact G_87 | exact G_92 | exact G_96 | exact G_98) (at_of tX9_checkWriting 2 5 rfl) rfl (by decide) rfl (Nat.le_of_ble_eq_true rfl) rfl (by first | decide | exact ⟨Nat.zero_le _, Nat.zero_le _⟩) ?_
    exact go_retv (at_of tX9_checkWriting 2 6 rfl) rfl
  | true =>
    by_cases h60 : 60 ≤ (A.1 A.2.1).2.1.1
    · have hch : chAhD (A.1 A.2.1) a i ≠ -1 := fun q => h1 (Or.inr ⟨rfl, h60, q⟩)
      refine con_of_go mfX9_checkWriting.1 trivial (Nat.le_of_ble_eq_true rfl) rfl (by decide) ?_
      show Go _ _ _ _ 0 [vA _, vI _, vI _, vT 9 0] [] _ _
      refine go_aload_n (at_of tX9_checkWriting 0 0 rfl) rfl ?_
      refine go_getr fl_X9_16 rfl (by first | assumption | exact G_0 | exact g1_ | exact G_83 | exact G_87 | exact G_92 | exact G_96 | exact G_98) (by first | assumption | exact (hS _ _ rfl).trans rfl) (at_of tX9_checkWriting 0 1 rfl) ?_
      refine go_cV (con_now hS hA) lk_X9_114 rfl (by first | assumption | exact G_0 | exact g1_ | exact G_83 | exact G_87 | exact G_92 | exact G_96 | exact G_98) (at_of tX9_checkWriting 0 2 rfl) rfl (by decide) rfl (Nat.le_of_ble_eq_true rfl) rfl (by first | decide | exact ⟨Nat.zero_le _, Nat.zero_le _⟩) ?_
      refine go_astore_n (at_of tX9_checkWriting 0 3 rfl) rfl rfl ?_
      refine go_aload_n (at_of tX9_checkWriting 0 4 rfl) rfl ?_
      refine go_getr fl_X9_131 rfl (by first | assumption | exact G_0 | exact g1_ | exact G_83 | exact G_87 | exact G_92 | exact G_96 | exact G_98) (by first | assumption | exact (hS _ _ rfl).trans rfl) (at_of tX9_checkWriting 0 5 rfl) ?_
      refine go_cV (r_allUnits hS hk hR) lk_X9_378 rfl (by first | assumption | exact G_0 | exact g1_ | exact G_83 | exact G_87 | exact G_92 | exact G_96 | exact G_98) (at_of tX9_checkWriting 0 6 rfl) rfl (by decide) rfl (Nat.le_of_ble_eq_true rfl) rfl (by first | decide | exact ⟨Nat.zero_le _, Nat.zero_le _⟩) ?_
      refine go_sipush (at_of tX9_checkWriting 0 7 rfl) (by decide) ?_
      refine go_icmp_lt (tgt := 32) (at_of tX9_checkWriting 0 8 rfl) (by decide) (fun h18 => ?_) (fun h18 => ?_)
      rotate_left
      · exfalso; omega
      refine go_aload_n (at_of tX9_checkWriting 0 14 rfl) rfl ?_
      refine go_getf fl_X9_7 rfl (by first | assumption | exact G_0 | exact g1_ | exact G_83 | exact G_87 | exact G_92 | exact G_96 | exact G_98) (at_of tX9_checkWriting 0 15 rfl) ?_
      refine go_if_eq (tgt := 69) (at_of tX9_checkWriting 1 0 rfl) (by decide) (fun h36 => ?_) (fun h36 => ?_)
      · exfalso; rw [htr] at h36; exact absurd h36 (by decide)
      refine go_aload_n (at_of tX9_checkWriting 1 1 rfl) rfl ?_
      refine go_getr fl_X9_118 rfl (by first | assumption | exact G_0 | exact g1_ | exact G_83 | exact G_87 | exact G_92 | exact G_96 | exact G_98) (by first | assumption | exact (hS _ _ rfl).trans rfl) (at_of tX9_checkWriting 1 2 rfl) ?_
      refine go_cV (l_isFull hS hk hD) lk_X9_122 rfl (by first | assumption | exact G_0 | exact g1_ | exact G_83 | exact G_87 | exact G_92 | exact G_96 | exact G_98) (at_of tX9_checkWriting 1 3 rfl) rfl (by decide) rfl (Nat.le_of_ble_eq_true rfl) rfl (by first | decide | exact ⟨Nat.zero_le _, Nat.zero_le _⟩) ?_
      refine go_if_eq (tgt := 69) (at_of tX9_checkWriting 1 4 rfl) (by decide) (fun h46 => ?_) (fun h46 => ?_)
      · exfalso; exact bI_0.mp h46 h60
      refine go_aload_n (at_of tX9_checkWriting 1 5 rfl) rfl ?_
      refine go_iload_n (at_of tX9_checkWriting 1 6 rfl) rfl ?_
      refine go_iload_n (at_of tX9_checkWriting 1 7 rfl) rfl ?_
      refine go_cV (p_changeAhead hS hk hD hi) lk_X9_438 rfl (by first | assumption | exact G_0 | exact g1_ | exact G_83 | exact G_87 | exact G_92 | exact G_96 | exact G_98) (at_of tX9_checkWriting 1 8 rfl) rfl (by decide) rfl (Nat.le_of_ble_eq_true rfl) rfl (by first | decide | exact ⟨Nat.zero_le _, Nat.zero_le _⟩) ?_
      refine go_iconst (at_of tX9_checkWriting 1 9 rfl) (by unfold in32; omega) ?_
      refine go_icmp_ne (tgt := 69) (at_of tX9_checkWriting 1 10 rfl) (by decide) (fun h56 => ?_) (fun h56 => ?_)
      rotate_left
      · exfalso; omega
      refine go_aload_n (at_of tX9_checkWriting 2 0 rfl) rfl ?_
      refine go_aload_n (at_of tX9_checkWriting 2 1 rfl) rfl ?_
      refine go_getr fl_X9_131 rfl (by first | assumption | exact G_0 | exact g1_ | exact G_83 | exact G_87 | exact G_92 | exact G_96 | exact G_98) (by first | assumption | exact (hS _ _ rfl).trans rfl) (at_of tX9_checkWriting 2 2 rfl) ?_
      refine go_iload_n (at_of tX9_checkWriting 2 3 rfl) rfl ?_
      refine go_cV (r_endFrom hS hk hR hi) lk_X9_441 rfl (by first | assumption | exact G_0 | exact g1_ | exact G_83 | exact G_87 | exact G_92 | exact G_96 | exact G_98) (at_of tX9_checkWriting 2 4 rfl) rfl (by decide) rfl (Nat.le_of_ble_eq_true rfl) rfl (by first | decide | exact ⟨Nat.zero_le _, Nat.zero_le _⟩) ?_
      refine go_cV (ok_Ung hS hA (by have := @endFr_le (A.1 A.2.1).1.1 (A.1 A.2.1).1.2.1 i hi; omega) h2) lk_X9_172 rfl (by first | assumption | exact G_0 | exact g1_ | exact G_83 | exact G_87 | exact G_92 | exact G_96 | exact G_98) (at_of tX9_checkWriting 2 5 rfl) rfl (by decide) rfl (Nat.le_of_ble_eq_true rfl) rfl (by first | decide | exact ⟨Nat.zero_le _, Nat.zero_le _⟩) ?_
      exact go_retv (at_of tX9_checkWriting 2 6 rfl) rfl
    · skip
      refine con_of_go mfX9_checkWriting.1 trivial (Nat.le_of_ble_eq_true rfl) rfl (by decide) ?_
      show Go _ _ _ _ 0 [vA _, vI _, vI _, vT 9 0] [] _ _
      refine go_aload_n (at_of tX9_checkWriting 0 0 rfl) rfl ?_
      refine go_getr fl_X9_16 rfl (by first | assumption | exact G_0 | exact g1_ | exact G_83 | exact G_87 | exact G_92 | exact G_96 | exact G_98) (by first | assumption | exact (hS _ _ rfl).trans rfl) (at_of tX9_checkWriting 0 1 rfl) ?_
      refine go_cV (con_now hS hA) lk_X9_114 rfl (by first | assumption | exact G_0 | exact g1_ | exact G_83 | exact G_87 | exact G_92 | exact G_96 | exact G_98) (at_of tX9_checkWriting 0 2 rfl) rfl (by decide) rfl (Nat.le_of_ble_eq_true rfl) rfl (by first | decide | exact ⟨Nat.zero_le _, Nat.zero_le _⟩) ?_
      refine go_astore_n (at_of tX9_checkWriting 0 3 rfl) rfl rfl ?_
      refine go_aload_n (at_of tX9_checkWriting 0 4 rfl) rfl ?_
      refine go_getr fl_X9_131 rfl (by first | assumption | exact G_0 | exact g1_ | exact G_83 | exact G_87 | exact G_92 | exact G_96 | exact G_98) (by first | assumption | exact (hS _ _ rfl).trans rfl) (at_of tX9_checkWriting 0 5 rfl) ?_
      refine go_cV (r_allUnits hS hk hR) lk_X9_378 rfl (by first | assumption | exact G_0 | exact g1_ | exact G_83 | exact G_87 | exact G_92 | exact G_96 | exact G_98) (at_of tX9_checkWriting 0 6 rfl) rfl (by decide) rfl (Nat.le_of_ble_eq_true rfl) rfl (by first | decide | exact ⟨Nat.zero_le _, Nat.zero_le _⟩) ?_
      refine go_sipush (at_of tX9_checkWriting 0 7 rfl) (by decide) ?_
      refine go_icmp_lt (tgt := 32) (at_of tX9_checkWriting 0 8 rfl) (by decide) (fun h18 => ?_) (fun h18 => ?_)
      rotate_left
      · exfalso; omega
      refine go_aload_n (at_of tX9_checkWriting 0 14 rfl) rfl ?_
      refine go_getf fl_X9_7 rfl (by first | assumption | exact G_0 | exact g1_ | exact G_83 | exact G_87 | exact G_92 | exact G_96 | exact G_98) (at_of tX9_checkWriting 0 15 rfl) ?_
      refine go_if_eq (tgt := 69) (at_of tX9_checkWriting 1 0 rfl) (by decide) (fun h36 => ?_) (fun h36 => ?_)
      · exfalso; rw [htr] at h36; exact absurd h36 (by decide)
      refine go_aload_n (at_of tX9_checkWriting 1 1 rfl) rfl ?_
      refine go_getr fl_X9_118 rfl (by first | assumption | exact G_0 | exact g1_ | exact G_83 | exact G_87 | exact G_92 | exact G_96 | exact G_98) (by first | assumption | exact (hS _ _ rfl).trans rfl) (at_of tX9_checkWriting 1 2 rfl) ?_
      refine go_cV (l_isFull hS hk hD) lk_X9_122 rfl (by first | assumption | exact G_0 | exact g1_ | exact G_83 | exact G_87 | exact G_92 | exact G_96 | exact G_98) (at_of tX9_checkWriting 1 3 rfl) rfl (by decide) rfl (Nat.le_of_ble_eq_true rfl) rfl (by first | decide | exact ⟨Nat.zero_le _, Nat.zero_le _⟩) ?_
      refine go_if_eq (tgt := 69) (at_of tX9_checkWriting 1 4 rfl) (by decide) (fun h46 => ?_) (fun h46 => ?_)
      rotate_left
      · exfalso; exact h60 (bI_1.mp h46)
      refine go_aload_n (at_of tX9_checkWriting 2 0 rfl) rfl ?_
      refine go_aload_n (at_of tX9_checkWriting 2 1 rfl) rfl ?_
      refine go_getr fl_X9_131 rfl (by first | assumption | exact G_0 | exact g1_ | exact G_83 | exact G_87 | exact G_92 | exact G_96 | exact G_98) (by first | assumption | exact (hS _ _ rfl).trans rfl) (at_of tX9_checkWriting 2 2 rfl) ?_
      refine go_iload_n (at_of tX9_checkWriting 2 3 rfl) rfl ?_
      refine go_cV (r_endFrom hS hk hR hi) lk_X9_441 rfl (by first | assumption | exact G_0 | exact g1_ | exact G_83 | exact G_87 | exact G_92 | exact G_96 | exact G_98) (at_of tX9_checkWriting 2 4 rfl) rfl (by decide) rfl (Nat.le_of_ble_eq_true rfl) rfl (by first | decide | exact ⟨Nat.zero_le _, Nat.zero_le _⟩) ?_
      refine go_cV (ok_Ung hS hA (by have := @endFr_le (A.1 A.2.1).1.1 (A.1 A.2.1).1.2.1 i hi; omega) h2) lk_X9_172 rfl (by first | assumption | exact G_0 | exact g1_ | exact G_83 | exact G_87 | exact G_92 | exact G_96 | exact G_98) (at_of tX9_checkWriting 2 5 rfl) rfl (by decide) rfl (Nat.le_of_ble_eq_true rfl) rfl (by first | decide | exact ⟨Nat.zero_le _, Nat.zero_le _⟩) ?_
      exact go_retv (at_of tX9_checkWriting 2 6 rfl) rfl
end Checks
