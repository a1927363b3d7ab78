/-! What the office answers without a change of its papers. -/
section Asks
variable {σ : St}
theorem ok_setTracking (hS : Str σ.2.1) {pi : Nat → Nat} {A : PastD} (hA : PastR σ pi A) {z : Int} (hz : z = 0 ∨ z = 1) (h01 : σ.1 0 0 = 0 ∨ σ.1 0 0 = 1) : Con 0 mX9_setTracking 0 0 [vA 0, vI z] σ (vI (σ.1 0 0), P1 σ 0 0 z) := by
  refine con_of_go mfX9_setTracking.1 h01 (Nat.le_of_ble_eq_true rfl) rfl (by decide) ?_
  show Go _ _ _ _ 0 [vA _, vI _, vT 9 0] [] _ _
  refine go_aload_n (at_of tX9_setTracking 0 0 rfl) rfl ?_
  refine go_getf fl_X9_7 rfl G_0 (at_of tX9_setTracking 0 1 rfl) ?_
  refine go_istore_n (at_of tX9_setTracking 0 2 rfl) rfl rfl ?_
  refine go_aload_n (at_of tX9_setTracking 0 3 rfl) rfl ?_
  refine go_iload_n (at_of tX9_setTracking 0 4 rfl) rfl ?_
  refine go_put1 fp_X9_7 rfl (Or.inl rfl) G_0 (Or.inr hz) (at_of tX9_setTracking 0 5 rfl) ?_
  refine go_iload_n (at_of tX9_setTracking 0 6 rfl) rfl ?_
  first | exact go_reti (at_of tX9_setTracking 0 7 rfl) rfl | exact go_reti (at_of tX9_setTracking 0 7 rfl) (le_i (by omega)) | exact go_reti (at_of tX9_setTracking 0 7 rfl) (le_i (by first | exact bI_t (by omega) | exact bI_f (by omega)))
theorem ok_length (hS : Str σ.2.1) {pi : Nat → Nat} {A : PastD} (hA : PastR σ pi A) : Con 3 mX9_length 0 0 [vA 0] σ (vI (plOf (A.1 A.2.1).1.1 (A.1 A.2.1).1.2.1 (A.1 A.2.1).1.2.1), σ) := by
  obtain ⟨hp, hd, hu, hle, hrep⟩ := id hA
  have hk7 := (hp.1 A.2.1 (by omega)).2
  have hk : pi A.2.1 < 8 := by omega
  have hD := hrep A.2.1 (by omega)
  have hR := hD.1
  have hL := hD.2.1.2.2.1
  have hn := hR.1
  obtain ⟨hw1, hw2, hw3⟩ := hR.2.2.2
  have hm := hD.2.1.1
  obtain ⟨l1, l2, l3⟩ := hD.2.1.2.2.2
  obtain ⟨g1, g2, g3, g4, g5, g6, g7, g8, g9, g10⟩ := gamk _ hk
  obtain ⟨p1, p2, p3, p4, p5, p6, p7, p8, p9⟩ := strk hS _ hk
  refine con_of_go mfX9_length.1 trivial (Nat.le_of_ble_eq_true rfl) rfl (by decide) ?_
  show Go _ _ _ _ 0 [vA _] [] _ _
  refine go_aload_n (at_of tX9_length 0 0 rfl) rfl ?_
  refine go_getr (q := 1) fl_X9_16 rfl G_0 ((hS _ _ rfl).trans rfl) (at_of tX9_length 0 1 rfl) ?_
  refine go_cV (con_now hS hA) lk_X9_114 rfl g1_ (at_of tX9_length 0 2 rfl) rfl (by decide) rfl (Nat.le_of_ble_eq_true rfl) rfl (by first | decide | exact ⟨Nat.zero_le _, Nat.zero_le _⟩) ?_
  refine go_getr (q := (4 + 10 * pi A.2.1)) fl_X9_131 rfl g1 p1 (at_of tX9_length 0 3 rfl) ?_
  refine go_cV (r_seenUnits hS hk hR) lk_X9_205 rfl g2 (at_of tX9_length 0 4 rfl) rfl (by decide) rfl (Nat.le_of_ble_eq_true rfl) rfl (by first | decide | exact ⟨Nat.zero_le _, Nat.zero_le _⟩) ?_
  first | exact go_reti (at_of tX9_length 0 5 rfl) rfl | exact go_reti (at_of tX9_length 0 5 rfl) (le_i (by omega)) | exact go_reti (at_of tX9_length 0 5 rfl) (le_i (by first | exact bI_t (by omega) | exact bI_f (by omega)))
theorem ok_unitAt (hS : Str σ.2.1) {pi : Nat → Nat} {A : PastD} (hA : PastR σ pi A) {p : Int} (h2 : ixOf (A.1 A.2.1).1.1 (A.1 A.2.1).1.2.1 p ≠ -1) (h3 : ixOf (A.1 A.2.1).1.1 (A.1 A.2.1).1.2.1 p < (A.1 A.2.1).1.2.1) : Con 5 mX9_unitAt 0 0 [vA 0, vI p] σ (vI ((A.1 A.2.1).1.1 0 (ixOf (A.1 A.2.1).1.1 (A.1 A.2.1).1.2.1 p) % 65536), σ) := by
  obtain ⟨hp, hd, hu, hle, hrep⟩ := id hA
  have hk7 := (hp.1 A.2.1 (by omega)).2
  have hk : pi A.2.1 < 8 := by omega
  have hD := hrep A.2.1 (by omega)
  have hR := hD.1
  have hL := hD.2.1.2.2.1
  have hn := hR.1
  obtain ⟨hw1, hw2, hw3⟩ := hR.2.2.2
  have hm := hD.2.1.1
  obtain ⟨l1, l2, l3⟩ := hD.2.1.2.2.2
  obtain ⟨g1, g2, g3, g4, g5, g6, g7, g8, g9, g10⟩ := gamk _ hk
  obtain ⟨p1, p2, p3, p4, p5, p6, p7, p8, p9⟩ := strk hS _ hk
  have hix := ((@ixOf_le (A.1 A.2.1).1.1 (A.1 A.2.1).1.2.1 p hw1).resolve_left h2)
  refine con_of_go mfX9_unitAt.1 ⟨by omega, by omega⟩ (Nat.le_of_ble_eq_true rfl) rfl (by decide) ?_
  show Go _ _ _ _ 0 [vA _, vI _] [] _ _
  refine go_aload_n (at_of tX9_unitAt 0 0 rfl) rfl ?_
  refine go_getr (q := 1) fl_X9_16 rfl G_0 ((hS _ _ rfl).trans rfl) (at_of tX9_unitAt 0 1 rfl) ?_
  refine go_cV (con_now hS hA) lk_X9_114 rfl g1_ (at_of tX9_unitAt 0 2 rfl) rfl (by decide) rfl (Nat.le_of_ble_eq_true rfl) rfl (by first | decide | exact ⟨Nat.zero_le _, Nat.zero_le _⟩) ?_
  refine go_getr (q := (4 + 10 * pi A.2.1)) fl_X9_131 rfl g1 p1 (at_of tX9_unitAt 0 3 rfl) ?_
  refine go_iconst (at_of tX9_unitAt 0 4 rfl) (by unfold in32; omega) ?_
  refine go_aload_n (at_of tX9_unitAt 0 5 rfl) rfl ?_
  refine go_iload_n (at_of tX9_unitAt 0 6 rfl) rfl ?_
  refine go_cV (ok_Unit hS hA h2 h3) lk_X9_208 rfl G_0 (at_of tX9_unitAt 0 7 rfl) rfl (by decide) rfl (Nat.le_of_ble_eq_true rfl) rfl (by first | decide | exact ⟨Nat.zero_le _, Nat.zero_le _⟩) ?_
  refine go_cV (r_fact hS hk hR (by omega) (by omega)) lk_X9_168 rfl g2 (at_of tX9_unitAt 0 8 rfl) rfl (by decide) rfl (Nat.le_of_ble_eq_true rfl) rfl (by first | decide | exact ⟨Nat.zero_le _, Nat.zero_le _⟩) ?_
  refine go_i2c (at_of tX9_unitAt 0 9 rfl) ?_
  first | exact go_reti (at_of tX9_unitAt 0 10 rfl) rfl | exact go_reti (at_of tX9_unitAt 0 10 rfl) (le_i (by omega)) | exact go_reti (at_of tX9_unitAt 0 10 rfl) (le_i (by first | exact bI_t (by omega) | exact bI_f (by omega)))
theorem th0_unitAt (hS : Str σ.2.1) {pi : Nat → Nat} {A : PastD} (hA : PastR σ pi A) {p : Int} (h2 : ixOf (A.1 A.2.1).1.1 (A.1 A.2.1).1.2.1 p = -1 ∨ ixOf (A.1 A.2.1).1.1 (A.1 A.2.1).1.2.1 p = (A.1 A.2.1).1.2.1) : Con 5 mX9_unitAt 1 6 [vA 0, vI p] σ (vT 20 0, σ) := by
  obtain ⟨hp, hd, hu, hle, hrep⟩ := id hA
  have hk7 := (hp.1 A.2.1 (by omega)).2
  have hk : pi A.2.1 < 8 := by omega
  have hD := hrep A.2.1 (by omega)
  have hR := hD.1
  have hL := hD.2.1.2.2.1
  have hn := hR.1
  obtain ⟨hw1, hw2, hw3⟩ := hR.2.2.2
  have hm := hD.2.1.1
  obtain ⟨l1, l2, l3⟩ := hD.2.1.2.2.2
  obtain ⟨g1, g2, g3, g4, g5, g6, g7, g8, g9, g10⟩ := gamk _ hk
  obtain ⟨p1, p2, p3, p4, p5, p6, p7, p8, p9⟩ := strk hS _ hk
  refine con_of_go mfX9_unitAt.1 (Nat.le_of_ble_eq_true rfl) (Nat.le_of_ble_eq_true rfl) rfl (by decide) ?_
  show Go _ _ _ _ 0 [vA _, vI _] [] _ _
  refine go_aload_n (at_of tX9_unitAt 0 0 rfl) rfl ?_
  refine go_getr (q := 1) fl_X9_16 rfl G_0 ((hS _ _ rfl).trans rfl) (at_of tX9_unitAt 0 1 rfl) ?_
  refine go_cV (con_now hS hA) lk_X9_114 rfl g1_ (at_of tX9_unitAt 0 2 rfl) rfl (by decide) rfl (Nat.le_of_ble_eq_true rfl) rfl (by first | decide | exact ⟨Nat.zero_le _, Nat.zero_le _⟩) ?_
  refine go_getr (q := (4 + 10 * pi A.2.1)) fl_X9_131 rfl g1 p1 (at_of tX9_unitAt 0 3 rfl) ?_
  refine go_iconst (at_of tX9_unitAt 0 4 rfl) (by unfold in32; omega) ?_
  refine go_aload_n (at_of tX9_unitAt 0 5 rfl) rfl ?_
  refine go_iload_n (at_of tX9_unitAt 0 6 rfl) rfl ?_
  exact go_tV (i := 0) (th_Unit hS hA h2) lk_X9_208 rfl G_0 (at_of tX9_unitAt 0 7 rfl) rfl rfl (by decide) rfl (Nat.le_of_ble_eq_true rfl) rfl ⟨by decide, by decide⟩
theorem ok_oldLength (hS : Str σ.2.1) {pi : Nat → Nat} {A : PastD} (hA : PastR σ pi A) : Con 3 mX9_oldLength 0 0 [vA 0] σ (vI (oldN (A.1 A.2.1).1.1 (A.1 A.2.1).1.2.1), σ) := by
  obtain ⟨hp, hd, hu, hle, hrep⟩ := id hA
  have hk7 := (hp.1 A.2.1 (by omega)).2
  have hk : pi A.2.1 < 8 := by omega
  have hD := hrep A.2.1 (by omega)
  have hR := hD.1
  have hL := hD.2.1.2.2.1
  have hn := hR.1
  obtain ⟨hw1, hw2, hw3⟩ := hR.2.2.2
  have hm := hD.2.1.1
  obtain ⟨l1, l2, l3⟩ := hD.2.1.2.2.2
  obtain ⟨g1, g2, g3, g4, g5, g6, g7, g8, g9, g10⟩ := gamk _ hk
  obtain ⟨p1, p2, p3, p4, p5, p6, p7, p8, p9⟩ := strk hS _ hk
  refine con_of_go mfX9_oldLength.1 trivial (Nat.le_of_ble_eq_true rfl) rfl (by decide) ?_
  show Go _ _ _ _ 0 [vA _] [] _ _
  refine go_aload_n (at_of tX9_oldLength 0 0 rfl) rfl ?_
  refine go_getr (q := 1) fl_X9_16 rfl G_0 ((hS _ _ rfl).trans rfl) (at_of tX9_oldLength 0 1 rfl) ?_
  refine go_cV (con_now hS hA) lk_X9_114 rfl g1_ (at_of tX9_oldLength 0 2 rfl) rfl (by decide) rfl (Nat.le_of_ble_eq_true rfl) rfl (by first | decide | exact ⟨Nat.zero_le _, Nat.zero_le _⟩) ?_
  refine go_getr (q := (4 + 10 * pi A.2.1)) fl_X9_131 rfl g1 p1 (at_of tX9_oldLength 0 3 rfl) ?_
  refine go_cV (r_oldUnits hS hk hR) lk_X9_211 rfl g2 (at_of tX9_oldLength 0 4 rfl) rfl (by decide) rfl (Nat.le_of_ble_eq_true rfl) rfl (by first | decide | exact ⟨Nat.zero_le _, Nat.zero_le _⟩) ?_
  first | exact go_reti (at_of tX9_oldLength 0 5 rfl) rfl | exact go_reti (at_of tX9_oldLength 0 5 rfl) (le_i (by omega)) | exact go_reti (at_of tX9_oldLength 0 5 rfl) (le_i (by first | exact bI_t (by omega) | exact bI_f (by omega)))
theorem ok_oldAt (hS : Str σ.2.1) {pi : Nat → Nat} {A : PastD} (hA : PastR σ pi A) {p : Int} (h2 : ixOld (A.1 A.2.1).1.1 (A.1 A.2.1).1.2.1 p ≠ -1) : Con 3 mX9_oldAt 0 0 [vA 0, vI p] σ (vI ((A.1 A.2.1).1.1 0 (ixOld (A.1 A.2.1).1.1 (A.1 A.2.1).1.2.1 p) % 65536), σ) := by
  obtain ⟨hp, hd, hu, hle, hrep⟩ := id hA
  have hk7 := (hp.1 A.2.1 (by omega)).2
  have hk : pi A.2.1 < 8 := by omega
  have hD := hrep A.2.1 (by omega)
  have hR := hD.1
  have hL := hD.2.1.2.2.1
  have hn := hR.1
  obtain ⟨hw1, hw2, hw3⟩ := hR.2.2.2
  have hm := hD.2.1.1
  obtain ⟨l1, l2, l3⟩ := hD.2.1.2.2.2
  obtain ⟨g1, g2, g3, g4, g5, g6, g7, g8, g9, g10⟩ := gamk _ hk
  obtain ⟨p1, p2, p3, p4, p5, p6, p7, p8, p9⟩ := strk hS _ hk
  have hix := ((@ixOld_le (A.1 A.2.1).1.1 (A.1 A.2.1).1.2.1 p hw1).resolve_left h2)
  refine con_of_go mfX9_oldAt.1 ⟨by omega, by omega⟩ (Nat.le_of_ble_eq_true rfl) rfl (by decide) ?_
  show Go _ _ _ _ 0 [vA _, vI _, vT 9 0, vT 9 0] [] _ _
  refine go_aload_n (at_of tX9_oldAt 0 0 rfl) rfl ?_
  refine go_getr (q := 1) fl_X9_16 rfl G_0 ((hS _ _ rfl).trans rfl) (at_of tX9_oldAt 0 1 rfl) ?_
  refine go_cV (con_now hS hA) lk_X9_114 rfl g1_ (at_of tX9_oldAt 0 2 rfl) rfl (by decide) rfl (Nat.le_of_ble_eq_true rfl) rfl (by first | decide | exact ⟨Nat.zero_le _, Nat.zero_le _⟩) ?_
  refine go_getr (q := (4 + 10 * pi A.2.1)) fl_X9_131 rfl g1 p1 (at_of tX9_oldAt 0 3 rfl) ?_
  refine go_astore_n (at_of tX9_oldAt 0 4 rfl) rfl rfl ?_
  refine go_aload_n (at_of tX9_oldAt 0 5 rfl) rfl ?_
  refine go_iload_n (at_of tX9_oldAt 0 6 rfl) rfl ?_
  refine go_cV (r_indexOfOld hS hk hR) lk_X9_214 rfl g2 (at_of tX9_oldAt 0 7 rfl) rfl (by decide) rfl (Nat.le_of_ble_eq_true rfl) rfl (by first | decide | exact ⟨Nat.zero_le _, Nat.zero_le _⟩) ?_
  refine go_istore_n (at_of tX9_oldAt 0 8 rfl) rfl rfl ?_
  refine go_iload_n (at_of tX9_oldAt 0 9 rfl) rfl ?_
  refine go_iconst (at_of tX9_oldAt 0 10 rfl) (by unfold in32; omega) ?_
  refine go_icmp_ne (tgt := 32) (at_of tX9_oldAt 0 11 rfl) (by decide) (fun h19 => ?_) (fun h19 => ?_)
  rotate_left
  · exfalso; omega
  refine go_aload_n (at_of tX9_oldAt 1 1 rfl) rfl ?_
  refine go_iconst (at_of tX9_oldAt 1 2 rfl) (by unfold in32; omega) ?_
  refine go_iload_n (at_of tX9_oldAt 1 3 rfl) rfl ?_
  refine go_cV (r_fact hS hk hR (by omega) (by omega)) lk_X9_168 rfl g2 (at_of tX9_oldAt 1 4 rfl) rfl (by decide) rfl (Nat.le_of_ble_eq_true rfl) rfl (by first | decide | exact ⟨Nat.zero_le _, Nat.zero_le _⟩) ?_
  refine go_i2c (at_of tX9_oldAt 1 5 rfl) ?_
  first | exact go_reti (at_of tX9_oldAt 1 6 rfl) rfl | exact go_reti (at_of tX9_oldAt 1 6 rfl) (le_i (by omega)) | exact go_reti (at_of tX9_oldAt 1 6 rfl) (le_i (by first | exact bI_t (by omega) | exact bI_f (by omega)))
theorem th0_oldAt (hS : Str σ.2.1) {pi : Nat → Nat} {A : PastD} (hA : PastR σ pi A) {p : Int} (h2 : ixOld (A.1 A.2.1).1.1 (A.1 A.2.1).1.2.1 p = -1) : Con 3 mX9_oldAt 1 6 [vA 0, vI p] σ (vT 20 0, σ) := by
  obtain ⟨hp, hd, hu, hle, hrep⟩ := id hA
  have hk7 := (hp.1 A.2.1 (by omega)).2
  have hk : pi A.2.1 < 8 := by omega
  have hD := hrep A.2.1 (by omega)
  have hR := hD.1
  have hL := hD.2.1.2.2.1
  have hn := hR.1
  obtain ⟨hw1, hw2, hw3⟩ := hR.2.2.2
  have hm := hD.2.1.1
  obtain ⟨l1, l2, l3⟩ := hD.2.1.2.2.2
  obtain ⟨g1, g2, g3, g4, g5, g6, g7, g8, g9, g10⟩ := gamk _ hk
  obtain ⟨p1, p2, p3, p4, p5, p6, p7, p8, p9⟩ := strk hS _ hk
  refine con_of_go mfX9_oldAt.1 (Nat.le_of_ble_eq_true rfl) (Nat.le_of_ble_eq_true rfl) rfl (by decide) ?_
  show Go _ _ _ _ 0 [vA _, vI _, vT 9 0, vT 9 0] [] _ _
  refine go_aload_n (at_of tX9_oldAt 0 0 rfl) rfl ?_
  refine go_getr (q := 1) fl_X9_16 rfl G_0 ((hS _ _ rfl).trans rfl) (at_of tX9_oldAt 0 1 rfl) ?_
  refine go_cV (con_now hS hA) lk_X9_114 rfl g1_ (at_of tX9_oldAt 0 2 rfl) rfl (by decide) rfl (Nat.le_of_ble_eq_true rfl) rfl (by first | decide | exact ⟨Nat.zero_le _, Nat.zero_le _⟩) ?_
  refine go_getr (q := (4 + 10 * pi A.2.1)) fl_X9_131 rfl g1 p1 (at_of tX9_oldAt 0 3 rfl) ?_
  refine go_astore_n (at_of tX9_oldAt 0 4 rfl) rfl rfl ?_
  refine go_aload_n (at_of tX9_oldAt 0 5 rfl) rfl ?_
  refine go_iload_n (at_of tX9_oldAt 0 6 rfl) rfl ?_
  refine go_cV (r_indexOfOld hS hk hR) lk_X9_214 rfl g2 (at_of tX9_oldAt 0 7 rfl) rfl (by decide) rfl (Nat.le_of_ble_eq_true rfl) rfl (by first | decide | exact ⟨Nat.zero_le _, Nat.zero_le _⟩) ?_
  refine go_istore_n (at_of tX9_oldAt 0 8 rfl) rfl rfl ?_
  refine go_iload_n (at_of tX9_oldAt 0 9 rfl) rfl ?_
  refine go_iconst (at_of tX9_oldAt 0 10 rfl) (by unfold in32; omega) ?_
  refine go_icmp_ne (tgt := 32) (at_of tX9_oldAt 0 11 rfl) (by decide) (fun h19 => ?_) (fun h19 => ?_)
  · exfalso; omega
  exact go_throw (i := 0) (Or.inl ⟨163, 217, 167, _, (at_of tX9_oldAt 0 12 rfl), (at_of tX9_oldAt 0 13 rfl), (at_of tX9_oldAt 0 14 rfl), (at_of tX9_oldAt 0 15 rfl), (at_of tX9_oldAt 1 0 rfl), cl_X9_163, List.mem_of_getElem? (i := 14) rfl, inL 824 (by decide +kernel) (by decide +kernel)⟩) (by decide) rfl (Nat.le_of_ble_eq_true rfl) ⟨by decide, by decide⟩ rfl
theorem ok_paragraphs (hS : Str σ.2.1) {pi : Nat → Nat} {A : PastD} (hA : PastR σ pi A) : Con 4 mX9_paragraphs 0 0 [vA 0] σ (vI (endsA (A.1 A.2.1).1.1 (A.1 A.2.1).1.2.1 (A.1 A.2.1).1.2.1 + 1), σ) := by
  obtain ⟨hp, hd, hu, hle, hrep⟩ := id hA
  have hk7 := (hp.1 A.2.1 (by omega)).2
  have hk : pi A.2.1 < 8 := by omega
  have hD := hrep A.2.1 (by omega)
  have hR := hD.1
  have hL := hD.2.1.2.2.1
  have hn := hR.1
  obtain ⟨hw1, hw2, hw3⟩ := hR.2.2.2
  have hm := hD.2.1.1
  obtain ⟨l1, l2, l3⟩ := hD.2.1.2.2.2
  obtain ⟨g1, g2, g3, g4, g5, g6, g7, g8, g9, g10⟩ := gamk _ hk
  obtain ⟨p1, p2, p3, p4, p5, p6, p7, p8, p9⟩ := strk hS _ hk
  refine con_of_go mfX9_paragraphs.1 trivial (Nat.le_of_ble_eq_true rfl) rfl (by decide) ?_
  show Go _ _ _ _ 0 [vA _] [] _ _
  refine go_aload_n (at_of tX9_paragraphs 0 0 rfl) rfl ?_
  refine go_getr (q := 1) fl_X9_16 rfl G_0 ((hS _ _ rfl).trans rfl) (at_of tX9_paragraphs 0 1 rfl) ?_
  refine go_cV (con_now hS hA) lk_X9_114 rfl g1_ (at_of tX9_paragraphs 0 2 rfl) rfl (by decide) rfl (Nat.le_of_ble_eq_true rfl) rfl (by first | decide | exact ⟨Nat.zero_le _, Nat.zero_le _⟩) ?_
  refine go_getr (q := (4 + 10 * pi A.2.1)) fl_X9_131 rfl g1 p1 (at_of tX9_paragraphs 0 3 rfl) ?_
  refine go_cV (r_seenParagraphs hS hk hR) lk_X9_219 rfl g2 (at_of tX9_paragraphs 0 4 rfl) rfl (by decide) rfl (Nat.le_of_ble_eq_true rfl) rfl (by first | decide | exact ⟨Nat.zero_le _, Nat.zero_le _⟩) ?_
  first | exact go_reti (at_of tX9_paragraphs 0 5 rfl) rfl | exact go_reti (at_of tX9_paragraphs 0 5 rfl) (le_i (by omega)) | exact go_reti (at_of tX9_paragraphs 0 5 rfl) (le_i (by first | exact bI_t (by omega) | exact bI_f (by omega)))
theorem ok_paragraphOf (hS : Str σ.2.1) {pi : Nat → Nat} {A : PastD} (hA : PastR σ pi A) {p : Int} (h2 : ixOf (A.1 A.2.1).1.1 (A.1 A.2.1).1.2.1 p ≠ -1) : Con 4 mX9_paragraphOf 0 0 [vA 0, vI p] σ (vI (endsA (A.1 A.2.1).1.1 (A.1 A.2.1).1.2.1 (ixOf (A.1 A.2.1).1.1 (A.1 A.2.1).1.2.1 p)), σ) := by
  obtain ⟨hp, hd, hu, hle, hrep⟩ := id hA
  have hk7 := (hp.1 A.2.1 (by omega)).2
  have hk : pi A.2.1 < 8 := by omega
  have hD := hrep A.2.1 (by omega)
  have hR := hD.1
  have hL := hD.2.1.2.2.1
  have hn := hR.1
  obtain ⟨hw1, hw2, hw3⟩ := hR.2.2.2
  have hm := hD.2.1.1
  obtain ⟨l1, l2, l3⟩ := hD.2.1.2.2.2
  obtain ⟨g1, g2, g3, g4, g5, g6, g7, g8, g9, g10⟩ := gamk _ hk
  obtain ⟨p1, p2, p3, p4, p5, p6, p7, p8, p9⟩ := strk hS _ hk
  have hix := ((@ixOf_le (A.1 A.2.1).1.1 (A.1 A.2.1).1.2.1 p hw1).resolve_left h2)
  refine con_of_go mfX9_paragraphOf.1 trivial (Nat.le_of_ble_eq_true rfl) rfl (by decide) ?_
  show Go _ _ _ _ 0 [vA _, vI _] [] _ _
  refine go_aload_n (at_of tX9_paragraphOf 0 0 rfl) rfl ?_
  refine go_getr (q := 1) fl_X9_16 rfl G_0 ((hS _ _ rfl).trans rfl) (at_of tX9_paragraphOf 0 1 rfl) ?_
  refine go_cV (con_now hS hA) lk_X9_114 rfl g1_ (at_of tX9_paragraphOf 0 2 rfl) rfl (by decide) rfl (Nat.le_of_ble_eq_true rfl) rfl (by first | decide | exact ⟨Nat.zero_le _, Nat.zero_le _⟩) ?_
  refine go_getr (q := (4 + 10 * pi A.2.1)) fl_X9_131 rfl g1 p1 (at_of tX9_paragraphOf 0 3 rfl) ?_
  refine go_aload_n (at_of tX9_paragraphOf 0 4 rfl) rfl ?_
  refine go_iload_n (at_of tX9_paragraphOf 0 5 rfl) rfl ?_
  refine go_cV (ok_Place hS hA h2) lk_X9_70 rfl G_0 (at_of tX9_paragraphOf 0 6 rfl) rfl (by decide) rfl (Nat.le_of_ble_eq_true rfl) rfl (by first | decide | exact ⟨Nat.zero_le _, Nat.zero_le _⟩) ?_
  refine go_cV (r_endsAhead hS hk hR (by omega)) lk_X9_222 rfl g2 (at_of tX9_paragraphOf 0 7 rfl) rfl (by decide) rfl (Nat.le_of_ble_eq_true rfl) rfl (by first | decide | exact ⟨Nat.zero_le _, Nat.zero_le _⟩) ?_
  first | exact go_reti (at_of tX9_paragraphOf 0 8 rfl) rfl | exact go_reti (at_of tX9_paragraphOf 0 8 rfl) (le_i (by omega)) | exact go_reti (at_of tX9_paragraphOf 0 8 rfl) (le_i (by first | exact bI_t (by omega) | exact bI_f (by omega)))
theorem th0_paragraphOf (hS : Str σ.2.1) {pi : Nat → Nat} {A : PastD} (hA : PastR σ pi A) {p : Int} (h2 : ixOf (A.1 A.2.1).1.1 (A.1 A.2.1).1.2.1 p = -1) : Con 4 mX9_paragraphOf 1 6 [vA 0, vI p] σ (vT 20 0, σ) := by
  obtain ⟨hp, hd, hu, hle, hrep⟩ := id hA
  have hk7 := (hp.1 A.2.1 (by omega)).2
  have hk : pi A.2.1 < 8 := by omega
  have hD := hrep A.2.1 (by omega)
  have hR := hD.1
  have hL := hD.2.1.2.2.1
  have hn := hR.1
  obtain ⟨hw1, hw2, hw3⟩ := hR.2.2.2
  have hm := hD.2.1.1
  obtain ⟨l1, l2, l3⟩ := hD.2.1.2.2.2
  obtain ⟨g1, g2, g3, g4, g5, g6, g7, g8, g9, g10⟩ := gamk _ hk
  obtain ⟨p1, p2, p3, p4, p5, p6, p7, p8, p9⟩ := strk hS _ hk
  refine con_of_go mfX9_paragraphOf.1 (Nat.le_of_ble_eq_true rfl) (Nat.le_of_ble_eq_true rfl) rfl (by decide) ?_
  show Go _ _ _ _ 0 [vA _, vI _] [] _ _
  refine go_aload_n (at_of tX9_paragraphOf 0 0 rfl) rfl ?_
  refine go_getr (q := 1) fl_X9_16 rfl G_0 ((hS _ _ rfl).trans rfl) (at_of tX9_paragraphOf 0 1 rfl) ?_
  refine go_cV (con_now hS hA) lk_X9_114 rfl g1_ (at_of tX9_paragraphOf 0 2 rfl) rfl (by decide) rfl (Nat.le_of_ble_eq_true rfl) rfl (by first | decide | exact ⟨Nat.zero_le _, Nat.zero_le _⟩) ?_
  refine go_getr (q := (4 + 10 * pi A.2.1)) fl_X9_131 rfl g1 p1 (at_of tX9_paragraphOf 0 3 rfl) ?_
  refine go_aload_n (at_of tX9_paragraphOf 0 4 rfl) rfl ?_
  refine go_iload_n (at_of tX9_paragraphOf 0 5 rfl) rfl ?_
  exact go_tV (i := 0) (th_Place hS hA h2) lk_X9_70 rfl G_0 (at_of tX9_paragraphOf 0 6 rfl) rfl rfl (by decide) rfl (Nat.le_of_ble_eq_true rfl) rfl ⟨by decide, by decide⟩
theorem ok_startOf (hS : Str σ.2.1) {pi : Nat → Nat} {A : PastD} (hA : PastR σ pi A) {p : Int} (h2 : ixEnd (A.1 A.2.1).1.1 (A.1 A.2.1).1.2.1 p ≠ -1) (hp1 : p < 1000) : Con 4 mX9_startOf 0 0 [vA 0, vI p] σ (vI (if p ≤ 0 then 0 else plOf (A.1 A.2.1).1.1 (A.1 A.2.1).1.2.1 (ixEnd (A.1 A.2.1).1.1 (A.1 A.2.1).1.2.1 (p - 1)) + 1), σ) := by
  obtain ⟨hp, hd, hu, hle, hrep⟩ := id hA
  have hk7 := (hp.1 A.2.1 (by omega)).2
  have hk : pi A.2.1 < 8 := by omega
  have hD := hrep A.2.1 (by omega)
  have hR := hD.1
  have hL := hD.2.1.2.2.1
  have hn := hR.1
  obtain ⟨hw1, hw2, hw3⟩ := hR.2.2.2
  have hm := hD.2.1.1
  obtain ⟨l1, l2, l3⟩ := hD.2.1.2.2.2
  obtain ⟨g1, g2, g3, g4, g5, g6, g7, g8, g9, g10⟩ := gamk _ hk
  obtain ⟨p1, p2, p3, p4, p5, p6, p7, p8, p9⟩ := strk hS _ hk
  refine con_of_go mfX9_startOf.1 trivial (Nat.le_of_ble_eq_true rfl) rfl (by decide) ?_
  show Go _ _ _ _ 0 [vA _, vI _] [] _ _
  refine go_aload_n (at_of tX9_startOf 0 0 rfl) rfl ?_
  refine go_iload_n (at_of tX9_startOf 0 1 rfl) rfl ?_
  refine go_cV (ok_End hS hA h2) lk_X9_156 rfl G_0 (at_of tX9_startOf 0 2 rfl) rfl (by decide) rfl (Nat.le_of_ble_eq_true rfl) rfl (by first | decide | exact ⟨Nat.zero_le _, Nat.zero_le _⟩) ?_
  refine go_pop (at_of tX9_startOf 0 3 rfl) rfl ?_
  refine go_aload_n (at_of tX9_startOf 0 4 rfl) rfl ?_
  refine go_getr (q := 1) fl_X9_16 rfl G_0 ((hS _ _ rfl).trans rfl) (at_of tX9_startOf 0 5 rfl) ?_
  refine go_cV (con_now hS hA) lk_X9_114 rfl g1_ (at_of tX9_startOf 0 6 rfl) rfl (by decide) rfl (Nat.le_of_ble_eq_true rfl) rfl (by first | decide | exact ⟨Nat.zero_le _, Nat.zero_le _⟩) ?_
  refine go_getr (q := (4 + 10 * pi A.2.1)) fl_X9_131 rfl g1 p1 (at_of tX9_startOf 0 7 rfl) ?_
  refine go_iload_n (at_of tX9_startOf 0 8 rfl) rfl ?_
  refine go_cV (r_placeOfParagraph hS hk hR hp1) lk_X9_225 rfl g2 (at_of tX9_startOf 0 9 rfl) rfl (by decide) rfl (Nat.le_of_ble_eq_true rfl) rfl (by first | decide | exact ⟨Nat.zero_le _, Nat.zero_le _⟩) ?_
  first | exact go_reti (at_of tX9_startOf 0 10 rfl) rfl | exact go_reti (at_of tX9_startOf 0 10 rfl) (le_i (by omega)) | exact go_reti (at_of tX9_startOf 0 10 rfl) (le_i (by first | exact bI_t (by omega) | exact bI_f (by omega)))
theorem th0_startOf (hS : Str σ.2.1) {pi : Nat → Nat} {A : PastD} (hA : PastR σ pi A) {p : Int} (h2 : ixEnd (A.1 A.2.1).1.1 (A.1 A.2.1).1.2.1 p = -1) : Con 4 mX9_startOf 1 6 [vA 0, vI p] σ (vT 20 0, σ) := by
  obtain ⟨hp, hd, hu, hle, hrep⟩ := id hA
  have hk7 := (hp.1 A.2.1 (by omega)).2
  have hk : pi A.2.1 < 8 := by omega
  have hD := hrep A.2.1 (by omega)
  have hR := hD.1
  have hL := hD.2.1.2.2.1
  have hn := hR.1
  obtain ⟨hw1, hw2, hw3⟩ := hR.2.2.2
  have hm := hD.2.1.1
  obtain ⟨l1, l2, l3⟩ := hD.2.1.2.2.2
  obtain ⟨g1, g2, g3, g4, g5, g6, g7, g8, g9, g10⟩ := gamk _ hk
  obtain ⟨p1, p2, p3, p4, p5, p6, p7, p8, p9⟩ := strk hS _ hk
  refine con_of_go mfX9_startOf.1 (Nat.le_of_ble_eq_true rfl) (Nat.le_of_ble_eq_true rfl) rfl (by decide) ?_
  show Go _ _ _ _ 0 [vA _, vI _] [] _ _
  refine go_aload_n (at_of tX9_startOf 0 0 rfl) rfl ?_
  refine go_iload_n (at_of tX9_startOf 0 1 rfl) rfl ?_
  exact go_tV (i := 0) (th_End hS hA h2) lk_X9_156 rfl G_0 (at_of tX9_startOf 0 2 rfl) rfl rfl (by decide) rfl (Nat.le_of_ble_eq_true rfl) rfl ⟨by decide, by decide⟩
theorem ok_changes (hS : Str σ.2.1) {pi : Nat → Nat} {A : PastD} (hA : PastR σ pi A) : Con 2 mX9_changes 0 0 [vA 0] σ (vI (A.1 A.2.1).2.1.1, σ) := by
  obtain ⟨hp, hd, hu, hle, hrep⟩ := id hA
  have hk7 := (hp.1 A.2.1 (by omega)).2
  have hk : pi A.2.1 < 8 := by omega
  have hD := hrep A.2.1 (by omega)
  have hR := hD.1
  have hL := hD.2.1.2.2.1
  have hn := hR.1
  obtain ⟨hw1, hw2, hw3⟩ := hR.2.2.2
  have hm := hD.2.1.1
  obtain ⟨l1, l2, l3⟩ := hD.2.1.2.2.2
  obtain ⟨g1, g2, g3, g4, g5, g6, g7, g8, g9, g10⟩ := gamk _ hk
  obtain ⟨p1, p2, p3, p4, p5, p6, p7, p8, p9⟩ := strk hS _ hk
  refine con_of_go mfX9_changes.1 trivial (Nat.le_of_ble_eq_true rfl) rfl (by decide) ?_
  show Go _ _ _ _ 0 [vA _] [] _ _
  refine go_aload_n (at_of tX9_changes 0 0 rfl) rfl ?_
  refine go_getr (q := 1) fl_X9_16 rfl G_0 ((hS _ _ rfl).trans rfl) (at_of tX9_changes 0 1 rfl) ?_
  refine go_cV (con_now hS hA) lk_X9_114 rfl g1_ (at_of tX9_changes 0 2 rfl) rfl (by decide) rfl (Nat.le_of_ble_eq_true rfl) rfl (by first | decide | exact ⟨Nat.zero_le _, Nat.zero_le _⟩) ?_
  refine go_getr (q := (8 + 10 * pi A.2.1)) fl_X9_118 rfl g1 p2 (at_of tX9_changes 0 3 rfl) ?_
  refine go_cV (l_many hS hk hD) lk_X9_228 rfl g6 (at_of tX9_changes 0 4 rfl) rfl (by decide) rfl (Nat.le_of_ble_eq_true rfl) rfl (by first | decide | exact ⟨Nat.zero_le _, Nat.zero_le _⟩) ?_
  first | exact go_reti (at_of tX9_changes 0 5 rfl) rfl | exact go_reti (at_of tX9_changes 0 5 rfl) (le_i (by omega)) | exact go_reti (at_of tX9_changes 0 5 rfl) (le_i (by first | exact bI_t (by omega) | exact bI_f (by omega)))
theorem ok_kindOf (hS : Str σ.2.1) {pi : Nat → Nat} {A : PastD} (hA : PastR σ pi A) {c : Int} (h1 : 0 ≤ c ∧ c < (A.1 A.2.1).2.1.1) : Con 3 mX9_kindOf 0 0 [vA 0, vI c] σ (vI ((A.1 A.2.1).2.1.2.1 c), σ) := by
  obtain ⟨hp, hd, hu, hle, hrep⟩ := id hA
  have hk7 := (hp.1 A.2.1 (by omega)).2
  have hk : pi A.2.1 < 8 := by omega
  have hD := hrep A.2.1 (by omega)
  have hR := hD.1
  have hL := hD.2.1.2.2.1
  have hn := hR.1
  obtain ⟨hw1, hw2, hw3⟩ := hR.2.2.2
  have hm := hD.2.1.1
  obtain ⟨l1, l2, l3⟩ := hD.2.1.2.2.2
  obtain ⟨g1, g2, g3, g4, g5, g6, g7, g8, g9, g10⟩ := gamk _ hk
  obtain ⟨p1, p2, p3, p4, p5, p6, p7, p8, p9⟩ := strk hS _ hk
  refine con_of_go mfX9_kindOf.1 ⟨by have := l3 c h1.1 h1.2; omega, by have := l3 c h1.1 h1.2; omega⟩ (Nat.le_of_ble_eq_true rfl) rfl (by decide) ?_
  show Go _ _ _ _ 0 [vA _, vI _] [] _ _
  refine go_aload_n (at_of tX9_kindOf 0 0 rfl) rfl ?_
  refine go_iload_n (at_of tX9_kindOf 0 1 rfl) rfl ?_
  refine go_cV (ok_Change hS hA h1) lk_X9_231 rfl G_0 (at_of tX9_kindOf 0 2 rfl) rfl (by decide) rfl (Nat.le_of_ble_eq_true rfl) rfl (by first | decide | exact ⟨Nat.zero_le _, Nat.zero_le _⟩) ?_
  refine go_aload_n (at_of tX9_kindOf 0 3 rfl) rfl ?_
  refine go_getr (q := 1) fl_X9_16 rfl G_0 ((hS _ _ rfl).trans rfl) (at_of tX9_kindOf 0 4 rfl) ?_
  refine go_cV (con_now hS hA) lk_X9_114 rfl g1_ (at_of tX9_kindOf 0 5 rfl) rfl (by decide) rfl (Nat.le_of_ble_eq_true rfl) rfl (by first | decide | exact ⟨Nat.zero_le _, Nat.zero_le _⟩) ?_
  refine go_getr (q := (8 + 10 * pi A.2.1)) fl_X9_118 rfl g1 p2 (at_of tX9_kindOf 0 6 rfl) ?_
  refine go_iload_n (at_of tX9_kindOf 0 7 rfl) rfl ?_
  refine go_cV (l_kind hS hk hD h1) lk_X9_234 rfl g6 (at_of tX9_kindOf 0 8 rfl) rfl (by decide) rfl (Nat.le_of_ble_eq_true rfl) rfl (by first | decide | exact ⟨Nat.zero_le _, Nat.zero_le _⟩) ?_
  first | exact go_reti (at_of tX9_kindOf 0 9 rfl) rfl | exact go_reti (at_of tX9_kindOf 0 9 rfl) (le_i (by omega)) | exact go_reti (at_of tX9_kindOf 0 9 rfl) (le_i (by first | exact bI_t (by omega) | exact bI_f (by omega)))
theorem th0_kindOf (hS : Str σ.2.1) {pi : Nat → Nat} {A : PastD} (hA : PastR σ pi A) {c : Int} (h1 : ¬ (0 ≤ c ∧ c < (A.1 A.2.1).2.1.1)) : Con 3 mX9_kindOf 1 6 [vA 0, vI c] σ (vT 20 0, σ) := by
  obtain ⟨hp, hd, hu, hle, hrep⟩ := id hA
  have hk7 := (hp.1 A.2.1 (by omega)).2
  have hk : pi A.2.1 < 8 := by omega
  have hD := hrep A.2.1 (by omega)
  have hR := hD.1
  have hL := hD.2.1.2.2.1
  have hn := hR.1
  obtain ⟨hw1, hw2, hw3⟩ := hR.2.2.2
  have hm := hD.2.1.1
  obtain ⟨l1, l2, l3⟩ := hD.2.1.2.2.2
  obtain ⟨g1, g2, g3, g4, g5, g6, g7, g8, g9, g10⟩ := gamk _ hk
  obtain ⟨p1, p2, p3, p4, p5, p6, p7, p8, p9⟩ := strk hS _ hk
  refine con_of_go mfX9_kindOf.1 (Nat.le_of_ble_eq_true rfl) (Nat.le_of_ble_eq_true rfl) rfl (by decide) ?_
  show Go _ _ _ _ 0 [vA _, vI _] [] _ _
  refine go_aload_n (at_of tX9_kindOf 0 0 rfl) rfl ?_
  refine go_iload_n (at_of tX9_kindOf 0 1 rfl) rfl ?_
  exact go_tV (i := 0) (th_Change hS hA h1) lk_X9_231 rfl G_0 (at_of tX9_kindOf 0 2 rfl) rfl rfl (by decide) rfl (Nat.le_of_ble_eq_true rfl) rfl ⟨by decide, by decide⟩
theorem ok_authorOf (hS : Str σ.2.1) {pi : Nat → Nat} {A : PastD} (hA : PastR σ pi A) {c : Int} (h1 : 0 ≤ c ∧ c < (A.1 A.2.1).2.1.1) : Con 3 mX9_authorOf 0 0 [vA 0, vI c] σ (vI ((A.1 A.2.1).2.1.2.2.1 c), σ) := by
  obtain ⟨hp, hd, hu, hle, hrep⟩ := id hA
  have hk7 := (hp.1 A.2.1 (by omega)).2
  have hk : pi A.2.1 < 8 := by omega
  have hD := hrep A.2.1 (by omega)
  have hR := hD.1
  have hL := hD.2.1.2.2.1
  have hn := hR.1
  obtain ⟨hw1, hw2, hw3⟩ := hR.2.2.2
  have hm := hD.2.1.1
  obtain ⟨l1, l2, l3⟩ := hD.2.1.2.2.2
  obtain ⟨g1, g2, g3, g4, g5, g6, g7, g8, g9, g10⟩ := gamk _ hk
  obtain ⟨p1, p2, p3, p4, p5, p6, p7, p8, p9⟩ := strk hS _ hk
  refine con_of_go mfX9_authorOf.1 trivial (Nat.le_of_ble_eq_true rfl) rfl (by decide) ?_
  show Go _ _ _ _ 0 [vA _, vI _] [] _ _
  refine go_aload_n (at_of tX9_authorOf 0 0 rfl) rfl ?_
  refine go_iload_n (at_of tX9_authorOf 0 1 rfl) rfl ?_
  refine go_cV (ok_Change hS hA h1) lk_X9_231 rfl G_0 (at_of tX9_authorOf 0 2 rfl) rfl (by decide) rfl (Nat.le_of_ble_eq_true rfl) rfl (by first | decide | exact ⟨Nat.zero_le _, Nat.zero_le _⟩) ?_
  refine go_aload_n (at_of tX9_authorOf 0 3 rfl) rfl ?_
  refine go_getr (q := 1) fl_X9_16 rfl G_0 ((hS _ _ rfl).trans rfl) (at_of tX9_authorOf 0 4 rfl) ?_
  refine go_cV (con_now hS hA) lk_X9_114 rfl g1_ (at_of tX9_authorOf 0 5 rfl) rfl (by decide) rfl (Nat.le_of_ble_eq_true rfl) rfl (by first | decide | exact ⟨Nat.zero_le _, Nat.zero_le _⟩) ?_
  refine go_getr (q := (8 + 10 * pi A.2.1)) fl_X9_118 rfl g1 p2 (at_of tX9_authorOf 0 6 rfl) ?_
  refine go_iload_n (at_of tX9_authorOf 0 7 rfl) rfl ?_
  refine go_cV (l_author hS hk hD h1) lk_X9_238 rfl g6 (at_of tX9_authorOf 0 8 rfl) rfl (by decide) rfl (Nat.le_of_ble_eq_true rfl) rfl (by first | decide | exact ⟨Nat.zero_le _, Nat.zero_le _⟩) ?_
  first | exact go_reti (at_of tX9_authorOf 0 9 rfl) rfl | exact go_reti (at_of tX9_authorOf 0 9 rfl) (le_i (by omega)) | exact go_reti (at_of tX9_authorOf 0 9 rfl) (le_i (by first | exact bI_t (by omega) | exact bI_f (by omega)))
theorem th0_authorOf (hS : Str σ.2.1) {pi : Nat → Nat} {A : PastD} (hA : PastR σ pi A) {c : Int} (h1 : ¬ (0 ≤ c ∧ c < (A.1 A.2.1).2.1.1)) : Con 3 mX9_authorOf 1 6 [vA 0, vI c] σ (vT 20 0, σ) := by
  obtain ⟨hp, hd, hu, hle, hrep⟩ := id hA
  have hk7 := (hp.1 A.2.1 (by omega)).2
  have hk : pi A.2.1 < 8 := by omega
  have hD := hrep A.2.1 (by omega)
  have hR := hD.1
  have hL := hD.2.1.2.2.1
  have hn := hR.1
  obtain ⟨hw1, hw2, hw3⟩ := hR.2.2.2
  have hm := hD.2.1.1
  obtain ⟨l1, l2, l3⟩ := hD.2.1.2.2.2
  obtain ⟨g1, g2, g3, g4, g5, g6, g7, g8, g9, g10⟩ := gamk _ hk
  obtain ⟨p1, p2, p3, p4, p5, p6, p7, p8, p9⟩ := strk hS _ hk
  refine con_of_go mfX9_authorOf.1 (Nat.le_of_ble_eq_true rfl) (Nat.le_of_ble_eq_true rfl) rfl (by decide) ?_
  show Go _ _ _ _ 0 [vA _, vI _] [] _ _
  refine go_aload_n (at_of tX9_authorOf 0 0 rfl) rfl ?_
  refine go_iload_n (at_of tX9_authorOf 0 1 rfl) rfl ?_
  exact go_tV (i := 0) (th_Change hS hA h1) lk_X9_231 rfl G_0 (at_of tX9_authorOf 0 2 rfl) rfl rfl (by decide) rfl (Nat.le_of_ble_eq_true rfl) rfl ⟨by decide, by decide⟩
theorem ok_stateOf (hS : Str σ.2.1) {pi : Nat → Nat} {A : PastD} (hA : PastR σ pi A) {c : Int} (h1 : 0 ≤ c ∧ c < (A.1 A.2.1).2.1.1) : Con 3 mX9_stateOf 0 0 [vA 0, vI c] σ (vI ((A.1 A.2.1).2.1.2.2.2 c), σ) := by
  obtain ⟨hp, hd, hu, hle, hrep⟩ := id hA
  have hk7 := (hp.1 A.2.1 (by omega)).2
  have hk : pi A.2.1 < 8 := by omega
  have hD := hrep A.2.1 (by omega)
  have hR := hD.1
  have hL := hD.2.1.2.2.1
  have hn := hR.1
  obtain ⟨hw1, hw2, hw3⟩ := hR.2.2.2
  have hm := hD.2.1.1
  obtain ⟨l1, l2, l3⟩ := hD.2.1.2.2.2
  obtain ⟨g1, g2, g3, g4, g5, g6, g7, g8, g9, g10⟩ := gamk _ hk
  obtain ⟨p1, p2, p3, p4, p5, p6, p7, p8, p9⟩ := strk hS _ hk
  have hst := hL.2.2.2 c.toNat (by omega)
  rw [(hD.2.1.2.1 c h1.1 h1.2).2.2] at hst
  refine con_of_go mfX9_stateOf.1 hst (Nat.le_of_ble_eq_true rfl) rfl (by decide) ?_
  show Go _ _ _ _ 0 [vA _, vI _] [] _ _
  refine go_aload_n (at_of tX9_stateOf 0 0 rfl) rfl ?_
  refine go_iload_n (at_of tX9_stateOf 0 1 rfl) rfl ?_
  refine go_cV (ok_Change hS hA h1) lk_X9_231 rfl G_0 (at_of tX9_stateOf 0 2 rfl) rfl (by decide) rfl (Nat.le_of_ble_eq_true rfl) rfl (by first | decide | exact ⟨Nat.zero_le _, Nat.zero_le _⟩) ?_
  refine go_aload_n (at_of tX9_stateOf 0 3 rfl) rfl ?_
  refine go_getr (q := 1) fl_X9_16 rfl G_0 ((hS _ _ rfl).trans rfl) (at_of tX9_stateOf 0 4 rfl) ?_
  refine go_cV (con_now hS hA) lk_X9_114 rfl g1_ (at_of tX9_stateOf 0 5 rfl) rfl (by decide) rfl (Nat.le_of_ble_eq_true rfl) rfl (by first | decide | exact ⟨Nat.zero_le _, Nat.zero_le _⟩) ?_
  refine go_getr (q := (8 + 10 * pi A.2.1)) fl_X9_118 rfl g1 p2 (at_of tX9_stateOf 0 6 rfl) ?_
  refine go_iload_n (at_of tX9_stateOf 0 7 rfl) rfl ?_
  refine go_cV (l_state hS hk hD h1) lk_X9_241 rfl g6 (at_of tX9_stateOf 0 8 rfl) rfl (by decide) rfl (Nat.le_of_ble_eq_true rfl) rfl (by first | decide | exact ⟨Nat.zero_le _, Nat.zero_le _⟩) ?_
  first | exact go_reti (at_of tX9_stateOf 0 9 rfl) rfl | exact go_reti (at_of tX9_stateOf 0 9 rfl) (le_i (by omega)) | exact go_reti (at_of tX9_stateOf 0 9 rfl) (le_i (by first | exact bI_t (by omega) | exact bI_f (by omega)))
theorem th0_stateOf (hS : Str σ.2.1) {pi : Nat → Nat} {A : PastD} (hA : PastR σ pi A) {c : Int} (h1 : ¬ (0 ≤ c ∧ c < (A.1 A.2.1).2.1.1)) : Con 3 mX9_stateOf 1 6 [vA 0, vI c] σ (vT 20 0, σ) := by
  obtain ⟨hp, hd, hu, hle, hrep⟩ := id hA
  have hk7 := (hp.1 A.2.1 (by omega)).2
  have hk : pi A.2.1 < 8 := by omega
  have hD := hrep A.2.1 (by omega)
  have hR := hD.1
  have hL := hD.2.1.2.2.1
  have hn := hR.1
  obtain ⟨hw1, hw2, hw3⟩ := hR.2.2.2
  have hm := hD.2.1.1
  obtain ⟨l1, l2, l3⟩ := hD.2.1.2.2.2
  obtain ⟨g1, g2, g3, g4, g5, g6, g7, g8, g9, g10⟩ := gamk _ hk
  obtain ⟨p1, p2, p3, p4, p5, p6, p7, p8, p9⟩ := strk hS _ hk
  refine con_of_go mfX9_stateOf.1 (Nat.le_of_ble_eq_true rfl) (Nat.le_of_ble_eq_true rfl) rfl (by decide) ?_
  show Go _ _ _ _ 0 [vA _, vI _] [] _ _
  refine go_aload_n (at_of tX9_stateOf 0 0 rfl) rfl ?_
  refine go_iload_n (at_of tX9_stateOf 0 1 rfl) rfl ?_
  exact go_tV (i := 0) (th_Change hS hA h1) lk_X9_231 rfl G_0 (at_of tX9_stateOf 0 2 rfl) rfl rfl (by decide) rfl (Nat.le_of_ble_eq_true rfl) rfl ⟨by decide, by decide⟩
theorem ok_unitsOf (hS : Str σ.2.1) {pi : Nat → Nat} {A : PastD} (hA : PastR σ pi A) {c : Int} (h1 : 0 ≤ c ∧ c < (A.1 A.2.1).2.1.1) : Con 3 mX9_unitsOf 0 0 [vA 0, vI c] σ (vI (concN (A.1 A.2.1).1.1 (A.1 A.2.1).1.2.1 c), σ) := by
  obtain ⟨hp, hd, hu, hle, hrep⟩ := id hA
  have hk7 := (hp.1 A.2.1 (by omega)).2
  have hk : pi A.2.1 < 8 := by omega
  have hD := hrep A.2.1 (by omega)
  have hR := hD.1
  have hL := hD.2.1.2.2.1
  have hn := hR.1
  obtain ⟨hw1, hw2, hw3⟩ := hR.2.2.2
  have hm := hD.2.1.1
  obtain ⟨l1, l2, l3⟩ := hD.2.1.2.2.2
  obtain ⟨g1, g2, g3, g4, g5, g6, g7, g8, g9, g10⟩ := gamk _ hk
  obtain ⟨p1, p2, p3, p4, p5, p6, p7, p8, p9⟩ := strk hS _ hk
  refine con_of_go mfX9_unitsOf.1 trivial (Nat.le_of_ble_eq_true rfl) rfl (by decide) ?_
  show Go _ _ _ _ 0 [vA _, vI _] [] _ _
  refine go_aload_n (at_of tX9_unitsOf 0 0 rfl) rfl ?_
  refine go_iload_n (at_of tX9_unitsOf 0 1 rfl) rfl ?_
  refine go_cV (ok_Change hS hA h1) lk_X9_231 rfl G_0 (at_of tX9_unitsOf 0 2 rfl) rfl (by decide) rfl (Nat.le_of_ble_eq_true rfl) rfl (by first | decide | exact ⟨Nat.zero_le _, Nat.zero_le _⟩) ?_
  refine go_aload_n (at_of tX9_unitsOf 0 3 rfl) rfl ?_
  refine go_getr (q := 1) fl_X9_16 rfl G_0 ((hS _ _ rfl).trans rfl) (at_of tX9_unitsOf 0 4 rfl) ?_
  refine go_cV (con_now hS hA) lk_X9_114 rfl g1_ (at_of tX9_unitsOf 0 5 rfl) rfl (by decide) rfl (Nat.le_of_ble_eq_true rfl) rfl (by first | decide | exact ⟨Nat.zero_le _, Nat.zero_le _⟩) ?_
  refine go_getr (q := (4 + 10 * pi A.2.1)) fl_X9_131 rfl g1 p1 (at_of tX9_unitsOf 0 6 rfl) ?_
  refine go_iload_n (at_of tX9_unitsOf 0 7 rfl) rfl ?_
  refine go_cV (r_concerned hS hk hR) lk_X9_244 rfl g2 (at_of tX9_unitsOf 0 8 rfl) rfl (by decide) rfl (Nat.le_of_ble_eq_true rfl) rfl (by first | decide | exact ⟨Nat.zero_le _, Nat.zero_le _⟩) ?_
  first | exact go_reti (at_of tX9_unitsOf 0 9 rfl) rfl | exact go_reti (at_of tX9_unitsOf 0 9 rfl) (le_i (by omega)) | exact go_reti (at_of tX9_unitsOf 0 9 rfl) (le_i (by first | exact bI_t (by omega) | exact bI_f (by omega)))
theorem th0_unitsOf (hS : Str σ.2.1) {pi : Nat → Nat} {A : PastD} (hA : PastR σ pi A) {c : Int} (h1 : ¬ (0 ≤ c ∧ c < (A.1 A.2.1).2.1.1)) : Con 3 mX9_unitsOf 1 6 [vA 0, vI c] σ (vT 20 0, σ) := by
  obtain ⟨hp, hd, hu, hle, hrep⟩ := id hA
  have hk7 := (hp.1 A.2.1 (by omega)).2
  have hk : pi A.2.1 < 8 := by omega
  have hD := hrep A.2.1 (by omega)
  have hR := hD.1
  have hL := hD.2.1.2.2.1
  have hn := hR.1
  obtain ⟨hw1, hw2, hw3⟩ := hR.2.2.2
  have hm := hD.2.1.1
  obtain ⟨l1, l2, l3⟩ := hD.2.1.2.2.2
  obtain ⟨g1, g2, g3, g4, g5, g6, g7, g8, g9, g10⟩ := gamk _ hk
  obtain ⟨p1, p2, p3, p4, p5, p6, p7, p8, p9⟩ := strk hS _ hk
  refine con_of_go mfX9_unitsOf.1 (Nat.le_of_ble_eq_true rfl) (Nat.le_of_ble_eq_true rfl) rfl (by decide) ?_
  show Go _ _ _ _ 0 [vA _, vI _] [] _ _
  refine go_aload_n (at_of tX9_unitsOf 0 0 rfl) rfl ?_
  refine go_iload_n (at_of tX9_unitsOf 0 1 rfl) rfl ?_
  exact go_tV (i := 0) (th_Change hS hA h1) lk_X9_231 rfl G_0 (at_of tX9_unitsOf 0 2 rfl) rfl rfl (by decide) rfl (Nat.le_of_ble_eq_true rfl) rfl ⟨by decide, by decide⟩
theorem ok_changeAt (hS : Str σ.2.1) {pi : Nat → Nat} {A : PastD} (hA : PastR σ pi A) {p : Int} (h2 : ixOf (A.1 A.2.1).1.1 (A.1 A.2.1).1.2.1 p ≠ -1) (h3 : ixOf (A.1 A.2.1).1.1 (A.1 A.2.1).1.2.1 p < (A.1 A.2.1).1.2.1) (h4 : (A.1 A.2.1).1.1 2 (ixOf (A.1 A.2.1).1.1 (A.1 A.2.1).1.2.1 p) ≠ -1) : Con 5 mX9_changeAt 0 0 [vA 0, vI p] σ (vI ((A.1 A.2.1).1.1 2 (ixOf (A.1 A.2.1).1.1 (A.1 A.2.1).1.2.1 p)), σ) := by
  obtain ⟨hp, hd, hu, hle, hrep⟩ := id hA
  have hk7 := (hp.1 A.2.1 (by omega)).2
  have hk : pi A.2.1 < 8 := by omega
  have hD := hrep A.2.1 (by omega)
  have hR := hD.1
  have hL := hD.2.1.2.2.1
  have hn := hR.1
  obtain ⟨hw1, hw2, hw3⟩ := hR.2.2.2
  have hm := hD.2.1.1
  obtain ⟨l1, l2, l3⟩ := hD.2.1.2.2.2
  obtain ⟨g1, g2, g3, g4, g5, g6, g7, g8, g9, g10⟩ := gamk _ hk
  obtain ⟨p1, p2, p3, p4, p5, p6, p7, p8, p9⟩ := strk hS _ hk
  have hix := ((@ixOf_le (A.1 A.2.1).1.1 (A.1 A.2.1).1.2.1 p hw1).resolve_left h2)
  refine con_of_go mfX9_changeAt.1 trivial (Nat.le_of_ble_eq_true rfl) rfl (by decide) ?_
  show Go _ _ _ _ 0 [vA _, vI _, vT 9 0] [] _ _
  refine go_aload_n (at_of tX9_changeAt 0 0 rfl) rfl ?_
  refine go_getr (q := 1) fl_X9_16 rfl G_0 ((hS _ _ rfl).trans rfl) (at_of tX9_changeAt 0 1 rfl) ?_
  refine go_cV (con_now hS hA) lk_X9_114 rfl g1_ (at_of tX9_changeAt 0 2 rfl) rfl (by decide) rfl (Nat.le_of_ble_eq_true rfl) rfl (by first | decide | exact ⟨Nat.zero_le _, Nat.zero_le _⟩) ?_
  refine go_getr (q := (4 + 10 * pi A.2.1)) fl_X9_131 rfl g1 p1 (at_of tX9_changeAt 0 3 rfl) ?_
  refine go_iconst (at_of tX9_changeAt 0 4 rfl) (by unfold in32; omega) ?_
  refine go_aload_n (at_of tX9_changeAt 0 5 rfl) rfl ?_
  refine go_iload_n (at_of tX9_changeAt 0 6 rfl) rfl ?_
  refine go_cV (ok_Unit hS hA h2 h3) lk_X9_208 rfl G_0 (at_of tX9_changeAt 0 7 rfl) rfl (by decide) rfl (Nat.le_of_ble_eq_true rfl) rfl (by first | decide | exact ⟨Nat.zero_le _, Nat.zero_le _⟩) ?_
  refine go_cV (r_fact hS hk hR (by omega) (by omega)) lk_X9_168 rfl g2 (at_of tX9_changeAt 0 8 rfl) rfl (by decide) rfl (Nat.le_of_ble_eq_true rfl) rfl (by first | decide | exact ⟨Nat.zero_le _, Nat.zero_le _⟩) ?_
  refine go_istore_n (at_of tX9_changeAt 0 9 rfl) rfl rfl ?_
  refine go_iload_n (at_of tX9_changeAt 0 10 rfl) rfl ?_
  refine go_iconst (at_of tX9_changeAt 0 11 rfl) (by unfold in32; omega) ?_
  refine go_icmp_ne (tgt := 35) (at_of tX9_changeAt 0 12 rfl) (by decide) (fun h22 => ?_) (fun h22 => ?_)
  rotate_left
  · exfalso; omega
  refine go_iload_n (at_of tX9_changeAt 1 2 rfl) rfl ?_
  first | exact go_reti (at_of tX9_changeAt 1 3 rfl) rfl | exact go_reti (at_of tX9_changeAt 1 3 rfl) (le_i (by omega)) | exact go_reti (at_of tX9_changeAt 1 3 rfl) (le_i (by first | exact bI_t (by omega) | exact bI_f (by omega)))
theorem th0_changeAt (hS : Str σ.2.1) {pi : Nat → Nat} {A : PastD} (hA : PastR σ pi A) {p : Int} (h2 : ixOf (A.1 A.2.1).1.1 (A.1 A.2.1).1.2.1 p = -1 ∨ ixOf (A.1 A.2.1).1.1 (A.1 A.2.1).1.2.1 p = (A.1 A.2.1).1.2.1) : Con 5 mX9_changeAt 1 6 [vA 0, vI p] σ (vT 20 0, σ) := by
  obtain ⟨hp, hd, hu, hle, hrep⟩ := id hA
  have hk7 := (hp.1 A.2.1 (by omega)).2
  have hk : pi A.2.1 < 8 := by omega
  have hD := hrep A.2.1 (by omega)
  have hR := hD.1
  have hL := hD.2.1.2.2.1
  have hn := hR.1
  obtain ⟨hw1, hw2, hw3⟩ := hR.2.2.2
  have hm := hD.2.1.1
  obtain ⟨l1, l2, l3⟩ := hD.2.1.2.2.2
  obtain ⟨g1, g2, g3, g4, g5, g6, g7, g8, g9, g10⟩ := gamk _ hk
  obtain ⟨p1, p2, p3, p4, p5, p6, p7, p8, p9⟩ := strk hS _ hk
  refine con_of_go mfX9_changeAt.1 (Nat.le_of_ble_eq_true rfl) (Nat.le_of_ble_eq_true rfl) rfl (by decide) ?_
  show Go _ _ _ _ 0 [vA _, vI _, vT 9 0] [] _ _
  refine go_aload_n (at_of tX9_changeAt 0 0 rfl) rfl ?_
  refine go_getr (q := 1) fl_X9_16 rfl G_0 ((hS _ _ rfl).trans rfl) (at_of tX9_changeAt 0 1 rfl) ?_
  refine go_cV (con_now hS hA) lk_X9_114 rfl g1_ (at_of tX9_changeAt 0 2 rfl) rfl (by decide) rfl (Nat.le_of_ble_eq_true rfl) rfl (by first | decide | exact ⟨Nat.zero_le _, Nat.zero_le _⟩) ?_
  refine go_getr (q := (4 + 10 * pi A.2.1)) fl_X9_131 rfl g1 p1 (at_of tX9_changeAt 0 3 rfl) ?_
  refine go_iconst (at_of tX9_changeAt 0 4 rfl) (by unfold in32; omega) ?_
  refine go_aload_n (at_of tX9_changeAt 0 5 rfl) rfl ?_
  refine go_iload_n (at_of tX9_changeAt 0 6 rfl) rfl ?_
  exact go_tV (i := 0) (th_Unit hS hA h2) lk_X9_208 rfl G_0 (at_of tX9_changeAt 0 7 rfl) rfl rfl (by decide) rfl (Nat.le_of_ble_eq_true rfl) rfl ⟨by decide, by decide⟩
theorem th4_changeAt (hS : Str σ.2.1) {pi : Nat → Nat} {A : PastD} (hA : PastR σ pi A) {p : Int} (h2 : ixOf (A.1 A.2.1).1.1 (A.1 A.2.1).1.2.1 p ≠ -1) (h3 : ixOf (A.1 A.2.1).1.1 (A.1 A.2.1).1.2.1 p < (A.1 A.2.1).1.2.1) (h4 : (A.1 A.2.1).1.1 2 (ixOf (A.1 A.2.1).1.1 (A.1 A.2.1).1.2.1 p) = -1) : Con 5 mX9_changeAt 1 6 [vA 0, vI p] σ (vT 24 0, σ) := by
  obtain ⟨hp, hd, hu, hle, hrep⟩ := id hA
  have hk7 := (hp.1 A.2.1 (by omega)).2
  have hk : pi A.2.1 < 8 := by omega
  have hD := hrep A.2.1 (by omega)
  have hR := hD.1
  have hL := hD.2.1.2.2.1
  have hn := hR.1
  obtain ⟨hw1, hw2, hw3⟩ := hR.2.2.2
  have hm := hD.2.1.1
  obtain ⟨l1, l2, l3⟩ := hD.2.1.2.2.2
  obtain ⟨g1, g2, g3, g4, g5, g6, g7, g8, g9, g10⟩ := gamk _ hk
  obtain ⟨p1, p2, p3, p4, p5, p6, p7, p8, p9⟩ := strk hS _ hk
  have hix := ((@ixOf_le (A.1 A.2.1).1.1 (A.1 A.2.1).1.2.1 p hw1).resolve_left h2)
  refine con_of_go mfX9_changeAt.1 (Nat.le_of_ble_eq_true rfl) (Nat.le_of_ble_eq_true rfl) rfl (by decide) ?_
  show Go _ _ _ _ 0 [vA _, vI _, vT 9 0] [] _ _
  refine go_aload_n (at_of tX9_changeAt 0 0 rfl) rfl ?_
  refine go_getr (q := 1) fl_X9_16 rfl G_0 ((hS _ _ rfl).trans rfl) (at_of tX9_changeAt 0 1 rfl) ?_
  refine go_cV (con_now hS hA) lk_X9_114 rfl g1_ (at_of tX9_changeAt 0 2 rfl) rfl (by decide) rfl (Nat.le_of_ble_eq_true rfl) rfl (by first | decide | exact ⟨Nat.zero_le _, Nat.zero_le _⟩) ?_
  refine go_getr (q := (4 + 10 * pi A.2.1)) fl_X9_131 rfl g1 p1 (at_of tX9_changeAt 0 3 rfl) ?_
  refine go_iconst (at_of tX9_changeAt 0 4 rfl) (by unfold in32; omega) ?_
  refine go_aload_n (at_of tX9_changeAt 0 5 rfl) rfl ?_
  refine go_iload_n (at_of tX9_changeAt 0 6 rfl) rfl ?_
  refine go_cV (ok_Unit hS hA h2 h3) lk_X9_208 rfl G_0 (at_of tX9_changeAt 0 7 rfl) rfl (by decide) rfl (Nat.le_of_ble_eq_true rfl) rfl (by first | decide | exact ⟨Nat.zero_le _, Nat.zero_le _⟩) ?_
  refine go_cV (r_fact hS hk hR (by omega) (by omega)) lk_X9_168 rfl g2 (at_of tX9_changeAt 0 8 rfl) rfl (by decide) rfl (Nat.le_of_ble_eq_true rfl) rfl (by first | decide | exact ⟨Nat.zero_le _, Nat.zero_le _⟩) ?_
  refine go_istore_n (at_of tX9_changeAt 0 9 rfl) rfl rfl ?_
  refine go_iload_n (at_of tX9_changeAt 0 10 rfl) rfl ?_
  refine go_iconst (at_of tX9_changeAt 0 11 rfl) (by unfold in32; omega) ?_
  refine go_icmp_ne (tgt := 35) (at_of tX9_changeAt 0 12 rfl) (by decide) (fun h22 => ?_) (fun h22 => ?_)
  · exfalso; omega
  exact go_throw (i := 4) (Or.inl ⟨188, 247, 192, _, (at_of tX9_changeAt 0 13 rfl), (at_of tX9_changeAt 0 14 rfl), (at_of tX9_changeAt 0 15 rfl), (at_of tX9_changeAt 1 0 rfl), (at_of tX9_changeAt 1 1 rfl), cl_X9_188, List.mem_of_getElem? (i := 16) rfl, inL 1049 (by decide +kernel) (by decide +kernel)⟩) (by decide) rfl (Nat.le_of_ble_eq_true rfl) ⟨by decide, by decide⟩ rfl
theorem th1_addStyle (hS : Str σ.2.1) {q t z : Int} (h1 : ¬ ((q = -1 ∨ (0 ≤ q ∧ q < σ.1 83 3)) ∧ -1 ≤ z ∧ z ≤ 1)) : Con 2 mX9_addStyle 1 6 [vA 0, vI q, vI t, vI z] σ (vT 21 0, σ) := by
  by_cases hq : q = -1
  · by_cases hz : z < -1
    · skip
      refine con_of_go mfX9_addStyle.1 (Nat.le_of_ble_eq_true rfl) (Nat.le_of_ble_eq_true rfl) rfl (by decide) ?_
      show Go _ _ _ _ 0 [vA _, vI _, vI _, vI _] [] _ _
      refine go_iload_n (at_of tX9_addStyle 0 0 rfl) rfl ?_
      refine go_iconst (at_of tX9_addStyle 0 1 rfl) (by unfold in32; omega) ?_
      refine go_icmp_eq (tgt := 26) (at_of tX9_addStyle 0 2 rfl) (by decide) (fun h2 => ?_) (fun h2 => ?_)
      rotate_left
      · exfalso; omega
      refine go_iload_n (at_of tX9_addStyle 0 13 rfl) rfl ?_
      refine go_iconst (at_of tX9_addStyle 0 14 rfl) (by unfold in32; omega) ?_
      refine go_icmp_lt (tgt := 36) (at_of tX9_addStyle 0 15 rfl) (by decide) (fun h28 => ?_) (fun h28 => ?_)
      rotate_left
      · exfalso; omega
      exact go_throw (i := 1) (Or.inr ⟨78, 259, 82, _, (at_of tX9_addStyle 1 3 rfl), (at_of tX9_addStyle 1 4 rfl), (at_of tX9_addStyle 1 5 rfl), (at_of tX9_addStyle 1 6 rfl), (at_of tX9_addStyle 1 7 rfl), cl_X9_78, List.mem_of_getElem? (i := 18) rfl, inL 845 (by decide +kernel) (by decide +kernel)⟩) (by decide) rfl (Nat.le_of_ble_eq_true rfl) ⟨by decide, by decide⟩ rfl
    · skip
      refine con_of_go mfX9_addStyle.1 (Nat.le_of_ble_eq_true rfl) (Nat.le_of_ble_eq_true rfl) rfl (by decide) ?_
      show Go _ _ _ _ 0 [vA _, vI _, vI _, vI _] [] _ _
      refine go_iload_n (at_of tX9_addStyle 0 0 rfl) rfl ?_
      refine go_iconst (at_of tX9_addStyle 0 1 rfl) (by unfold in32; omega) ?_
      refine go_icmp_eq (tgt := 26) (at_of tX9_addStyle 0 2 rfl) (by decide) (fun h2 => ?_) (fun h2 => ?_)
      rotate_left
      · exfalso; omega
      refine go_iload_n (at_of tX9_addStyle 0 13 rfl) rfl ?_
      refine go_iconst (at_of tX9_addStyle 0 14 rfl) (by unfold in32; omega) ?_
      refine go_icmp_lt (tgt := 36) (at_of tX9_addStyle 0 15 rfl) (by decide) (fun h28 => ?_) (fun h28 => ?_)
      · exfalso; omega
      refine go_iload_n (at_of tX9_addStyle 1 0 rfl) rfl ?_
      refine go_iconst (at_of tX9_addStyle 1 1 rfl) (by unfold in32; omega) ?_
      refine go_icmp_le (tgt := 47) (at_of tX9_addStyle 1 2 rfl) (by decide) (fun h33 => ?_) (fun h33 => ?_)
      · exfalso; omega
      exact go_throw (i := 1) (Or.inr ⟨78, 259, 82, _, (at_of tX9_addStyle 1 3 rfl), (at_of tX9_addStyle 1 4 rfl), (at_of tX9_addStyle 1 5 rfl), (at_of tX9_addStyle 1 6 rfl), (at_of tX9_addStyle 1 7 rfl), cl_X9_78, List.mem_of_getElem? (i := 18) rfl, inL 845 (by decide +kernel) (by decide +kernel)⟩) (by decide) rfl (Nat.le_of_ble_eq_true rfl) ⟨by decide, by decide⟩ rfl
  · by_cases hq2 : 0 ≤ q ∧ q < σ.1 83 3
    · by_cases hz : z < -1
      · skip
        refine con_of_go mfX9_addStyle.1 (Nat.le_of_ble_eq_true rfl) (Nat.le_of_ble_eq_true rfl) rfl (by decide) ?_
        show Go _ _ _ _ 0 [vA _, vI _, vI _, vI _] [] _ _
        refine go_iload_n (at_of tX9_addStyle 0 0 rfl) rfl ?_
        refine go_iconst (at_of tX9_addStyle 0 1 rfl) (by unfold in32; omega) ?_
        refine go_icmp_eq (tgt := 26) (at_of tX9_addStyle 0 2 rfl) (by decide) (fun h2 => ?_) (fun h2 => ?_)
        · exfalso; omega
        refine go_aload_n (at_of tX9_addStyle 0 3 rfl) rfl ?_
        refine go_getr (q := 83) fl_X9_30 rfl G_0 ((hS _ _ rfl).trans rfl) (at_of tX9_addStyle 0 4 rfl) ?_
        refine go_iload_n (at_of tX9_addStyle 0 5 rfl) rfl ?_
        refine go_cV (con_hasStyle hS) lk_X9_159 rfl G_83 (at_of tX9_addStyle 0 6 rfl) rfl (by decide) rfl (Nat.le_of_ble_eq_true rfl) rfl (by first | decide | exact ⟨Nat.zero_le _, Nat.zero_le _⟩) ?_
        refine go_if_ne (tgt := 26) (at_of tX9_addStyle 0 7 rfl) (by decide) (fun h13 => ?_) (fun h13 => ?_)
        rotate_left
        · exfalso; exact bI_0.mp h13 hq2
        refine go_iload_n (at_of tX9_addStyle 0 13 rfl) rfl ?_
        refine go_iconst (at_of tX9_addStyle 0 14 rfl) (by unfold in32; omega) ?_
        refine go_icmp_lt (tgt := 36) (at_of tX9_addStyle 0 15 rfl) (by decide) (fun h28 => ?_) (fun h28 => ?_)
        rotate_left
        · exfalso; omega
        exact go_throw (i := 1) (Or.inr ⟨78, 259, 82, _, (at_of tX9_addStyle 1 3 rfl), (at_of tX9_addStyle 1 4 rfl), (at_of tX9_addStyle 1 5 rfl), (at_of tX9_addStyle 1 6 rfl), (at_of tX9_addStyle 1 7 rfl), cl_X9_78, List.mem_of_getElem? (i := 18) rfl, inL 845 (by decide +kernel) (by decide +kernel)⟩) (by decide) rfl (Nat.le_of_ble_eq_true rfl) ⟨by decide, by decide⟩ rfl
      · skip
        refine con_of_go mfX9_addStyle.1 (Nat.le_of_ble_eq_true rfl) (Nat.le_of_ble_eq_true rfl) rfl (by decide) ?_
        show Go _ _ _ _ 0 [vA _, vI _, vI _, vI _] [] _ _
        refine go_iload_n (at_of tX9_addStyle 0 0 rfl) rfl ?_
        refine go_iconst (at_of tX9_addStyle 0 1 rfl) (by unfold in32; omega) ?_
        refine go_icmp_eq (tgt := 26) (at_of tX9_addStyle 0 2 rfl) (by decide) (fun h2 => ?_) (fun h2 => ?_)
        · exfalso; omega
        refine go_aload_n (at_of tX9_addStyle 0 3 rfl) rfl ?_
        refine go_getr (q := 83) fl_X9_30 rfl G_0 ((hS _ _ rfl).trans rfl) (at_of tX9_addStyle 0 4 rfl) ?_
        refine go_iload_n (at_of tX9_addStyle 0 5 rfl) rfl ?_
        refine go_cV (con_hasStyle hS) lk_X9_159 rfl G_83 (at_of tX9_addStyle 0 6 rfl) rfl (by decide) rfl (Nat.le_of_ble_eq_true rfl) rfl (by first | decide | exact ⟨Nat.zero_le _, Nat.zero_le _⟩) ?_
        refine go_if_ne (tgt := 26) (at_of tX9_addStyle 0 7 rfl) (by decide) (fun h13 => ?_) (fun h13 => ?_)
        rotate_left
        · exfalso; exact bI_0.mp h13 hq2
        refine go_iload_n (at_of tX9_addStyle 0 13 rfl) rfl ?_
        refine go_iconst (at_of tX9_addStyle 0 14 rfl) (by unfold in32; omega) ?_
        refine go_icmp_lt (tgt := 36) (at_of tX9_addStyle 0 15 rfl) (by decide) (fun h28 => ?_) (fun h28 => ?_)
        · exfalso; omega
        refine go_iload_n (at_of tX9_addStyle 1 0 rfl) rfl ?_
        refine go_iconst (at_of tX9_addStyle 1 1 rfl) (by unfold in32; omega) ?_
        refine go_icmp_le (tgt := 47) (at_of tX9_addStyle 1 2 rfl) (by decide) (fun h33 => ?_) (fun h33 => ?_)
        · exfalso; omega
        exact go_throw (i := 1) (Or.inr ⟨78, 259, 82, _, (at_of tX9_addStyle 1 3 rfl), (at_of tX9_addStyle 1 4 rfl), (at_of tX9_addStyle 1 5 rfl), (at_of tX9_addStyle 1 6 rfl), (at_of tX9_addStyle 1 7 rfl), cl_X9_78, List.mem_of_getElem? (i := 18) rfl, inL 845 (by decide +kernel) (by decide +kernel)⟩) (by decide) rfl (Nat.le_of_ble_eq_true rfl) ⟨by decide, by decide⟩ rfl
    · skip
      refine con_of_go mfX9_addStyle.1 (Nat.le_of_ble_eq_true rfl) (Nat.le_of_ble_eq_true rfl) rfl (by decide) ?_
      show Go _ _ _ _ 0 [vA _, vI _, vI _, vI _] [] _ _
      refine go_iload_n (at_of tX9_addStyle 0 0 rfl) rfl ?_
      refine go_iconst (at_of tX9_addStyle 0 1 rfl) (by unfold in32; omega) ?_
      refine go_icmp_eq (tgt := 26) (at_of tX9_addStyle 0 2 rfl) (by decide) (fun h2 => ?_) (fun h2 => ?_)
      · exfalso; omega
      refine go_aload_n (at_of tX9_addStyle 0 3 rfl) rfl ?_
      refine go_getr (q := 83) fl_X9_30 rfl G_0 ((hS _ _ rfl).trans rfl) (at_of tX9_addStyle 0 4 rfl) ?_
      refine go_iload_n (at_of tX9_addStyle 0 5 rfl) rfl ?_
      refine go_cV (con_hasStyle hS) lk_X9_159 rfl G_83 (at_of tX9_addStyle 0 6 rfl) rfl (by decide) rfl (Nat.le_of_ble_eq_true rfl) rfl (by first | decide | exact ⟨Nat.zero_le _, Nat.zero_le _⟩) ?_
      refine go_if_ne (tgt := 26) (at_of tX9_addStyle 0 7 rfl) (by decide) (fun h13 => ?_) (fun h13 => ?_)
      · exfalso; exact hq2 (bI_1.mp h13)
      exact go_throw (i := 1) (Or.inl ⟨78, 165, 82, _, (at_of tX9_addStyle 0 8 rfl), (at_of tX9_addStyle 0 9 rfl), (at_of tX9_addStyle 0 10 rfl), (at_of tX9_addStyle 0 11 rfl), (at_of tX9_addStyle 0 12 rfl), cl_X9_78, List.mem_of_getElem? (i := 11) rfl, inL 845 (by decide +kernel) (by decide +kernel)⟩) (by decide) rfl (Nat.le_of_ble_eq_true rfl) ⟨by decide, by decide⟩ rfl
theorem th2_addStyle (hS : Str σ.2.1) {q t z : Int} (h1 : (q = -1 ∨ (0 ≤ q ∧ q < σ.1 83 3))) (h2 : -1 ≤ z ∧ z ≤ 1) (h3 : 8 ≤ σ.1 83 3) : Con 2 mX9_addStyle 1 6 [vA 0, vI q, vI t, vI z] σ (vT 22 0, σ) := by
  by_cases hq : q = -1
  · skip
    refine con_of_go mfX9_addStyle.1 (Nat.le_of_ble_eq_true rfl) (Nat.le_of_ble_eq_true rfl) rfl (by decide) ?_
    show Go _ _ _ _ 0 [vA _, vI _, vI _, vI _] [] _ _
    refine go_iload_n (at_of tX9_addStyle 0 0 rfl) rfl ?_
    refine go_iconst (at_of tX9_addStyle 0 1 rfl) (by unfold in32; omega) ?_
    refine go_icmp_eq (tgt := 26) (at_of tX9_addStyle 0 2 rfl) (by decide) (fun h2 => ?_) (fun h2 => ?_)
    rotate_left
    · exfalso; omega
    refine go_iload_n (at_of tX9_addStyle 0 13 rfl) rfl ?_
    refine go_iconst (at_of tX9_addStyle 0 14 rfl) (by unfold in32; omega) ?_
    refine go_icmp_lt (tgt := 36) (at_of tX9_addStyle 0 15 rfl) (by decide) (fun h28 => ?_) (fun h28 => ?_)
    · exfalso; omega
    refine go_iload_n (at_of tX9_addStyle 1 0 rfl) rfl ?_
    refine go_iconst (at_of tX9_addStyle 1 1 rfl) (by unfold in32; omega) ?_
    refine go_icmp_le (tgt := 47) (at_of tX9_addStyle 1 2 rfl) (by decide) (fun h33 => ?_) (fun h33 => ?_)
    rotate_left
    · exfalso; omega
    refine go_aload_n (at_of tX9_addStyle 1 8 rfl) rfl ?_
    refine go_getr (q := 83) fl_X9_30 rfl G_0 ((hS _ _ rfl).trans rfl) (at_of tX9_addStyle 1 9 rfl) ?_
    refine go_cV (con_isFullS hS) lk_X9_261 rfl G_83 (at_of tX9_addStyle 1 10 rfl) rfl (by decide) rfl (Nat.le_of_ble_eq_true rfl) rfl (by first | decide | exact ⟨Nat.zero_le _, Nat.zero_le _⟩) ?_
    refine go_if_eq (tgt := 68) (at_of tX9_addStyle 1 11 rfl) (by decide) (fun h54 => ?_) (fun h54 => ?_)
    · exfalso; exact bI_0.mp h54 h3
    exact go_throw (i := 2) (Or.inr ⟨103, 262, 107, _, (at_of tX9_addStyle 1 12 rfl), (at_of tX9_addStyle 1 13 rfl), (at_of tX9_addStyle 1 14 rfl), (at_of tX9_addStyle 1 15 rfl), (at_of tX9_addStyle 2 0 rfl), cl_X9_103, List.mem_of_getElem? (i := 19) rfl, inL 865 (by decide +kernel) (by decide +kernel)⟩) (by decide) rfl (Nat.le_of_ble_eq_true rfl) ⟨by decide, by decide⟩ rfl
  · skip
    refine con_of_go mfX9_addStyle.1 (Nat.le_of_ble_eq_true rfl) (Nat.le_of_ble_eq_true rfl) rfl (by decide) ?_
    show Go _ _ _ _ 0 [vA _, vI _, vI _, vI _] [] _ _
    refine go_iload_n (at_of tX9_addStyle 0 0 rfl) rfl ?_
    refine go_iconst (at_of tX9_addStyle 0 1 rfl) (by unfold in32; omega) ?_
    refine go_icmp_eq (tgt := 26) (at_of tX9_addStyle 0 2 rfl) (by decide) (fun h2 => ?_) (fun h2 => ?_)
    · exfalso; omega
    refine go_aload_n (at_of tX9_addStyle 0 3 rfl) rfl ?_
    refine go_getr (q := 83) fl_X9_30 rfl G_0 ((hS _ _ rfl).trans rfl) (at_of tX9_addStyle 0 4 rfl) ?_
    refine go_iload_n (at_of tX9_addStyle 0 5 rfl) rfl ?_
    refine go_cV (con_hasStyle hS) lk_X9_159 rfl G_83 (at_of tX9_addStyle 0 6 rfl) rfl (by decide) rfl (Nat.le_of_ble_eq_true rfl) rfl (by first | decide | exact ⟨Nat.zero_le _, Nat.zero_le _⟩) ?_
    refine go_if_ne (tgt := 26) (at_of tX9_addStyle 0 7 rfl) (by decide) (fun h13 => ?_) (fun h13 => ?_)
    rotate_left
    · exfalso; exact bI_0.mp h13 (h1.resolve_left hq)
    refine go_iload_n (at_of tX9_addStyle 0 13 rfl) rfl ?_
    refine go_iconst (at_of tX9_addStyle 0 14 rfl) (by unfold in32; omega) ?_
    refine go_icmp_lt (tgt := 36) (at_of tX9_addStyle 0 15 rfl) (by decide) (fun h28 => ?_) (fun h28 => ?_)
    · exfalso; omega
    refine go_iload_n (at_of tX9_addStyle 1 0 rfl) rfl ?_
    refine go_iconst (at_of tX9_addStyle 1 1 rfl) (by unfold in32; omega) ?_
    refine go_icmp_le (tgt := 47) (at_of tX9_addStyle 1 2 rfl) (by decide) (fun h33 => ?_) (fun h33 => ?_)
    rotate_left
    · exfalso; omega
    refine go_aload_n (at_of tX9_addStyle 1 8 rfl) rfl ?_
    refine go_getr (q := 83) fl_X9_30 rfl G_0 ((hS _ _ rfl).trans rfl) (at_of tX9_addStyle 1 9 rfl) ?_
    refine go_cV (con_isFullS hS) lk_X9_261 rfl G_83 (at_of tX9_addStyle 1 10 rfl) rfl (by decide) rfl (Nat.le_of_ble_eq_true rfl) rfl (by first | decide | exact ⟨Nat.zero_le _, Nat.zero_le _⟩) ?_
    refine go_if_eq (tgt := 68) (at_of tX9_addStyle 1 11 rfl) (by decide) (fun h54 => ?_) (fun h54 => ?_)
    · exfalso; exact bI_0.mp h54 h3
    exact go_throw (i := 2) (Or.inr ⟨103, 262, 107, _, (at_of tX9_addStyle 1 12 rfl), (at_of tX9_addStyle 1 13 rfl), (at_of tX9_addStyle 1 14 rfl), (at_of tX9_addStyle 1 15 rfl), (at_of tX9_addStyle 2 0 rfl), cl_X9_103, List.mem_of_getElem? (i := 19) rfl, inL 865 (by decide +kernel) (by decide +kernel)⟩) (by decide) rfl (Nat.le_of_ble_eq_true rfl) ⟨by decide, by decide⟩ rfl
theorem ok_addStyle (hS : Str σ.2.1) {q t z : Int} (h1 : (q = -1 ∨ (0 ≤ q ∧ q < σ.1 83 3))) (h2 : -1 ≤ z ∧ z ≤ 1) (h3 : 0 ≤ σ.1 83 3 ∧ σ.1 83 3 < 8) (ht : t = 0 ∨ t = 1) : Con 2 mX9_addStyle 0 0 [vA 0, vI q, vI t, vI z] σ (vI (σ.1 83 3), P1 (M1 (M1 (M1 σ 84 (σ.1 83 3) q) 85 (σ.1 83 3) t) 86 (σ.1 83 3) z) 83 3 (σ.1 83 3 + 1)) := by
  by_cases hq : q = -1
  · skip
    refine con_of_go mfX9_addStyle.1 trivial (Nat.le_of_ble_eq_true rfl) rfl (by decide) ?_
    show Go _ _ _ _ 0 [vA _, vI _, vI _, vI _] [] _ _
    refine go_iload_n (at_of tX9_addStyle 0 0 rfl) rfl ?_
    refine go_iconst (at_of tX9_addStyle 0 1 rfl) (by unfold in32; omega) ?_
    refine go_icmp_eq (tgt := 26) (at_of tX9_addStyle 0 2 rfl) (by decide) (fun h2 => ?_) (fun h2 => ?_)
    rotate_left
    · exfalso; omega
    refine go_iload_n (at_of tX9_addStyle 0 13 rfl) rfl ?_
    refine go_iconst (at_of tX9_addStyle 0 14 rfl) (by unfold in32; omega) ?_
    refine go_icmp_lt (tgt := 36) (at_of tX9_addStyle 0 15 rfl) (by decide) (fun h28 => ?_) (fun h28 => ?_)
    · exfalso; omega
    refine go_iload_n (at_of tX9_addStyle 1 0 rfl) rfl ?_
    refine go_iconst (at_of tX9_addStyle 1 1 rfl) (by unfold in32; omega) ?_
    refine go_icmp_le (tgt := 47) (at_of tX9_addStyle 1 2 rfl) (by decide) (fun h33 => ?_) (fun h33 => ?_)
    rotate_left
    · exfalso; omega
    refine go_aload_n (at_of tX9_addStyle 1 8 rfl) rfl ?_
    refine go_getr (q := 83) fl_X9_30 rfl G_0 ((hS _ _ rfl).trans rfl) (at_of tX9_addStyle 1 9 rfl) ?_
    refine go_cV (con_isFullS hS) lk_X9_261 rfl G_83 (at_of tX9_addStyle 1 10 rfl) rfl (by decide) rfl (Nat.le_of_ble_eq_true rfl) rfl (by first | decide | exact ⟨Nat.zero_le _, Nat.zero_le _⟩) ?_
    refine go_if_eq (tgt := 68) (at_of tX9_addStyle 1 11 rfl) (by decide) (fun h54 => ?_) (fun h54 => ?_)
    rotate_left
    · exfalso; exact absurd (bI_1.mp h54) (by omega)
    refine go_aload_n (at_of tX9_addStyle 2 1 rfl) rfl ?_
    refine go_getr (q := 83) fl_X9_30 rfl G_0 ((hS _ _ rfl).trans rfl) (at_of tX9_addStyle 2 2 rfl) ?_
    refine go_iload_n (at_of tX9_addStyle 2 3 rfl) rfl ?_
    refine go_iload_n (at_of tX9_addStyle 2 4 rfl) rfl ?_
    refine go_iload_n (at_of tX9_addStyle 2 5 rfl) rfl ?_
    refine go_cV (con_enrollS hS h3 ht) lk_X9_264 rfl G_83 (at_of tX9_addStyle 2 6 rfl) rfl (by decide) rfl (Nat.le_of_ble_eq_true rfl) rfl (by first | decide | exact ⟨Nat.zero_le _, Nat.zero_le _⟩) ?_
    first | exact go_reti (at_of tX9_addStyle 2 7 rfl) rfl | exact go_reti (at_of tX9_addStyle 2 7 rfl) (le_i (by omega)) | exact go_reti (at_of tX9_addStyle 2 7 rfl) (le_i (by first | exact bI_t (by omega) | exact bI_f (by omega)))
  · skip
    refine con_of_go mfX9_addStyle.1 trivial (Nat.le_of_ble_eq_true rfl) rfl (by decide) ?_
    show Go _ _ _ _ 0 [vA _, vI _, vI _, vI _] [] _ _
    refine go_iload_n (at_of tX9_addStyle 0 0 rfl) rfl ?_
    refine go_iconst (at_of tX9_addStyle 0 1 rfl) (by unfold in32; omega) ?_
    refine go_icmp_eq (tgt := 26) (at_of tX9_addStyle 0 2 rfl) (by decide) (fun h2 => ?_) (fun h2 => ?_)
    · exfalso; omega
    refine go_aload_n (at_of tX9_addStyle 0 3 rfl) rfl ?_
    refine go_getr (q := 83) fl_X9_30 rfl G_0 ((hS _ _ rfl).trans rfl) (at_of tX9_addStyle 0 4 rfl) ?_
    refine go_iload_n (at_of tX9_addStyle 0 5 rfl) rfl ?_
    refine go_cV (con_hasStyle hS) lk_X9_159 rfl G_83 (at_of tX9_addStyle 0 6 rfl) rfl (by decide) rfl (Nat.le_of_ble_eq_true rfl) rfl (by first | decide | exact ⟨Nat.zero_le _, Nat.zero_le _⟩) ?_
    refine go_if_ne (tgt := 26) (at_of tX9_addStyle 0 7 rfl) (by decide) (fun h13 => ?_) (fun h13 => ?_)
    rotate_left
    · exfalso; exact bI_0.mp h13 (h1.resolve_left hq)
    refine go_iload_n (at_of tX9_addStyle 0 13 rfl) rfl ?_
    refine go_iconst (at_of tX9_addStyle 0 14 rfl) (by unfold in32; omega) ?_
    refine go_icmp_lt (tgt := 36) (at_of tX9_addStyle 0 15 rfl) (by decide) (fun h28 => ?_) (fun h28 => ?_)
    · exfalso; omega
    refine go_iload_n (at_of tX9_addStyle 1 0 rfl) rfl ?_
    refine go_iconst (at_of tX9_addStyle 1 1 rfl) (by unfold in32; omega) ?_
    refine go_icmp_le (tgt := 47) (at_of tX9_addStyle 1 2 rfl) (by decide) (fun h33 => ?_) (fun h33 => ?_)
    rotate_left
    · exfalso; omega
    refine go_aload_n (at_of tX9_addStyle 1 8 rfl) rfl ?_
    refine go_getr (q := 83) fl_X9_30 rfl G_0 ((hS _ _ rfl).trans rfl) (at_of tX9_addStyle 1 9 rfl) ?_
    refine go_cV (con_isFullS hS) lk_X9_261 rfl G_83 (at_of tX9_addStyle 1 10 rfl) rfl (by decide) rfl (Nat.le_of_ble_eq_true rfl) rfl (by first | decide | exact ⟨Nat.zero_le _, Nat.zero_le _⟩) ?_
    refine go_if_eq (tgt := 68) (at_of tX9_addStyle 1 11 rfl) (by decide) (fun h54 => ?_) (fun h54 => ?_)
    rotate_left
    · exfalso; exact absurd (bI_1.mp h54) (by omega)
    refine go_aload_n (at_of tX9_addStyle 2 1 rfl) rfl ?_
    refine go_getr (q := 83) fl_X9_30 rfl G_0 ((hS _ _ rfl).trans rfl) (at_of tX9_addStyle 2 2 rfl) ?_
    refine go_iload_n (at_of tX9_addStyle 2 3 rfl) rfl ?_
    refine go_iload_n (at_of tX9_addStyle 2 4 rfl) rfl ?_
    refine go_iload_n (at_of tX9_addStyle 2 5 rfl) rfl ?_
    refine go_cV (con_enrollS hS h3 ht) lk_X9_264 rfl G_83 (at_of tX9_addStyle 2 6 rfl) rfl (by decide) rfl (Nat.le_of_ble_eq_true rfl) rfl (by first | decide | exact ⟨Nat.zero_le _, Nat.zero_le _⟩) ?_
    first | exact go_reti (at_of tX9_addStyle 2 7 rfl) rfl | exact go_reti (at_of tX9_addStyle 2 7 rfl) (le_i (by omega)) | exact go_reti (at_of tX9_addStyle 2 7 rfl) (le_i (by first | exact bI_t (by omega) | exact bI_f (by omega)))
theorem ok_styleOf (hS : Str σ.2.1) {pi : Nat → Nat} {A : PastD} (hA : PastR σ pi A) {p : Int} (h2 : ixEnd (A.1 A.2.1).1.1 (A.1 A.2.1).1.2.1 p ≠ -1) : Con 4 mX9_styleOf 0 0 [vA 0, vI p] σ (vI ((A.1 A.2.1).1.1 5 (ixEnd (A.1 A.2.1).1.1 (A.1 A.2.1).1.2.1 p)), σ) := by
  obtain ⟨hp, hd, hu, hle, hrep⟩ := id hA
  have hk7 := (hp.1 A.2.1 (by omega)).2
  have hk : pi A.2.1 < 8 := by omega
  have hD := hrep A.2.1 (by omega)
  have hR := hD.1
  have hL := hD.2.1.2.2.1
  have hn := hR.1
  obtain ⟨hw1, hw2, hw3⟩ := hR.2.2.2
  have hm := hD.2.1.1
  obtain ⟨l1, l2, l3⟩ := hD.2.1.2.2.2
  obtain ⟨g1, g2, g3, g4, g5, g6, g7, g8, g9, g10⟩ := gamk _ hk
  obtain ⟨p1, p2, p3, p4, p5, p6, p7, p8, p9⟩ := strk hS _ hk
  have hix := ((@ixEnd_le (A.1 A.2.1).1.1 (A.1 A.2.1).1.2.1 p hw1).resolve_left h2)
  refine con_of_go mfX9_styleOf.1 trivial (Nat.le_of_ble_eq_true rfl) rfl (by decide) ?_
  show Go _ _ _ _ 0 [vA _, vI _] [] _ _
  refine go_aload_n (at_of tX9_styleOf 0 0 rfl) rfl ?_
  refine go_getr (q := 1) fl_X9_16 rfl G_0 ((hS _ _ rfl).trans rfl) (at_of tX9_styleOf 0 1 rfl) ?_
  refine go_cV (con_now hS hA) lk_X9_114 rfl g1_ (at_of tX9_styleOf 0 2 rfl) rfl (by decide) rfl (Nat.le_of_ble_eq_true rfl) rfl (by first | decide | exact ⟨Nat.zero_le _, Nat.zero_le _⟩) ?_
  refine go_getr (q := (4 + 10 * pi A.2.1)) fl_X9_131 rfl g1 p1 (at_of tX9_styleOf 0 3 rfl) ?_
  refine go_iconst (at_of tX9_styleOf 0 4 rfl) (by unfold in32; omega) ?_
  refine go_aload_n (at_of tX9_styleOf 0 5 rfl) rfl ?_
  refine go_iload_n (at_of tX9_styleOf 0 6 rfl) rfl ?_
  refine go_cV (ok_End hS hA h2) lk_X9_156 rfl G_0 (at_of tX9_styleOf 0 7 rfl) rfl (by decide) rfl (Nat.le_of_ble_eq_true rfl) rfl (by first | decide | exact ⟨Nat.zero_le _, Nat.zero_le _⟩) ?_
  refine go_cV (r_fact hS hk hR (by omega) (by omega)) lk_X9_168 rfl g2 (at_of tX9_styleOf 0 8 rfl) rfl (by decide) rfl (Nat.le_of_ble_eq_true rfl) rfl (by first | decide | exact ⟨Nat.zero_le _, Nat.zero_le _⟩) ?_
  first | exact go_reti (at_of tX9_styleOf 0 9 rfl) rfl | exact go_reti (at_of tX9_styleOf 0 9 rfl) (le_i (by omega)) | exact go_reti (at_of tX9_styleOf 0 9 rfl) (le_i (by first | exact bI_t (by omega) | exact bI_f (by omega)))
theorem th0_styleOf (hS : Str σ.2.1) {pi : Nat → Nat} {A : PastD} (hA : PastR σ pi A) {p : Int} (h2 : ixEnd (A.1 A.2.1).1.1 (A.1 A.2.1).1.2.1 p = -1) : Con 4 mX9_styleOf 1 6 [vA 0, vI p] σ (vT 20 0, σ) := by
  obtain ⟨hp, hd, hu, hle, hrep⟩ := id hA
  have hk7 := (hp.1 A.2.1 (by omega)).2
  have hk : pi A.2.1 < 8 := by omega
  have hD := hrep A.2.1 (by omega)
  have hR := hD.1
  have hL := hD.2.1.2.2.1
  have hn := hR.1
  obtain ⟨hw1, hw2, hw3⟩ := hR.2.2.2
  have hm := hD.2.1.1
  obtain ⟨l1, l2, l3⟩ := hD.2.1.2.2.2
  obtain ⟨g1, g2, g3, g4, g5, g6, g7, g8, g9, g10⟩ := gamk _ hk
  obtain ⟨p1, p2, p3, p4, p5, p6, p7, p8, p9⟩ := strk hS _ hk
  refine con_of_go mfX9_styleOf.1 (Nat.le_of_ble_eq_true rfl) (Nat.le_of_ble_eq_true rfl) rfl (by decide) ?_
  show Go _ _ _ _ 0 [vA _, vI _] [] _ _
  refine go_aload_n (at_of tX9_styleOf 0 0 rfl) rfl ?_
  refine go_getr (q := 1) fl_X9_16 rfl G_0 ((hS _ _ rfl).trans rfl) (at_of tX9_styleOf 0 1 rfl) ?_
  refine go_cV (con_now hS hA) lk_X9_114 rfl g1_ (at_of tX9_styleOf 0 2 rfl) rfl (by decide) rfl (Nat.le_of_ble_eq_true rfl) rfl (by first | decide | exact ⟨Nat.zero_le _, Nat.zero_le _⟩) ?_
  refine go_getr (q := (4 + 10 * pi A.2.1)) fl_X9_131 rfl g1 p1 (at_of tX9_styleOf 0 3 rfl) ?_
  refine go_iconst (at_of tX9_styleOf 0 4 rfl) (by unfold in32; omega) ?_
  refine go_aload_n (at_of tX9_styleOf 0 5 rfl) rfl ?_
  refine go_iload_n (at_of tX9_styleOf 0 6 rfl) rfl ?_
  exact go_tV (i := 0) (th_End hS hA h2) lk_X9_156 rfl G_0 (at_of tX9_styleOf 0 7 rfl) rfl rfl (by decide) rfl (Nat.le_of_ble_eq_true rfl) rfl ⟨by decide, by decide⟩
theorem ok_isBold (hS : Str σ.2.1) {pi : Nat → Nat} {A : PastD} (hA : PastR σ pi A) {p : Int} (h2 : ixEnd (A.1 A.2.1).1.1 (A.1 A.2.1).1.2.1 p ≠ -1) : Con 4 mX9_isBold 0 0 [vA 0, vI p] σ (vI (boldF (clF σ 84 8) (clF σ 85 8) 8 ((A.1 A.2.1).1.1 5 (ixEnd (A.1 A.2.1).1.1 (A.1 A.2.1).1.2.1 p)) 0), σ) := by
  obtain ⟨hp, hd, hu, hle, hrep⟩ := id hA
  have hk7 := (hp.1 A.2.1 (by omega)).2
  have hk : pi A.2.1 < 8 := by omega
  have hD := hrep A.2.1 (by omega)
  have hR := hD.1
  have hL := hD.2.1.2.2.1
  have hn := hR.1
  obtain ⟨hw1, hw2, hw3⟩ := hR.2.2.2
  have hm := hD.2.1.1
  obtain ⟨l1, l2, l3⟩ := hD.2.1.2.2.2
  obtain ⟨g1, g2, g3, g4, g5, g6, g7, g8, g9, g10⟩ := gamk _ hk
  obtain ⟨p1, p2, p3, p4, p5, p6, p7, p8, p9⟩ := strk hS _ hk
  have hix := ((@ixEnd_le (A.1 A.2.1).1.1 (A.1 A.2.1).1.2.1 p hw1).resolve_left h2)
  refine con_of_go mfX9_isBold.1 (boldF_01 _ _ _ (Or.inl rfl)) (Nat.le_of_ble_eq_true rfl) rfl (by decide) ?_
  show Go _ _ _ _ 0 [vA _, vI _] [] _ _
  refine go_aload_n (at_of tX9_isBold 0 0 rfl) rfl ?_
  refine go_getr (q := 83) fl_X9_30 rfl G_0 ((hS _ _ rfl).trans rfl) (at_of tX9_isBold 0 1 rfl) ?_
  refine go_aload_n (at_of tX9_isBold 0 2 rfl) rfl ?_
  refine go_getr (q := 1) fl_X9_16 rfl G_0 ((hS _ _ rfl).trans rfl) (at_of tX9_isBold 0 3 rfl) ?_
  refine go_cV (con_now hS hA) lk_X9_114 rfl g1_ (at_of tX9_isBold 0 4 rfl) rfl (by decide) rfl (Nat.le_of_ble_eq_true rfl) rfl (by first | decide | exact ⟨Nat.zero_le _, Nat.zero_le _⟩) ?_
  refine go_getr (q := (4 + 10 * pi A.2.1)) fl_X9_131 rfl g1 p1 (at_of tX9_isBold 0 5 rfl) ?_
  refine go_iconst (at_of tX9_isBold 0 6 rfl) (by unfold in32; omega) ?_
  refine go_aload_n (at_of tX9_isBold 0 7 rfl) rfl ?_
  refine go_iload_n (at_of tX9_isBold 0 8 rfl) rfl ?_
  refine go_cV (ok_End hS hA h2) lk_X9_156 rfl G_0 (at_of tX9_isBold 0 9 rfl) rfl (by decide) rfl (Nat.le_of_ble_eq_true rfl) rfl (by first | decide | exact ⟨Nat.zero_le _, Nat.zero_le _⟩) ?_
  refine go_cV (r_fact hS hk hR (by omega) (by omega)) lk_X9_168 rfl g2 (at_of tX9_isBold 0 10 rfl) rfl (by decide) rfl (Nat.le_of_ble_eq_true rfl) rfl (by first | decide | exact ⟨Nat.zero_le _, Nat.zero_le _⟩) ?_
  refine go_cV (con_turnsBold hS) lk_X9_267 rfl G_83 (at_of tX9_isBold 0 11 rfl) rfl (by decide) rfl (Nat.le_of_ble_eq_true rfl) rfl (by first | decide | exact ⟨Nat.zero_le _, Nat.zero_le _⟩) ?_
  first | exact go_reti (at_of tX9_isBold 0 12 rfl) rfl | exact go_reti (at_of tX9_isBold 0 12 rfl) (le_i (by omega)) | exact go_reti (at_of tX9_isBold 0 12 rfl) (le_i (by first | exact bI_t (by omega) | exact bI_f (by omega)))
theorem th0_isBold (hS : Str σ.2.1) {pi : Nat → Nat} {A : PastD} (hA : PastR σ pi A) {p : Int} (h2 : ixEnd (A.1 A.2.1).1.1 (A.1 A.2.1).1.2.1 p = -1) : Con 4 mX9_isBold 1 6 [vA 0, vI p] σ (vT 20 0, σ) := by
  obtain ⟨hp, hd, hu, hle, hrep⟩ := id hA
  have hk7 := (hp.1 A.2.1 (by omega)).2
  have hk : pi A.2.1 < 8 := by omega
  have hD := hrep A.2.1 (by omega)
  have hR := hD.1
  have hL := hD.2.1.2.2.1
  have hn := hR.1
  obtain ⟨hw1, hw2, hw3⟩ := hR.2.2.2
  have hm := hD.2.1.1
  obtain ⟨l1, l2, l3⟩ := hD.2.1.2.2.2
  obtain ⟨g1, g2, g3, g4, g5, g6, g7, g8, g9, g10⟩ := gamk _ hk
  obtain ⟨p1, p2, p3, p4, p5, p6, p7, p8, p9⟩ := strk hS _ hk
  refine con_of_go mfX9_isBold.1 (Nat.le_of_ble_eq_true rfl) (Nat.le_of_ble_eq_true rfl) rfl (by decide) ?_
  show Go _ _ _ _ 0 [vA _, vI _] [] _ _
  refine go_aload_n (at_of tX9_isBold 0 0 rfl) rfl ?_
  refine go_getr (q := 83) fl_X9_30 rfl G_0 ((hS _ _ rfl).trans rfl) (at_of tX9_isBold 0 1 rfl) ?_
  refine go_aload_n (at_of tX9_isBold 0 2 rfl) rfl ?_
  refine go_getr (q := 1) fl_X9_16 rfl G_0 ((hS _ _ rfl).trans rfl) (at_of tX9_isBold 0 3 rfl) ?_
  refine go_cV (con_now hS hA) lk_X9_114 rfl g1_ (at_of tX9_isBold 0 4 rfl) rfl (by decide) rfl (Nat.le_of_ble_eq_true rfl) rfl (by first | decide | exact ⟨Nat.zero_le _, Nat.zero_le _⟩) ?_
  refine go_getr (q := (4 + 10 * pi A.2.1)) fl_X9_131 rfl g1 p1 (at_of tX9_isBold 0 5 rfl) ?_
  refine go_iconst (at_of tX9_isBold 0 6 rfl) (by unfold in32; omega) ?_
  refine go_aload_n (at_of tX9_isBold 0 7 rfl) rfl ?_
  refine go_iload_n (at_of tX9_isBold 0 8 rfl) rfl ?_
  exact go_tV (i := 0) (th_End hS hA h2) lk_X9_156 rfl G_0 (at_of tX9_isBold 0 9 rfl) rfl rfl (by decide) rfl (Nat.le_of_ble_eq_true rfl) rfl ⟨by decide, by decide⟩
theorem th1_setKind (hS : Str σ.2.1) {l v z : Int} (h : ¬ ((0 ≤ l ∧ l < 3 ∧ 0 ≤ v ∧ v < 3) ∧ (z = 100 ∨ z = 97 ∨ z = 114))) : Con 2 mX9_setKind 1 6 [vA 0, vI l, vI v, vI z] σ (vT 21 0, σ) := by
  by_cases hl : 0 ≤ l ∧ l < 3
  · by_cases hv : 0 ≤ v ∧ v < 3
    · skip
      refine con_of_go mfX9_setKind.1 (Nat.le_of_ble_eq_true rfl) (Nat.le_of_ble_eq_true rfl) rfl (by decide) ?_
      show Go _ _ _ _ 0 [vA _, vI _, vI _, vI _] [] _ _
      refine go_iload_n (at_of tX9_setKind 0 0 rfl) rfl ?_
      refine go_iconst (at_of tX9_setKind 0 1 rfl) (by unfold in32; omega) ?_
      refine go_cS (con_isWithin) lk_X9_270 rfl (at_of tX9_setKind 0 2 rfl) rfl (by decide) rfl (Nat.le_of_ble_eq_true rfl) rfl (by first | decide | exact ⟨Nat.zero_le _, Nat.zero_le _⟩) ?_
      refine go_if_eq (tgt := 16) (at_of tX9_setKind 0 3 rfl) (by decide) (fun h5 => ?_) (fun h5 => ?_)
      · exfalso; exact bI_0.mp h5 (by omega)
      refine go_iload_n (at_of tX9_setKind 0 4 rfl) rfl ?_
      refine go_iconst (at_of tX9_setKind 0 5 rfl) (by unfold in32; omega) ?_
      refine go_cS (con_isWithin) lk_X9_270 rfl (at_of tX9_setKind 0 6 rfl) rfl (by decide) rfl (Nat.le_of_ble_eq_true rfl) rfl (by first | decide | exact ⟨Nat.zero_le _, Nat.zero_le _⟩) ?_
      refine go_if_ne (tgt := 27) (at_of tX9_setKind 0 7 rfl) (by decide) (fun h13 => ?_) (fun h13 => ?_)
      rotate_left
      · exfalso; exact bI_0.mp h13 (by omega)
      refine go_iload_n (at_of tX9_setKind 0 13 rfl) rfl ?_
      refine go_bipush (at_of tX9_setKind 0 14 rfl) (by decide) ?_
      refine go_icmp_eq (tgt := 56) (at_of tX9_setKind 0 15 rfl) (by decide) (fun h30 => ?_) (fun h30 => ?_)
      · exfalso; omega
      refine go_iload_n (at_of tX9_setKind 1 0 rfl) rfl ?_
      refine go_bipush (at_of tX9_setKind 1 1 rfl) (by decide) ?_
      refine go_icmp_eq (tgt := 56) (at_of tX9_setKind 1 2 rfl) (by decide) (fun h36 => ?_) (fun h36 => ?_)
      · exfalso; omega
      refine go_iload_n (at_of tX9_setKind 1 3 rfl) rfl ?_
      refine go_bipush (at_of tX9_setKind 1 4 rfl) (by decide) ?_
      refine go_icmp_eq (tgt := 56) (at_of tX9_setKind 1 5 rfl) (by decide) (fun h42 => ?_) (fun h42 => ?_)
      · exfalso; omega
      exact go_throw (i := 1) (Or.inr ⟨78, 275, 82, _, (at_of tX9_setKind 1 6 rfl), (at_of tX9_setKind 1 7 rfl), (at_of tX9_setKind 1 8 rfl), (at_of tX9_setKind 1 9 rfl), (at_of tX9_setKind 1 10 rfl), cl_X9_78, List.mem_of_getElem? (i := 21) rfl, inL 845 (by decide +kernel) (by decide +kernel)⟩) (by decide) rfl (Nat.le_of_ble_eq_true rfl) ⟨by decide, by decide⟩ rfl
    · skip
      refine con_of_go mfX9_setKind.1 (Nat.le_of_ble_eq_true rfl) (Nat.le_of_ble_eq_true rfl) rfl (by decide) ?_
      show Go _ _ _ _ 0 [vA _, vI _, vI _, vI _] [] _ _
      refine go_iload_n (at_of tX9_setKind 0 0 rfl) rfl ?_
      refine go_iconst (at_of tX9_setKind 0 1 rfl) (by unfold in32; omega) ?_
      refine go_cS (con_isWithin) lk_X9_270 rfl (at_of tX9_setKind 0 2 rfl) rfl (by decide) rfl (Nat.le_of_ble_eq_true rfl) rfl (by first | decide | exact ⟨Nat.zero_le _, Nat.zero_le _⟩) ?_
      refine go_if_eq (tgt := 16) (at_of tX9_setKind 0 3 rfl) (by decide) (fun h5 => ?_) (fun h5 => ?_)
      · exfalso; exact bI_0.mp h5 hl
      refine go_iload_n (at_of tX9_setKind 0 4 rfl) rfl ?_
      refine go_iconst (at_of tX9_setKind 0 5 rfl) (by unfold in32; omega) ?_
      refine go_cS (con_isWithin) lk_X9_270 rfl (at_of tX9_setKind 0 6 rfl) rfl (by decide) rfl (Nat.le_of_ble_eq_true rfl) rfl (by first | decide | exact ⟨Nat.zero_le _, Nat.zero_le _⟩) ?_
      refine go_if_ne (tgt := 27) (at_of tX9_setKind 0 7 rfl) (by decide) (fun h13 => ?_) (fun h13 => ?_)
      · exfalso; exact hv (bI_1.mp h13)
      exact go_throw (i := 1) (Or.inr ⟨78, 273, 82, _, (at_of tX9_setKind 0 8 rfl), (at_of tX9_setKind 0 9 rfl), (at_of tX9_setKind 0 10 rfl), (at_of tX9_setKind 0 11 rfl), (at_of tX9_setKind 0 12 rfl), cl_X9_78, List.mem_of_getElem? (i := 20) rfl, inL 845 (by decide +kernel) (by decide +kernel)⟩) (by decide) rfl (Nat.le_of_ble_eq_true rfl) ⟨by decide, by decide⟩ rfl
  · skip
    refine con_of_go mfX9_setKind.1 (Nat.le_of_ble_eq_true rfl) (Nat.le_of_ble_eq_true rfl) rfl (by decide) ?_
    show Go _ _ _ _ 0 [vA _, vI _, vI _, vI _] [] _ _
    refine go_iload_n (at_of tX9_setKind 0 0 rfl) rfl ?_
    refine go_iconst (at_of tX9_setKind 0 1 rfl) (by unfold in32; omega) ?_
    refine go_cS (con_isWithin) lk_X9_270 rfl (at_of tX9_setKind 0 2 rfl) rfl (by decide) rfl (Nat.le_of_ble_eq_true rfl) rfl (by first | decide | exact ⟨Nat.zero_le _, Nat.zero_le _⟩) ?_
    refine go_if_eq (tgt := 16) (at_of tX9_setKind 0 3 rfl) (by decide) (fun h5 => ?_) (fun h5 => ?_)
    rotate_left
    · exfalso; exact hl (bI_1.mp h5)
    exact go_throw (i := 1) (Or.inr ⟨78, 273, 82, _, (at_of tX9_setKind 0 8 rfl), (at_of tX9_setKind 0 9 rfl), (at_of tX9_setKind 0 10 rfl), (at_of tX9_setKind 0 11 rfl), (at_of tX9_setKind 0 12 rfl), cl_X9_78, List.mem_of_getElem? (i := 20) rfl, inL 845 (by decide +kernel) (by decide +kernel)⟩) (by decide) rfl (Nat.le_of_ble_eq_true rfl) ⟨by decide, by decide⟩ rfl
theorem ok_setKind (hS : Str σ.2.1) {l v z : Int} (hl : 0 ≤ l ∧ l < 3 ∧ 0 ≤ v ∧ v < 3) (hz : z = 100 ∨ z = 97 ∨ z = 114) : Con 2 mX9_setKind 0 0 [vA 0, vI l, vI v, vI z] σ (vI (σ.1 88 (l * 3 + v).toNat % 65536), M1 σ 88 (l * 3 + v) z) := by
  rcases hz with hz | hz | hz
  · skip
    refine con_of_go mfX9_setKind.1 ⟨by omega, by omega⟩ (Nat.le_of_ble_eq_true rfl) rfl (by decide) ?_
    show Go _ _ _ _ 0 [vA _, vI _, vI _, vI _] [] _ _
    refine go_iload_n (at_of tX9_setKind 0 0 rfl) rfl ?_
    refine go_iconst (at_of tX9_setKind 0 1 rfl) (by unfold in32; omega) ?_
    refine go_cS (con_isWithin) lk_X9_270 rfl (at_of tX9_setKind 0 2 rfl) rfl (by decide) rfl (Nat.le_of_ble_eq_true rfl) rfl (by first | decide | exact ⟨Nat.zero_le _, Nat.zero_le _⟩) ?_
    refine go_if_eq (tgt := 16) (at_of tX9_setKind 0 3 rfl) (by decide) (fun h5 => ?_) (fun h5 => ?_)
    · exfalso; exact bI_0.mp h5 (by omega)
    refine go_iload_n (at_of tX9_setKind 0 4 rfl) rfl ?_
    refine go_iconst (at_of tX9_setKind 0 5 rfl) (by unfold in32; omega) ?_
    refine go_cS (con_isWithin) lk_X9_270 rfl (at_of tX9_setKind 0 6 rfl) rfl (by decide) rfl (Nat.le_of_ble_eq_true rfl) rfl (by first | decide | exact ⟨Nat.zero_le _, Nat.zero_le _⟩) ?_
    refine go_if_ne (tgt := 27) (at_of tX9_setKind 0 7 rfl) (by decide) (fun h13 => ?_) (fun h13 => ?_)
    rotate_left
    · exfalso; exact bI_0.mp h13 (by omega)
    refine go_iload_n (at_of tX9_setKind 0 13 rfl) rfl ?_
    refine go_bipush (at_of tX9_setKind 0 14 rfl) (by decide) ?_
    refine go_icmp_eq (tgt := 56) (at_of tX9_setKind 0 15 rfl) (by decide) (fun h30 => ?_) (fun h30 => ?_)
    rotate_left
    · exfalso; omega
    refine go_aload_n (at_of tX9_setKind 1 11 rfl) rfl ?_
    refine go_getr (q := 87) fl_X9_37 rfl G_0 ((hS _ _ rfl).trans rfl) (at_of tX9_setKind 1 12 rfl) ?_
    refine go_iload_n (at_of tX9_setKind 1 13 rfl) rfl ?_
    refine go_iload_n (at_of tX9_setKind 1 14 rfl) rfl ?_
    refine go_iload_n (at_of tX9_setKind 1 15 rfl) rfl ?_
    refine go_cV (con_swapKind hS (by omega) (by omega)) lk_X9_277 rfl G_87 (at_of tX9_setKind 2 0 rfl) rfl (by decide) rfl (Nat.le_of_ble_eq_true rfl) rfl (by first | decide | exact ⟨Nat.zero_le _, Nat.zero_le _⟩) ?_
    first | exact go_reti (at_of tX9_setKind 2 1 rfl) rfl | exact go_reti (at_of tX9_setKind 2 1 rfl) (le_i (by omega)) | exact go_reti (at_of tX9_setKind 2 1 rfl) (le_i (by first | exact bI_t (by omega) | exact bI_f (by omega)))
  · skip
    refine con_of_go mfX9_setKind.1 ⟨by omega, by omega⟩ (Nat.le_of_ble_eq_true rfl) rfl (by decide) ?_
    show Go _ _ _ _ 0 [vA _, vI _, vI _, vI _] [] _ _
    refine go_iload_n (at_of tX9_setKind 0 0 rfl) rfl ?_
    refine go_iconst (at_of tX9_setKind 0 1 rfl) (by unfold in32; omega) ?_
    refine go_cS (con_isWithin) lk_X9_270 rfl (at_of tX9_setKind 0 2 rfl) rfl (by decide) rfl (Nat.le_of_ble_eq_true rfl) rfl (by first | decide | exact ⟨Nat.zero_le _, Nat.zero_le _⟩) ?_
    refine go_if_eq (tgt := 16) (at_of tX9_setKind 0 3 rfl) (by decide) (fun h5 => ?_) (fun h5 => ?_)
    · exfalso; exact bI_0.mp h5 (by omega)
    refine go_iload_n (at_of tX9_setKind 0 4 rfl) rfl ?_
    refine go_iconst (at_of tX9_setKind 0 5 rfl) (by unfold in32; omega) ?_
    refine go_cS (con_isWithin) lk_X9_270 rfl (at_of tX9_setKind 0 6 rfl) rfl (by decide) rfl (Nat.le_of_ble_eq_true rfl) rfl (by first | decide | exact ⟨Nat.zero_le _, Nat.zero_le _⟩) ?_
    refine go_if_ne (tgt := 27) (at_of tX9_setKind 0 7 rfl) (by decide) (fun h13 => ?_) (fun h13 => ?_)
    rotate_left
    · exfalso; exact bI_0.mp h13 (by omega)
    refine go_iload_n (at_of tX9_setKind 0 13 rfl) rfl ?_
    refine go_bipush (at_of tX9_setKind 0 14 rfl) (by decide) ?_
    refine go_icmp_eq (tgt := 56) (at_of tX9_setKind 0 15 rfl) (by decide) (fun h30 => ?_) (fun h30 => ?_)
    · exfalso; omega
    refine go_iload_n (at_of tX9_setKind 1 0 rfl) rfl ?_
    refine go_bipush (at_of tX9_setKind 1 1 rfl) (by decide) ?_
    refine go_icmp_eq (tgt := 56) (at_of tX9_setKind 1 2 rfl) (by decide) (fun h36 => ?_) (fun h36 => ?_)
    rotate_left
    · exfalso; omega
    refine go_aload_n (at_of tX9_setKind 1 11 rfl) rfl ?_
    refine go_getr (q := 87) fl_X9_37 rfl G_0 ((hS _ _ rfl).trans rfl) (at_of tX9_setKind 1 12 rfl) ?_
    refine go_iload_n (at_of tX9_setKind 1 13 rfl) rfl ?_
    refine go_iload_n (at_of tX9_setKind 1 14 rfl) rfl ?_
    refine go_iload_n (at_of tX9_setKind 1 15 rfl) rfl ?_
    refine go_cV (con_swapKind hS (by omega) (by omega)) lk_X9_277 rfl G_87 (at_of tX9_setKind 2 0 rfl) rfl (by decide) rfl (Nat.le_of_ble_eq_true rfl) rfl (by first | decide | exact ⟨Nat.zero_le _, Nat.zero_le _⟩) ?_
    first | exact go_reti (at_of tX9_setKind 2 1 rfl) rfl | exact go_reti (at_of tX9_setKind 2 1 rfl) (le_i (by omega)) | exact go_reti (at_of tX9_setKind 2 1 rfl) (le_i (by first | exact bI_t (by omega) | exact bI_f (by omega)))
  · skip
    refine con_of_go mfX9_setKind.1 ⟨by omega, by omega⟩ (Nat.le_of_ble_eq_true rfl) rfl (by decide) ?_
    show Go _ _ _ _ 0 [vA _, vI _, vI _, vI _] [] _ _
    refine go_iload_n (at_of tX9_setKind 0 0 rfl) rfl ?_
    refine go_iconst (at_of tX9_setKind 0 1 rfl) (by unfold in32; omega) ?_
    refine go_cS (con_isWithin) lk_X9_270 rfl (at_of tX9_setKind 0 2 rfl) rfl (by decide) rfl (Nat.le_of_ble_eq_true rfl) rfl (by first | decide | exact ⟨Nat.zero_le _, Nat.zero_le _⟩) ?_
    refine go_if_eq (tgt := 16) (at_of tX9_setKind 0 3 rfl) (by decide) (fun h5 => ?_) (fun h5 => ?_)
    · exfalso; exact bI_0.mp h5 (by omega)
    refine go_iload_n (at_of tX9_setKind 0 4 rfl) rfl ?_
    refine go_iconst (at_of tX9_setKind 0 5 rfl) (by unfold in32; omega) ?_
    refine go_cS (con_isWithin) lk_X9_270 rfl (at_of tX9_setKind 0 6 rfl) rfl (by decide) rfl (Nat.le_of_ble_eq_true rfl) rfl (by first | decide | exact ⟨Nat.zero_le _, Nat.zero_le _⟩) ?_
    refine go_if_ne (tgt := 27) (at_of tX9_setKind 0 7 rfl) (by decide) (fun h13 => ?_) (fun h13 => ?_)
    rotate_left
    · exfalso; exact bI_0.mp h13 (by omega)
    refine go_iload_n (at_of tX9_setKind 0 13 rfl) rfl ?_
    refine go_bipush (at_of tX9_setKind 0 14 rfl) (by decide) ?_
    refine go_icmp_eq (tgt := 56) (at_of tX9_setKind 0 15 rfl) (by decide) (fun h30 => ?_) (fun h30 => ?_)
    · exfalso; omega
    refine go_iload_n (at_of tX9_setKind 1 0 rfl) rfl ?_
    refine go_bipush (at_of tX9_setKind 1 1 rfl) (by decide) ?_
    refine go_icmp_eq (tgt := 56) (at_of tX9_setKind 1 2 rfl) (by decide) (fun h36 => ?_) (fun h36 => ?_)
    · exfalso; omega
    refine go_iload_n (at_of tX9_setKind 1 3 rfl) rfl ?_
    refine go_bipush (at_of tX9_setKind 1 4 rfl) (by decide) ?_
    refine go_icmp_eq (tgt := 56) (at_of tX9_setKind 1 5 rfl) (by decide) (fun h42 => ?_) (fun h42 => ?_)
    rotate_left
    · exfalso; omega
    refine go_aload_n (at_of tX9_setKind 1 11 rfl) rfl ?_
    refine go_getr (q := 87) fl_X9_37 rfl G_0 ((hS _ _ rfl).trans rfl) (at_of tX9_setKind 1 12 rfl) ?_
    refine go_iload_n (at_of tX9_setKind 1 13 rfl) rfl ?_
    refine go_iload_n (at_of tX9_setKind 1 14 rfl) rfl ?_
    refine go_iload_n (at_of tX9_setKind 1 15 rfl) rfl ?_
    refine go_cV (con_swapKind hS (by omega) (by omega)) lk_X9_277 rfl G_87 (at_of tX9_setKind 2 0 rfl) rfl (by decide) rfl (Nat.le_of_ble_eq_true rfl) rfl (by first | decide | exact ⟨Nat.zero_le _, Nat.zero_le _⟩) ?_
    first | exact go_reti (at_of tX9_setKind 2 1 rfl) rfl | exact go_reti (at_of tX9_setKind 2 1 rfl) (le_i (by omega)) | exact go_reti (at_of tX9_setKind 2 1 rfl) (le_i (by first | exact bI_t (by omega) | exact bI_f (by omega)))
theorem th1_setLegal (hS : Str σ.2.1) {l z : Int} (h : ¬ (0 ≤ l ∧ l < 3)) : Con 2 mX9_setLegal 1 6 [vA 0, vI l, vI z] σ (vT 21 0, σ) := by
  refine con_of_go mfX9_setLegal.1 (Nat.le_of_ble_eq_true rfl) (Nat.le_of_ble_eq_true rfl) rfl (by decide) ?_
  show Go _ _ _ _ 0 [vA _, vI _, vI _] [] _ _
  refine go_iload_n (at_of tX9_setLegal 0 0 rfl) rfl ?_
  refine go_iconst (at_of tX9_setLegal 0 1 rfl) (by unfold in32; omega) ?_
  refine go_cS (con_isWithin) lk_X9_270 rfl (at_of tX9_setLegal 0 2 rfl) rfl (by decide) rfl (Nat.le_of_ble_eq_true rfl) rfl (by first | decide | exact ⟨Nat.zero_le _, Nat.zero_le _⟩) ?_
  refine go_if_ne (tgt := 19) (at_of tX9_setLegal 0 3 rfl) (by decide) (fun h5 => ?_) (fun h5 => ?_)
  · exfalso; exact h (bI_1.mp h5)
  exact go_throw (i := 1) (Or.inr ⟨78, 281, 82, _, (at_of tX9_setLegal 0 4 rfl), (at_of tX9_setLegal 0 5 rfl), (at_of tX9_setLegal 0 6 rfl), (at_of tX9_setLegal 0 7 rfl), (at_of tX9_setLegal 0 8 rfl), cl_X9_78, List.mem_of_getElem? (i := 22) rfl, inL 845 (by decide +kernel) (by decide +kernel)⟩) (by decide) rfl (Nat.le_of_ble_eq_true rfl) ⟨by decide, by decide⟩ rfl
theorem ok_setLegal (hS : Str σ.2.1) {l z : Int} (hl : 0 ≤ l ∧ l < 3) (hz : z = 0 ∨ z = 1) (h01 : σ.1 89 l.toNat = 0 ∨ σ.1 89 l.toNat = 1) : Con 2 mX9_setLegal 0 0 [vA 0, vI l, vI z] σ (vI (σ.1 89 l.toNat), M1 σ 89 l z) := by
  refine con_of_go mfX9_setLegal.1 h01 (Nat.le_of_ble_eq_true rfl) rfl (by decide) ?_
  show Go _ _ _ _ 0 [vA _, vI _, vI _] [] _ _
  refine go_iload_n (at_of tX9_setLegal 0 0 rfl) rfl ?_
  refine go_iconst (at_of tX9_setLegal 0 1 rfl) (by unfold in32; omega) ?_
  refine go_cS (con_isWithin) lk_X9_270 rfl (at_of tX9_setLegal 0 2 rfl) rfl (by decide) rfl (Nat.le_of_ble_eq_true rfl) rfl (by first | decide | exact ⟨Nat.zero_le _, Nat.zero_le _⟩) ?_
  refine go_if_ne (tgt := 19) (at_of tX9_setLegal 0 3 rfl) (by decide) (fun h5 => ?_) (fun h5 => ?_)
  rotate_left
  · exfalso; exact bI_0.mp h5 hl
  refine go_aload_n (at_of tX9_setLegal 0 9 rfl) rfl ?_
  refine go_getr (q := 87) fl_X9_37 rfl G_0 ((hS _ _ rfl).trans rfl) (at_of tX9_setLegal 0 10 rfl) ?_
  refine go_iload_n (at_of tX9_setLegal 0 11 rfl) rfl ?_
  refine go_iload_n (at_of tX9_setLegal 0 12 rfl) rfl ?_
  refine go_cV (con_swapLegal hS hl hz h01) lk_X9_283 rfl G_87 (at_of tX9_setLegal 0 13 rfl) rfl (by decide) rfl (Nat.le_of_ble_eq_true rfl) rfl (by first | decide | exact ⟨Nat.zero_le _, Nat.zero_le _⟩) ?_
  first | exact go_reti (at_of tX9_setLegal 0 14 rfl) rfl | exact go_reti (at_of tX9_setLegal 0 14 rfl) (le_i (by omega)) | exact go_reti (at_of tX9_setLegal 0 14 rfl) (le_i (by first | exact bI_t (by omega) | exact bI_f (by omega)))
theorem th0_lineAt (hS : Str σ.2.1) {i : Int} (h : ¬ (0 ≤ i ∧ i < σ.1 87 4)) : Con 2 mX9_lineAt 1 6 [vA 0, vI i] σ (vT 20 0, σ) := by
  refine con_of_go mfX9_lineAt.1 (Nat.le_of_ble_eq_true rfl) (Nat.le_of_ble_eq_true rfl) rfl (by decide) ?_
  show Go _ _ _ _ 0 [vA _, vI _] [] _ _
  refine go_iload_n (at_of tX9_lineAt 0 0 rfl) rfl ?_
  refine go_aload_n (at_of tX9_lineAt 0 1 rfl) rfl ?_
  refine go_getr (q := 87) fl_X9_37 rfl G_0 ((hS _ _ rfl).trans rfl) (at_of tX9_lineAt 0 2 rfl) ?_
  refine go_cV (con_lineLength hS) lk_X9_296 rfl G_87 (at_of tX9_lineAt 0 3 rfl) rfl (by decide) rfl (Nat.le_of_ble_eq_true rfl) rfl (by first | decide | exact ⟨Nat.zero_le _, Nat.zero_le _⟩) ?_
  refine go_cS (con_isWithin) lk_X9_270 rfl (at_of tX9_lineAt 0 4 rfl) rfl (by decide) rfl (Nat.le_of_ble_eq_true rfl) rfl (by first | decide | exact ⟨Nat.zero_le _, Nat.zero_le _⟩) ?_
  refine go_if_ne (tgt := 25) (at_of tX9_lineAt 0 5 rfl) (by decide) (fun h11 => ?_) (fun h11 => ?_)
  · exfalso; exact h (bI_1.mp h11)
  exact go_throw (i := 0) (Or.inr ⟨163, 299, 167, _, (at_of tX9_lineAt 0 6 rfl), (at_of tX9_lineAt 0 7 rfl), (at_of tX9_lineAt 0 8 rfl), (at_of tX9_lineAt 0 9 rfl), (at_of tX9_lineAt 0 10 rfl), cl_X9_163, List.mem_of_getElem? (i := 24) rfl, inL 824 (by decide +kernel) (by decide +kernel)⟩) (by decide) rfl (Nat.le_of_ble_eq_true rfl) ⟨by decide, by decide⟩ rfl
theorem ok_lineAt (hS : Str σ.2.1) {i : Int} (h : 0 ≤ i ∧ i < σ.1 87 4) (h128 : σ.1 87 4 ≤ 128) (hc : 0 ≤ σ.1 91 i.toNat ∧ σ.1 91 i.toNat < 65536) : Con 2 mX9_lineAt 0 0 [vA 0, vI i] σ (vI (σ.1 91 i.toNat), σ) := by
  refine con_of_go mfX9_lineAt.1 hc (Nat.le_of_ble_eq_true rfl) rfl (by decide) ?_
  show Go _ _ _ _ 0 [vA _, vI _] [] _ _
  refine go_iload_n (at_of tX9_lineAt 0 0 rfl) rfl ?_
  refine go_aload_n (at_of tX9_lineAt 0 1 rfl) rfl ?_
  refine go_getr (q := 87) fl_X9_37 rfl G_0 ((hS _ _ rfl).trans rfl) (at_of tX9_lineAt 0 2 rfl) ?_
  refine go_cV (con_lineLength hS) lk_X9_296 rfl G_87 (at_of tX9_lineAt 0 3 rfl) rfl (by decide) rfl (Nat.le_of_ble_eq_true rfl) rfl (by first | decide | exact ⟨Nat.zero_le _, Nat.zero_le _⟩) ?_
  refine go_cS (con_isWithin) lk_X9_270 rfl (at_of tX9_lineAt 0 4 rfl) rfl (by decide) rfl (Nat.le_of_ble_eq_true rfl) rfl (by first | decide | exact ⟨Nat.zero_le _, Nat.zero_le _⟩) ?_
  refine go_if_ne (tgt := 25) (at_of tX9_lineAt 0 5 rfl) (by decide) (fun h11 => ?_) (fun h11 => ?_)
  rotate_left
  · exfalso; exact bI_0.mp h11 h
  refine go_aload_n (at_of tX9_lineAt 0 11 rfl) rfl ?_
  refine go_getr (q := 87) fl_X9_37 rfl G_0 ((hS _ _ rfl).trans rfl) (at_of tX9_lineAt 0 12 rfl) ?_
  refine go_iload_n (at_of tX9_lineAt 0 13 rfl) rfl ?_
  refine go_cV (con_lineSign hS (by omega) hc) lk_X9_301 rfl G_87 (at_of tX9_lineAt 0 14 rfl) rfl (by decide) rfl (Nat.le_of_ble_eq_true rfl) rfl (by first | decide | exact ⟨Nat.zero_le _, Nat.zero_le _⟩) ?_
  first | exact go_reti (at_of tX9_lineAt 0 15 rfl) rfl | exact go_reti (at_of tX9_lineAt 0 15 rfl) (le_i (by omega)) | exact go_reti (at_of tX9_lineAt 0 15 rfl) (le_i (by first | exact bI_t (by omega) | exact bI_f (by omega)))
theorem ok_numberOf_no (hS : Str σ.2.1) {pi : Nat → Nat} {A : PastD} (hA : PastR σ pi A) {p : Int} (h2 : ixEnd (A.1 A.2.1).1.1 (A.1 A.2.1).1.2.1 p ≠ -1) (h7 : (A.1 A.2.1).1.1 7 (ixEnd (A.1 A.2.1).1.1 (A.1 A.2.1).1.2.1 p) = -1) : Con 4 mX9_numberOf 0 0 [vA 0, vI p] σ (vI 0, σ) := by
  obtain ⟨hp, hd, hu, hle, hrep⟩ := id hA
  have hk7 := (hp.1 A.2.1 (by omega)).2
  have hk : pi A.2.1 < 8 := by omega
  have hD := hrep A.2.1 (by omega)
  have hR := hD.1
  have hL := hD.2.1.2.2.1
  have hn := hR.1
  obtain ⟨hw1, hw2, hw3⟩ := hR.2.2.2
  have hm := hD.2.1.1
  obtain ⟨l1, l2, l3⟩ := hD.2.1.2.2.2
  obtain ⟨g1, g2, g3, g4, g5, g6, g7, g8, g9, g10⟩ := gamk _ hk
  obtain ⟨p1, p2, p3, p4, p5, p6, p7, p8, p9⟩ := strk hS _ hk
  have hix := ((@ixEnd_le (A.1 A.2.1).1.1 (A.1 A.2.1).1.2.1 p hw1).resolve_left h2)
  refine con_of_go mfX9_numberOf.1 trivial (Nat.le_of_ble_eq_true rfl) rfl (by decide) ?_
  show Go _ _ _ _ 0 [vA _, vI _] [] _ _
  refine go_aload_n (at_of tX9_numberOf 0 0 rfl) rfl ?_
  refine go_getr (q := 87) fl_X9_37 rfl G_0 ((hS _ _ rfl).trans rfl) (at_of tX9_numberOf 0 1 rfl) ?_
  refine go_aload_n (at_of tX9_numberOf 0 2 rfl) rfl ?_
  refine go_getr (q := 1) fl_X9_16 rfl G_0 ((hS _ _ rfl).trans rfl) (at_of tX9_numberOf 0 3 rfl) ?_
  refine go_cV (con_now hS hA) lk_X9_114 rfl g1_ (at_of tX9_numberOf 0 4 rfl) rfl (by decide) rfl (Nat.le_of_ble_eq_true rfl) rfl (by first | decide | exact ⟨Nat.zero_le _, Nat.zero_le _⟩) ?_
  refine go_getr (q := (4 + 10 * pi A.2.1)) fl_X9_131 rfl g1 p1 (at_of tX9_numberOf 0 5 rfl) ?_
  refine go_aload_n (at_of tX9_numberOf 0 6 rfl) rfl ?_
  refine go_iload_n (at_of tX9_numberOf 0 7 rfl) rfl ?_
  refine go_cV (ok_End hS hA h2) lk_X9_156 rfl G_0 (at_of tX9_numberOf 0 8 rfl) rfl (by decide) rfl (Nat.le_of_ble_eq_true rfl) rfl (by first | decide | exact ⟨Nat.zero_le _, Nat.zero_le _⟩) ?_
  refine go_cV (con_ownNumber_no hS hk hR hix h7) lk_X9_287 rfl G_87 (at_of tX9_numberOf 0 9 rfl) rfl (by decide) rfl (Nat.le_of_ble_eq_true rfl) rfl (by first | decide | exact ⟨Nat.zero_le _, Nat.zero_le _⟩) ?_
  first | exact go_reti (at_of tX9_numberOf 0 10 rfl) rfl | exact go_reti (at_of tX9_numberOf 0 10 rfl) (le_i (by omega)) | exact go_reti (at_of tX9_numberOf 0 10 rfl) (le_i (by first | exact bI_t (by omega) | exact bI_f (by omega)))
theorem ok_numberOf (hS : Str σ.2.1) {pi : Nat → Nat} {A : PastD} (hA : PastR σ pi A) {p : Int} (h2 : ixEnd (A.1 A.2.1).1.1 (A.1 A.2.1).1.2.1 p ≠ -1) (h0 : (A.1 A.2.1).1.1 0 (ixEnd (A.1 A.2.1).1.1 (A.1 A.2.1).1.2.1 p) = 47) (h7 : (A.1 A.2.1).1.1 7 (ixEnd (A.1 A.2.1).1.1 (A.1 A.2.1).1.2.1 p) ≠ -1) (hE : EndW (A.1 A.2.1).1) : Con 4 mX9_numberOf 0 0 [vA 0, vI p] σ (vI (ctF (A.1 A.2.1).1 (ixEnd (A.1 A.2.1).1.1 (A.1 A.2.1).1.2.1 p) ((A.1 A.2.1).1.1 8 (ixEnd (A.1 A.2.1).1.1 (A.1 A.2.1).1.2.1 p))), ctS σ (ctF (A.1 A.2.1).1 (ixEnd (A.1 A.2.1).1.1 (A.1 A.2.1).1.2.1 p))) := by
  obtain ⟨hp, hd, hu, hle, hrep⟩ := id hA
  have hk7 := (hp.1 A.2.1 (by omega)).2
  have hk : pi A.2.1 < 8 := by omega
  have hD := hrep A.2.1 (by omega)
  have hR := hD.1
  have hL := hD.2.1.2.2.1
  have hn := hR.1
  obtain ⟨hw1, hw2, hw3⟩ := hR.2.2.2
  have hm := hD.2.1.1
  obtain ⟨l1, l2, l3⟩ := hD.2.1.2.2.2
  obtain ⟨g1, g2, g3, g4, g5, g6, g7, g8, g9, g10⟩ := gamk _ hk
  obtain ⟨p1, p2, p3, p4, p5, p6, p7, p8, p9⟩ := strk hS _ hk
  have hix := ((@ixEnd_le (A.1 A.2.1).1.1 (A.1 A.2.1).1.2.1 p hw1).resolve_left h2)
  refine con_of_go mfX9_numberOf.1 trivial (Nat.le_of_ble_eq_true rfl) rfl (by decide) ?_
  show Go _ _ _ _ 0 [vA _, vI _] [] _ _
  refine go_aload_n (at_of tX9_numberOf 0 0 rfl) rfl ?_
  refine go_getr (q := 87) fl_X9_37 rfl G_0 ((hS _ _ rfl).trans rfl) (at_of tX9_numberOf 0 1 rfl) ?_
  refine go_aload_n (at_of tX9_numberOf 0 2 rfl) rfl ?_
  refine go_getr (q := 1) fl_X9_16 rfl G_0 ((hS _ _ rfl).trans rfl) (at_of tX9_numberOf 0 3 rfl) ?_
  refine go_cV (con_now hS hA) lk_X9_114 rfl g1_ (at_of tX9_numberOf 0 4 rfl) rfl (by decide) rfl (Nat.le_of_ble_eq_true rfl) rfl (by first | decide | exact ⟨Nat.zero_le _, Nat.zero_le _⟩) ?_
  refine go_getr (q := (4 + 10 * pi A.2.1)) fl_X9_131 rfl g1 p1 (at_of tX9_numberOf 0 5 rfl) ?_
  refine go_aload_n (at_of tX9_numberOf 0 6 rfl) rfl ?_
  refine go_iload_n (at_of tX9_numberOf 0 7 rfl) rfl ?_
  refine go_cV (ok_End hS hA h2) lk_X9_156 rfl G_0 (at_of tX9_numberOf 0 8 rfl) rfl (by decide) rfl (Nat.le_of_ble_eq_true rfl) rfl (by first | decide | exact ⟨Nat.zero_le _, Nat.zero_le _⟩) ?_
  refine go_cV (con_ownNumber hS hk hR hE hix h0 h7) lk_X9_287 rfl G_87 (at_of tX9_numberOf 0 9 rfl) rfl (by decide) rfl (Nat.le_of_ble_eq_true rfl) rfl (by first | decide | exact ⟨Nat.zero_le _, Nat.zero_le _⟩) ?_
  first | exact go_reti (at_of tX9_numberOf 0 10 rfl) rfl | exact go_reti (at_of tX9_numberOf 0 10 rfl) (le_i (by omega)) | exact go_reti (at_of tX9_numberOf 0 10 rfl) (le_i (by first | exact bI_t (by omega) | exact bI_f (by omega)))
theorem th0_numberOf (hS : Str σ.2.1) {pi : Nat → Nat} {A : PastD} (hA : PastR σ pi A) {p : Int} (h2 : ixEnd (A.1 A.2.1).1.1 (A.1 A.2.1).1.2.1 p = -1) : Con 4 mX9_numberOf 1 6 [vA 0, vI p] σ (vT 20 0, σ) := by
  obtain ⟨hp, hd, hu, hle, hrep⟩ := id hA
  have hk7 := (hp.1 A.2.1 (by omega)).2
  have hk : pi A.2.1 < 8 := by omega
  have hD := hrep A.2.1 (by omega)
  have hR := hD.1
  have hL := hD.2.1.2.2.1
  have hn := hR.1
  obtain ⟨hw1, hw2, hw3⟩ := hR.2.2.2
  have hm := hD.2.1.1
  obtain ⟨l1, l2, l3⟩ := hD.2.1.2.2.2
  obtain ⟨g1, g2, g3, g4, g5, g6, g7, g8, g9, g10⟩ := gamk _ hk
  obtain ⟨p1, p2, p3, p4, p5, p6, p7, p8, p9⟩ := strk hS _ hk
  refine con_of_go mfX9_numberOf.1 (Nat.le_of_ble_eq_true rfl) (Nat.le_of_ble_eq_true rfl) rfl (by decide) ?_
  show Go _ _ _ _ 0 [vA _, vI _] [] _ _
  refine go_aload_n (at_of tX9_numberOf 0 0 rfl) rfl ?_
  refine go_getr (q := 87) fl_X9_37 rfl G_0 ((hS _ _ rfl).trans rfl) (at_of tX9_numberOf 0 1 rfl) ?_
  refine go_aload_n (at_of tX9_numberOf 0 2 rfl) rfl ?_
  refine go_getr (q := 1) fl_X9_16 rfl G_0 ((hS _ _ rfl).trans rfl) (at_of tX9_numberOf 0 3 rfl) ?_
  refine go_cV (con_now hS hA) lk_X9_114 rfl g1_ (at_of tX9_numberOf 0 4 rfl) rfl (by decide) rfl (Nat.le_of_ble_eq_true rfl) rfl (by first | decide | exact ⟨Nat.zero_le _, Nat.zero_le _⟩) ?_
  refine go_getr (q := (4 + 10 * pi A.2.1)) fl_X9_131 rfl g1 p1 (at_of tX9_numberOf 0 5 rfl) ?_
  refine go_aload_n (at_of tX9_numberOf 0 6 rfl) rfl ?_
  refine go_iload_n (at_of tX9_numberOf 0 7 rfl) rfl ?_
  exact go_tV (i := 0) (th_End hS hA h2) lk_X9_156 rfl G_0 (at_of tX9_numberOf 0 8 rfl) rfl rfl (by decide) rfl (Nat.le_of_ble_eq_true rfl) rfl ⟨by decide, by decide⟩
theorem ok_writeNumber (hS : Str σ.2.1) {pi : Nat → Nat} {A : PastD} (hA : PastR σ pi A) {p : Int} (h2 : ixEnd (A.1 A.2.1).1.1 (A.1 A.2.1).1.2.1 p ≠ -1) (h0 : (A.1 A.2.1).1.1 0 (ixEnd (A.1 A.2.1).1.1 (A.1 A.2.1).1.2.1 p) = 47) (h7 : (A.1 A.2.1).1.1 7 (ixEnd (A.1 A.2.1).1.1 (A.1 A.2.1).1.2.1 p) ≠ -1) (hE : EndW (A.1 A.2.1).1) : Con 6 mX9_writeNumber 0 0 [vA 0, vI p] σ (vI (lineC σ (A.1 A.2.1).1 (ixEnd (A.1 A.2.1).1.1 (A.1 A.2.1).1.2.1 p)).length, putL (P1 (ctS σ (ctF (A.1 A.2.1).1 (ixEnd (A.1 A.2.1).1.1 (A.1 A.2.1).1.2.1 p))) 87 4 0) (lineC σ (A.1 A.2.1).1 (ixEnd (A.1 A.2.1).1.1 (A.1 A.2.1).1.2.1 p))) := by
  obtain ⟨hp, hd, hu, hle, hrep⟩ := id hA
  have hk7 := (hp.1 A.2.1 (by omega)).2
  have hk : pi A.2.1 < 8 := by omega
  have hD := hrep A.2.1 (by omega)
  have hR := hD.1
  have hL := hD.2.1.2.2.1
  have hn := hR.1
  obtain ⟨hw1, hw2, hw3⟩ := hR.2.2.2
  have hm := hD.2.1.1
  obtain ⟨l1, l2, l3⟩ := hD.2.1.2.2.2
  obtain ⟨g1, g2, g3, g4, g5, g6, g7, g8, g9, g10⟩ := gamk _ hk
  obtain ⟨p1, p2, p3, p4, p5, p6, p7, p8, p9⟩ := strk hS _ hk
  have hix := ((@ixEnd_le (A.1 A.2.1).1.1 (A.1 A.2.1).1.2.1 p hw1).resolve_left h2)
  refine con_of_go mfX9_writeNumber.1 trivial (Nat.le_of_ble_eq_true rfl) rfl (by decide) ?_
  show Go _ _ _ _ 0 [vA _, vI _, vT 9 0, vT 9 0] [] _ _
  refine go_aload_n (at_of tX9_writeNumber 0 0 rfl) rfl ?_
  refine go_iload_n (at_of tX9_writeNumber 0 1 rfl) rfl ?_
  refine go_cV (ok_End hS hA h2) lk_X9_156 rfl G_0 (at_of tX9_writeNumber 0 2 rfl) rfl (by decide) rfl (Nat.le_of_ble_eq_true rfl) rfl (by first | decide | exact ⟨Nat.zero_le _, Nat.zero_le _⟩) ?_
  refine go_istore_n (at_of tX9_writeNumber 0 3 rfl) rfl rfl ?_
  refine go_aload_n (at_of tX9_writeNumber 0 4 rfl) rfl ?_
  refine go_getr (q := 1) fl_X9_16 rfl G_0 ((hS _ _ rfl).trans rfl) (at_of tX9_writeNumber 0 5 rfl) ?_
  refine go_cV (con_now hS hA) lk_X9_114 rfl g1_ (at_of tX9_writeNumber 0 6 rfl) rfl (by decide) rfl (Nat.le_of_ble_eq_true rfl) rfl (by first | decide | exact ⟨Nat.zero_le _, Nat.zero_le _⟩) ?_
  refine go_getr (q := (4 + 10 * pi A.2.1)) fl_X9_131 rfl g1 p1 (at_of tX9_writeNumber 0 7 rfl) ?_
  refine go_astore_n (at_of tX9_writeNumber 0 8 rfl) rfl rfl ?_
  refine go_aload_n (at_of tX9_writeNumber 0 9 rfl) rfl ?_
  refine go_bipush (at_of tX9_writeNumber 0 10 rfl) (by decide) ?_
  refine go_iload_n (at_of tX9_writeNumber 0 11 rfl) rfl ?_
  refine go_cV (r_fact hS hk hR (by omega) (by omega)) lk_X9_168 rfl g2 (at_of tX9_writeNumber 0 12 rfl) rfl (by decide) rfl (Nat.le_of_ble_eq_true rfl) rfl (by first | decide | exact ⟨Nat.zero_le _, Nat.zero_le _⟩) ?_
  refine go_iconst (at_of tX9_writeNumber 0 13 rfl) (by unfold in32; omega) ?_
  refine go_icmp_ne (tgt := 39) (at_of tX9_writeNumber 0 14 rfl) (by decide) (fun h25 => ?_) (fun h25 => ?_)
  rotate_left
  · exfalso; omega
  refine go_aload_n (at_of tX9_writeNumber 1 4 rfl) rfl ?_
  refine go_getr (q := 87) fl_X9_37 rfl G_0 ((hS _ _ rfl).trans rfl) (at_of tX9_writeNumber 1 5 rfl) ?_
  refine go_aload_n (at_of tX9_writeNumber 1 6 rfl) rfl ?_
  refine go_iload_n (at_of tX9_writeNumber 1 7 rfl) rfl ?_
  refine go_cV (con_writeLine hS hk hR hE hix h0 h7) lk_X9_293 rfl G_87 (at_of tX9_writeNumber 1 8 rfl) rfl (by decide) rfl (Nat.le_of_ble_eq_true rfl) rfl (by first | decide | exact ⟨Nat.zero_le _, Nat.zero_le _⟩) ?_
  first | exact go_reti (at_of tX9_writeNumber 1 9 rfl) rfl | exact go_reti (at_of tX9_writeNumber 1 9 rfl) (le_i (by omega)) | exact go_reti (at_of tX9_writeNumber 1 9 rfl) (le_i (by first | exact bI_t (by omega) | exact bI_f (by omega)))
theorem th0_writeNumber (hS : Str σ.2.1) {pi : Nat → Nat} {A : PastD} (hA : PastR σ pi A) {p : Int} (h2 : ixEnd (A.1 A.2.1).1.1 (A.1 A.2.1).1.2.1 p = -1) : Con 6 mX9_writeNumber 1 6 [vA 0, vI p] σ (vT 20 0, σ) := by
  obtain ⟨hp, hd, hu, hle, hrep⟩ := id hA
  have hk7 := (hp.1 A.2.1 (by omega)).2
  have hk : pi A.2.1 < 8 := by omega
  have hD := hrep A.2.1 (by omega)
  have hR := hD.1
  have hL := hD.2.1.2.2.1
  have hn := hR.1
  obtain ⟨hw1, hw2, hw3⟩ := hR.2.2.2
  have hm := hD.2.1.1
  obtain ⟨l1, l2, l3⟩ := hD.2.1.2.2.2
  obtain ⟨g1, g2, g3, g4, g5, g6, g7, g8, g9, g10⟩ := gamk _ hk
  obtain ⟨p1, p2, p3, p4, p5, p6, p7, p8, p9⟩ := strk hS _ hk
  refine con_of_go mfX9_writeNumber.1 (Nat.le_of_ble_eq_true rfl) (Nat.le_of_ble_eq_true rfl) rfl (by decide) ?_
  show Go _ _ _ _ 0 [vA _, vI _, vT 9 0, vT 9 0] [] _ _
  refine go_aload_n (at_of tX9_writeNumber 0 0 rfl) rfl ?_
  refine go_iload_n (at_of tX9_writeNumber 0 1 rfl) rfl ?_
  exact go_tV (i := 0) (th_End hS hA h2) lk_X9_156 rfl G_0 (at_of tX9_writeNumber 0 2 rfl) rfl rfl (by decide) rfl (Nat.le_of_ble_eq_true rfl) rfl ⟨by decide, by decide⟩
theorem th4_writeNumber (hS : Str σ.2.1) {pi : Nat → Nat} {A : PastD} (hA : PastR σ pi A) {p : Int} (h2 : ixEnd (A.1 A.2.1).1.1 (A.1 A.2.1).1.2.1 p ≠ -1) (h7 : (A.1 A.2.1).1.1 7 (ixEnd (A.1 A.2.1).1.1 (A.1 A.2.1).1.2.1 p) = -1) : Con 6 mX9_writeNumber 1 6 [vA 0, vI p] σ (vT 24 0, σ) := by
  obtain ⟨hp, hd, hu, hle, hrep⟩ := id hA
  have hk7 := (hp.1 A.2.1 (by omega)).2
  have hk : pi A.2.1 < 8 := by omega
  have hD := hrep A.2.1 (by omega)
  have hR := hD.1
  have hL := hD.2.1.2.2.1
  have hn := hR.1
  obtain ⟨hw1, hw2, hw3⟩ := hR.2.2.2
  have hm := hD.2.1.1
  obtain ⟨l1, l2, l3⟩ := hD.2.1.2.2.2
  obtain ⟨g1, g2, g3, g4, g5, g6, g7, g8, g9, g10⟩ := gamk _ hk
  obtain ⟨p1, p2, p3, p4, p5, p6, p7, p8, p9⟩ := strk hS _ hk
  have hix := ((@ixEnd_le (A.1 A.2.1).1.1 (A.1 A.2.1).1.2.1 p hw1).resolve_left h2)
  refine con_of_go mfX9_writeNumber.1 (Nat.le_of_ble_eq_true rfl) (Nat.le_of_ble_eq_true rfl) rfl (by decide) ?_
  show Go _ _ _ _ 0 [vA _, vI _, vT 9 0, vT 9 0] [] _ _
  refine go_aload_n (at_of tX9_writeNumber 0 0 rfl) rfl ?_
  refine go_iload_n (at_of tX9_writeNumber 0 1 rfl) rfl ?_
  refine go_cV (ok_End hS hA h2) lk_X9_156 rfl G_0 (at_of tX9_writeNumber 0 2 rfl) rfl (by decide) rfl (Nat.le_of_ble_eq_true rfl) rfl (by first | decide | exact ⟨Nat.zero_le _, Nat.zero_le _⟩) ?_
  refine go_istore_n (at_of tX9_writeNumber 0 3 rfl) rfl rfl ?_
  refine go_aload_n (at_of tX9_writeNumber 0 4 rfl) rfl ?_
  refine go_getr (q := 1) fl_X9_16 rfl G_0 ((hS _ _ rfl).trans rfl) (at_of tX9_writeNumber 0 5 rfl) ?_
  refine go_cV (con_now hS hA) lk_X9_114 rfl g1_ (at_of tX9_writeNumber 0 6 rfl) rfl (by decide) rfl (Nat.le_of_ble_eq_true rfl) rfl (by first | decide | exact ⟨Nat.zero_le _, Nat.zero_le _⟩) ?_
  refine go_getr (q := (4 + 10 * pi A.2.1)) fl_X9_131 rfl g1 p1 (at_of tX9_writeNumber 0 7 rfl) ?_
  refine go_astore_n (at_of tX9_writeNumber 0 8 rfl) rfl rfl ?_
  refine go_aload_n (at_of tX9_writeNumber 0 9 rfl) rfl ?_
  refine go_bipush (at_of tX9_writeNumber 0 10 rfl) (by decide) ?_
  refine go_iload_n (at_of tX9_writeNumber 0 11 rfl) rfl ?_
  refine go_cV (r_fact hS hk hR (by omega) (by omega)) lk_X9_168 rfl g2 (at_of tX9_writeNumber 0 12 rfl) rfl (by decide) rfl (Nat.le_of_ble_eq_true rfl) rfl (by first | decide | exact ⟨Nat.zero_le _, Nat.zero_le _⟩) ?_
  refine go_iconst (at_of tX9_writeNumber 0 13 rfl) (by unfold in32; omega) ?_
  refine go_icmp_ne (tgt := 39) (at_of tX9_writeNumber 0 14 rfl) (by decide) (fun h25 => ?_) (fun h25 => ?_)
  · exfalso; omega
  exact go_throw (i := 4) (Or.inr ⟨188, 291, 192, _, (at_of tX9_writeNumber 0 15 rfl), (at_of tX9_writeNumber 1 0 rfl), (at_of tX9_writeNumber 1 1 rfl), (at_of tX9_writeNumber 1 2 rfl), (at_of tX9_writeNumber 1 3 rfl), cl_X9_188, List.mem_of_getElem? (i := 23) rfl, inL 1049 (by decide +kernel) (by decide +kernel)⟩) (by decide) rfl (Nat.le_of_ble_eq_true rfl) ⟨by decide, by decide⟩ rfl
theorem ok_bookmarkFrom (hS : Str σ.2.1) {pi : Nat → Nat} {A : PastD} (hA : PastR σ pi A) {b : Int} (h1 : 0 ≤ b ∧ b < 6) (h2 : (A.1 A.2.1).1.2.2.1 b ≠ -1) : Con 3 mX9_bookmarkFrom 0 0 [vA 0, vI b] σ (vI (plOf (A.1 A.2.1).1.1 (A.1 A.2.1).1.2.1 ((A.1 A.2.1).1.2.2.1 b)), σ) := by
  obtain ⟨hp, hd, hu, hle, hrep⟩ := id hA
  have hk7 := (hp.1 A.2.1 (by omega)).2
  have hk : pi A.2.1 < 8 := by omega
  have hD := hrep A.2.1 (by omega)
  have hR := hD.1
  have hL := hD.2.1.2.2.1
  have hn := hR.1
  obtain ⟨hw1, hw2, hw3⟩ := hR.2.2.2
  have hm := hD.2.1.1
  obtain ⟨l1, l2, l3⟩ := hD.2.1.2.2.2
  obtain ⟨g1, g2, g3, g4, g5, g6, g7, g8, g9, g10⟩ := gamk _ hk
  obtain ⟨p1, p2, p3, p4, p5, p6, p7, p8, p9⟩ := strk hS _ hk
  refine con_of_go mfX9_bookmarkFrom.1 trivial (Nat.le_of_ble_eq_true rfl) rfl (by decide) ?_
  show Go _ _ _ _ 0 [vA _, vI _] [] _ _
  refine go_aload_n (at_of tX9_bookmarkFrom 0 0 rfl) rfl ?_
  refine go_iload_n (at_of tX9_bookmarkFrom 0 1 rfl) rfl ?_
  refine go_cV (ok_SetB hS hA h1 h2) lk_X9_312 rfl G_0 (at_of tX9_bookmarkFrom 0 2 rfl) rfl (by decide) rfl (Nat.le_of_ble_eq_true rfl) rfl (by first | decide | exact ⟨Nat.zero_le _, Nat.zero_le _⟩) ?_
  refine go_aload_n (at_of tX9_bookmarkFrom 0 3 rfl) rfl ?_
  refine go_getr (q := 1) fl_X9_16 rfl G_0 ((hS _ _ rfl).trans rfl) (at_of tX9_bookmarkFrom 0 4 rfl) ?_
  refine go_cV (con_now hS hA) lk_X9_114 rfl g1_ (at_of tX9_bookmarkFrom 0 5 rfl) rfl (by decide) rfl (Nat.le_of_ble_eq_true rfl) rfl (by first | decide | exact ⟨Nat.zero_le _, Nat.zero_le _⟩) ?_
  refine go_getr (q := (4 + 10 * pi A.2.1)) fl_X9_131 rfl g1 p1 (at_of tX9_bookmarkFrom 0 6 rfl) ?_
  refine go_iload_n (at_of tX9_bookmarkFrom 0 7 rfl) rfl ?_
  refine go_cV (r_bookmarkBegin hS hk hR h1) lk_X9_315 rfl g2 (at_of tX9_bookmarkFrom 0 8 rfl) rfl (by decide) rfl (Nat.le_of_ble_eq_true rfl) rfl (by first | decide | exact ⟨Nat.zero_le _, Nat.zero_le _⟩) ?_
  first | exact go_reti (at_of tX9_bookmarkFrom 0 9 rfl) rfl | exact go_reti (at_of tX9_bookmarkFrom 0 9 rfl) (le_i (by omega)) | exact go_reti (at_of tX9_bookmarkFrom 0 9 rfl) (le_i (by first | exact bI_t (by omega) | exact bI_f (by omega)))
theorem ok_bookmarkTo (hS : Str σ.2.1) {pi : Nat → Nat} {A : PastD} (hA : PastR σ pi A) {b : Int} (h1 : 0 ≤ b ∧ b < 6) (h2 : (A.1 A.2.1).1.2.2.1 b ≠ -1) : Con 4 mX9_bookmarkTo 0 0 [vA 0, vI b] σ (vI (max (plOf (A.1 A.2.1).1.1 (A.1 A.2.1).1.2.1 ((A.1 A.2.1).1.2.2.2 b)) (plOf (A.1 A.2.1).1.1 (A.1 A.2.1).1.2.1 ((A.1 A.2.1).1.2.2.1 b))), σ) := by
  obtain ⟨hp, hd, hu, hle, hrep⟩ := id hA
  have hk7 := (hp.1 A.2.1 (by omega)).2
  have hk : pi A.2.1 < 8 := by omega
  have hD := hrep A.2.1 (by omega)
  have hR := hD.1
  have hL := hD.2.1.2.2.1
  have hn := hR.1
  obtain ⟨hw1, hw2, hw3⟩ := hR.2.2.2
  have hm := hD.2.1.1
  obtain ⟨l1, l2, l3⟩ := hD.2.1.2.2.2
  obtain ⟨g1, g2, g3, g4, g5, g6, g7, g8, g9, g10⟩ := gamk _ hk
  obtain ⟨p1, p2, p3, p4, p5, p6, p7, p8, p9⟩ := strk hS _ hk
  refine con_of_go mfX9_bookmarkTo.1 trivial (Nat.le_of_ble_eq_true rfl) rfl (by decide) ?_
  show Go _ _ _ _ 0 [vA _, vI _] [] _ _
  refine go_aload_n (at_of tX9_bookmarkTo 0 0 rfl) rfl ?_
  refine go_iload_n (at_of tX9_bookmarkTo 0 1 rfl) rfl ?_
  refine go_cV (ok_SetB hS hA h1 h2) lk_X9_312 rfl G_0 (at_of tX9_bookmarkTo 0 2 rfl) rfl (by decide) rfl (Nat.le_of_ble_eq_true rfl) rfl (by first | decide | exact ⟨Nat.zero_le _, Nat.zero_le _⟩) ?_
  refine go_aload_n (at_of tX9_bookmarkTo 0 3 rfl) rfl ?_
  refine go_getr (q := 1) fl_X9_16 rfl G_0 ((hS _ _ rfl).trans rfl) (at_of tX9_bookmarkTo 0 4 rfl) ?_
  refine go_cV (con_now hS hA) lk_X9_114 rfl g1_ (at_of tX9_bookmarkTo 0 5 rfl) rfl (by decide) rfl (Nat.le_of_ble_eq_true rfl) rfl (by first | decide | exact ⟨Nat.zero_le _, Nat.zero_le _⟩) ?_
  refine go_getr (q := (4 + 10 * pi A.2.1)) fl_X9_131 rfl g1 p1 (at_of tX9_bookmarkTo 0 6 rfl) ?_
  refine go_iload_n (at_of tX9_bookmarkTo 0 7 rfl) rfl ?_
  refine go_cV (r_bookmarkEnd hS hk hR h1) lk_X9_318 rfl g2 (at_of tX9_bookmarkTo 0 8 rfl) rfl (by decide) rfl (Nat.le_of_ble_eq_true rfl) rfl (by first | decide | exact ⟨Nat.zero_le _, Nat.zero_le _⟩) ?_
  first | exact go_reti (at_of tX9_bookmarkTo 0 9 rfl) rfl | exact go_reti (at_of tX9_bookmarkTo 0 9 rfl) (le_i (by omega)) | exact go_reti (at_of tX9_bookmarkTo 0 9 rfl) (le_i (by first | exact bI_t (by omega) | exact bI_f (by omega)))
theorem th0_bookmarkFrom (hS : Str σ.2.1) {pi : Nat → Nat} {A : PastD} (hA : PastR σ pi A) {b : Int} (h1 : ¬ (0 ≤ b ∧ b < 6)) : Con 3 mX9_bookmarkFrom 1 6 [vA 0, vI b] σ (vT 20 0, σ) := by
  obtain ⟨hp, hd, hu, hle, hrep⟩ := id hA
  have hk7 := (hp.1 A.2.1 (by omega)).2
  have hk : pi A.2.1 < 8 := by omega
  have hD := hrep A.2.1 (by omega)
  have hR := hD.1
  have hL := hD.2.1.2.2.1
  have hn := hR.1
  obtain ⟨hw1, hw2, hw3⟩ := hR.2.2.2
  have hm := hD.2.1.1
  obtain ⟨l1, l2, l3⟩ := hD.2.1.2.2.2
  obtain ⟨g1, g2, g3, g4, g5, g6, g7, g8, g9, g10⟩ := gamk _ hk
  obtain ⟨p1, p2, p3, p4, p5, p6, p7, p8, p9⟩ := strk hS _ hk
  refine con_of_go mfX9_bookmarkFrom.1 (Nat.le_of_ble_eq_true rfl) (Nat.le_of_ble_eq_true rfl) rfl (by decide) ?_
  show Go _ _ _ _ 0 [vA _, vI _] [] _ _
  refine go_aload_n (at_of tX9_bookmarkFrom 0 0 rfl) rfl ?_
  refine go_iload_n (at_of tX9_bookmarkFrom 0 1 rfl) rfl ?_
  exact go_tV (i := 0) (th_SetB0 hS hA h1) lk_X9_312 rfl G_0 (at_of tX9_bookmarkFrom 0 2 rfl) rfl rfl (by decide) rfl (Nat.le_of_ble_eq_true rfl) rfl ⟨by decide, by decide⟩
theorem th4_bookmarkFrom (hS : Str σ.2.1) {pi : Nat → Nat} {A : PastD} (hA : PastR σ pi A) {b : Int} (h1 : 0 ≤ b ∧ b < 6) (h2 : (A.1 A.2.1).1.2.2.1 b = -1) : Con 3 mX9_bookmarkFrom 1 6 [vA 0, vI b] σ (vT 24 0, σ) := by
  obtain ⟨hp, hd, hu, hle, hrep⟩ := id hA
  have hk7 := (hp.1 A.2.1 (by omega)).2
  have hk : pi A.2.1 < 8 := by omega
  have hD := hrep A.2.1 (by omega)
  have hR := hD.1
  have hL := hD.2.1.2.2.1
  have hn := hR.1
  obtain ⟨hw1, hw2, hw3⟩ := hR.2.2.2
  have hm := hD.2.1.1
  obtain ⟨l1, l2, l3⟩ := hD.2.1.2.2.2
  obtain ⟨g1, g2, g3, g4, g5, g6, g7, g8, g9, g10⟩ := gamk _ hk
  obtain ⟨p1, p2, p3, p4, p5, p6, p7, p8, p9⟩ := strk hS _ hk
  refine con_of_go mfX9_bookmarkFrom.1 (Nat.le_of_ble_eq_true rfl) (Nat.le_of_ble_eq_true rfl) rfl (by decide) ?_
  show Go _ _ _ _ 0 [vA _, vI _] [] _ _
  refine go_aload_n (at_of tX9_bookmarkFrom 0 0 rfl) rfl ?_
  refine go_iload_n (at_of tX9_bookmarkFrom 0 1 rfl) rfl ?_
  exact go_tV (i := 4) (th_SetB4 hS hA h1 h2) lk_X9_312 rfl G_0 (at_of tX9_bookmarkFrom 0 2 rfl) rfl rfl (by decide) rfl (Nat.le_of_ble_eq_true rfl) rfl ⟨by decide, by decide⟩
theorem th0_bookmarkTo (hS : Str σ.2.1) {pi : Nat → Nat} {A : PastD} (hA : PastR σ pi A) {b : Int} (h1 : ¬ (0 ≤ b ∧ b < 6)) : Con 4 mX9_bookmarkTo 1 6 [vA 0, vI b] σ (vT 20 0, σ) := by
  obtain ⟨hp, hd, hu, hle, hrep⟩ := id hA
  have hk7 := (hp.1 A.2.1 (by omega)).2
  have hk : pi A.2.1 < 8 := by omega
  have hD := hrep A.2.1 (by omega)
  have hR := hD.1
  have hL := hD.2.1.2.2.1
  have hn := hR.1
  obtain ⟨hw1, hw2, hw3⟩ := hR.2.2.2
  have hm := hD.2.1.1
  obtain ⟨l1, l2, l3⟩ := hD.2.1.2.2.2
  obtain ⟨g1, g2, g3, g4, g5, g6, g7, g8, g9, g10⟩ := gamk _ hk
  obtain ⟨p1, p2, p3, p4, p5, p6, p7, p8, p9⟩ := strk hS _ hk
  refine con_of_go mfX9_bookmarkTo.1 (Nat.le_of_ble_eq_true rfl) (Nat.le_of_ble_eq_true rfl) rfl (by decide) ?_
  show Go _ _ _ _ 0 [vA _, vI _] [] _ _
  refine go_aload_n (at_of tX9_bookmarkTo 0 0 rfl) rfl ?_
  refine go_iload_n (at_of tX9_bookmarkTo 0 1 rfl) rfl ?_
  exact go_tV (i := 0) (th_SetB0 hS hA h1) lk_X9_312 rfl G_0 (at_of tX9_bookmarkTo 0 2 rfl) rfl rfl (by decide) rfl (Nat.le_of_ble_eq_true rfl) rfl ⟨by decide, by decide⟩
theorem th4_bookmarkTo (hS : Str σ.2.1) {pi : Nat → Nat} {A : PastD} (hA : PastR σ pi A) {b : Int} (h1 : 0 ≤ b ∧ b < 6) (h2 : (A.1 A.2.1).1.2.2.1 b = -1) : Con 4 mX9_bookmarkTo 1 6 [vA 0, vI b] σ (vT 24 0, σ) := by
  obtain ⟨hp, hd, hu, hle, hrep⟩ := id hA
  have hk7 := (hp.1 A.2.1 (by omega)).2
  have hk : pi A.2.1 < 8 := by omega
  have hD := hrep A.2.1 (by omega)
  have hR := hD.1
  have hL := hD.2.1.2.2.1
  have hn := hR.1
  obtain ⟨hw1, hw2, hw3⟩ := hR.2.2.2
  have hm := hD.2.1.1
  obtain ⟨l1, l2, l3⟩ := hD.2.1.2.2.2
  obtain ⟨g1, g2, g3, g4, g5, g6, g7, g8, g9, g10⟩ := gamk _ hk
  obtain ⟨p1, p2, p3, p4, p5, p6, p7, p8, p9⟩ := strk hS _ hk
  refine con_of_go mfX9_bookmarkTo.1 (Nat.le_of_ble_eq_true rfl) (Nat.le_of_ble_eq_true rfl) rfl (by decide) ?_
  show Go _ _ _ _ 0 [vA _, vI _] [] _ _
  refine go_aload_n (at_of tX9_bookmarkTo 0 0 rfl) rfl ?_
  refine go_iload_n (at_of tX9_bookmarkTo 0 1 rfl) rfl ?_
  exact go_tV (i := 4) (th_SetB4 hS hA h1 h2) lk_X9_312 rfl G_0 (at_of tX9_bookmarkTo 0 2 rfl) rfl rfl (by decide) rfl (Nat.le_of_ble_eq_true rfl) rfl ⟨by decide, by decide⟩
theorem ok_Field (hS : Str σ.2.1) {f : Int} (h : 0 ≤ f ∧ f < σ.1 92 3) : Con 2 mX9_checkField 0 0 [vA 0, vI f] σ (vT 8 0, σ) := by
  refine con_of_go mfX9_checkField.1 trivial (Nat.le_of_ble_eq_true rfl) rfl (by decide) ?_
  show Go _ _ _ _ 0 [vA _, vI _] [] _ _
  refine go_aload_n (at_of tX9_checkField 0 0 rfl) rfl ?_
  refine go_getr (q := 92) fl_X9_44 rfl G_0 ((hS _ _ rfl).trans rfl) (at_of tX9_checkField 0 1 rfl) ?_
  refine go_iload_n (at_of tX9_checkField 0 2 rfl) rfl ?_
  refine go_cV (con_hasF hS) lk_X9_427 rfl G_92 (at_of tX9_checkField 0 3 rfl) rfl (by decide) rfl (Nat.le_of_ble_eq_true rfl) rfl (by first | decide | exact ⟨Nat.zero_le _, Nat.zero_le _⟩) ?_
  refine go_if_ne (tgt := 22) (at_of tX9_checkField 0 4 rfl) (by decide) (fun h8 => ?_) (fun h8 => ?_)
  rotate_left
  · exfalso; exact bI_0.mp h8 h
  exact go_retv (at_of tX9_checkField 0 10 rfl) rfl
theorem th_Field (hS : Str σ.2.1) {f : Int} (h : ¬ (0 ≤ f ∧ f < σ.1 92 3)) : Con 2 mX9_checkField 1 6 [vA 0, vI f] σ (vT 20 0, σ) := by
  refine con_of_go mfX9_checkField.1 (Nat.le_of_ble_eq_true rfl) (Nat.le_of_ble_eq_true rfl) rfl (by decide) ?_
  show Go _ _ _ _ 0 [vA _, vI _] [] _ _
  refine go_aload_n (at_of tX9_checkField 0 0 rfl) rfl ?_
  refine go_getr (q := 92) fl_X9_44 rfl G_0 ((hS _ _ rfl).trans rfl) (at_of tX9_checkField 0 1 rfl) ?_
  refine go_iload_n (at_of tX9_checkField 0 2 rfl) rfl ?_
  refine go_cV (con_hasF hS) lk_X9_427 rfl G_92 (at_of tX9_checkField 0 3 rfl) rfl (by decide) rfl (Nat.le_of_ble_eq_true rfl) rfl (by first | decide | exact ⟨Nat.zero_le _, Nat.zero_le _⟩) ?_
  refine go_if_ne (tgt := 22) (at_of tX9_checkField 0 4 rfl) (by decide) (fun h8 => ?_) (fun h8 => ?_)
  · exfalso; exact h (bI_1.mp h8)
  exact go_throw (i := 0) (Or.inr ⟨163, 428, 167, _, (at_of tX9_checkField 0 5 rfl), (at_of tX9_checkField 0 6 rfl), (at_of tX9_checkField 0 7 rfl), (at_of tX9_checkField 0 8 rfl), (at_of tX9_checkField 0 9 rfl), cl_X9_163, List.mem_of_getElem? (i := 28) rfl, inL 824 (by decide +kernel) (by decide +kernel)⟩) (by decide) rfl (Nat.le_of_ble_eq_true rfl) ⟨by decide, by decide⟩ rfl
theorem ok_lock (hS : Str σ.2.1) {f z : Int} (h : 0 ≤ f ∧ f < σ.1 92 3) (h20 : σ.1 92 3 ≤ 20) (hz : z = 0 ∨ z = 1) : Con 3 mX9_lock 0 0 [vA 0, vI f, vI z] σ (vI (bI (σ.1 95 f.toNat ≠ 0)), M1 σ 95 f z) := by
  refine con_of_go mfX9_lock.1 bI_01 (Nat.le_of_ble_eq_true rfl) rfl (by decide) ?_
  show Go _ _ _ _ 0 [vA _, vI _, vI _] [] _ _
  refine go_aload_n (at_of tX9_lock 0 0 rfl) rfl ?_
  refine go_iload_n (at_of tX9_lock 0 1 rfl) rfl ?_
  refine go_cV (ok_Field hS h) lk_X9_321 rfl G_0 (at_of tX9_lock 0 2 rfl) rfl (by decide) rfl (Nat.le_of_ble_eq_true rfl) rfl (by first | decide | exact ⟨Nat.zero_le _, Nat.zero_le _⟩) ?_
  refine go_aload_n (at_of tX9_lock 0 3 rfl) rfl ?_
  refine go_getr (q := 92) fl_X9_44 rfl G_0 ((hS _ _ rfl).trans rfl) (at_of tX9_lock 0 4 rfl) ?_
  refine go_iload_n (at_of tX9_lock 0 5 rfl) rfl ?_
  refine go_iload_n (at_of tX9_lock 0 6 rfl) rfl ?_
  refine go_cV (con_swapLocked hS (by omega) hz) lk_X9_324 rfl G_92 (at_of tX9_lock 0 7 rfl) rfl (by decide) rfl (Nat.le_of_ble_eq_true rfl) rfl (by first | decide | exact ⟨Nat.zero_le _, Nat.zero_le _⟩) ?_
  first | exact go_reti (at_of tX9_lock 0 8 rfl) rfl | exact go_reti (at_of tX9_lock 0 8 rfl) (le_i (by omega)) | exact go_reti (at_of tX9_lock 0 8 rfl) (le_i (by first | exact bI_t (by omega) | exact bI_f (by omega)))
theorem th0_lock (hS : Str σ.2.1) {f z : Int} (h : ¬ (0 ≤ f ∧ f < σ.1 92 3)) : Con 3 mX9_lock 1 6 [vA 0, vI f, vI z] σ (vT 20 0, σ) := by
  refine con_of_go mfX9_lock.1 (Nat.le_of_ble_eq_true rfl) (Nat.le_of_ble_eq_true rfl) rfl (by decide) ?_
  show Go _ _ _ _ 0 [vA _, vI _, vI _] [] _ _
  refine go_aload_n (at_of tX9_lock 0 0 rfl) rfl ?_
  refine go_iload_n (at_of tX9_lock 0 1 rfl) rfl ?_
  exact go_tV (i := 0) (th_Field hS h) lk_X9_321 rfl G_0 (at_of tX9_lock 0 2 rfl) rfl rfl (by decide) rfl (Nat.le_of_ble_eq_true rfl) rfl ⟨by decide, by decide⟩
theorem ok_result (hS : Str σ.2.1) {pi : Nat → Nat} {A : PastD} (hA : PastR σ pi A) {f : Int} (h : 0 ≤ f ∧ f < σ.1 92 3) (h20 : σ.1 92 3 ≤ 20) : Con 3 mX9_result 0 0 [vA 0, vI f] σ (vI ((A.1 A.2.1).2.2 f), σ) := by
  obtain ⟨hp, hd, hu, hle, hrep⟩ := id hA
  have hk7 := (hp.1 A.2.1 (by omega)).2
  have hk : pi A.2.1 < 8 := by omega
  have hD := hrep A.2.1 (by omega)
  have hR := hD.1
  have hL := hD.2.1.2.2.1
  have hn := hR.1
  obtain ⟨hw1, hw2, hw3⟩ := hR.2.2.2
  have hm := hD.2.1.1
  obtain ⟨l1, l2, l3⟩ := hD.2.1.2.2.2
  obtain ⟨g1, g2, g3, g4, g5, g6, g7, g8, g9, g10⟩ := gamk _ hk
  obtain ⟨p1, p2, p3, p4, p5, p6, p7, p8, p9⟩ := strk hS _ hk
  refine con_of_go mfX9_result.1 trivial (Nat.le_of_ble_eq_true rfl) rfl (by decide) ?_
  show Go _ _ _ _ 0 [vA _, vI _] [] _ _
  refine go_aload_n (at_of tX9_result 0 0 rfl) rfl ?_
  refine go_iload_n (at_of tX9_result 0 1 rfl) rfl ?_
  refine go_cV (ok_Field hS h) lk_X9_321 rfl G_0 (at_of tX9_result 0 2 rfl) rfl (by decide) rfl (Nat.le_of_ble_eq_true rfl) rfl (by first | decide | exact ⟨Nat.zero_le _, Nat.zero_le _⟩) ?_
  refine go_aload_n (at_of tX9_result 0 3 rfl) rfl ?_
  refine go_getr (q := 1) fl_X9_16 rfl G_0 ((hS _ _ rfl).trans rfl) (at_of tX9_result 0 4 rfl) ?_
  refine go_cV (con_now hS hA) lk_X9_114 rfl g1_ (at_of tX9_result 0 5 rfl) rfl (by decide) rfl (Nat.le_of_ble_eq_true rfl) rfl (by first | decide | exact ⟨Nat.zero_le _, Nat.zero_le _⟩) ?_
  refine go_iload_n (at_of tX9_result 0 6 rfl) rfl ?_
  refine go_cV (p_found hS hk hD (by omega)) lk_X9_327 rfl g1 (at_of tX9_result 0 7 rfl) rfl (by decide) rfl (Nat.le_of_ble_eq_true rfl) rfl (by first | decide | exact ⟨Nat.zero_le _, Nat.zero_le _⟩) ?_
  first | exact go_reti (at_of tX9_result 0 8 rfl) rfl | exact go_reti (at_of tX9_result 0 8 rfl) (le_i (by omega)) | exact go_reti (at_of tX9_result 0 8 rfl) (le_i (by first | exact bI_t (by omega) | exact bI_f (by omega)))
theorem th0_result (hS : Str σ.2.1) {pi : Nat → Nat} {A : PastD} (hA : PastR σ pi A) {f : Int} (h : ¬ (0 ≤ f ∧ f < σ.1 92 3)) : Con 3 mX9_result 1 6 [vA 0, vI f] σ (vT 20 0, σ) := by
  obtain ⟨hp, hd, hu, hle, hrep⟩ := id hA
  have hk7 := (hp.1 A.2.1 (by omega)).2
  have hk : pi A.2.1 < 8 := by omega
  have hD := hrep A.2.1 (by omega)
  have hR := hD.1
  have hL := hD.2.1.2.2.1
  have hn := hR.1
  obtain ⟨hw1, hw2, hw3⟩ := hR.2.2.2
  have hm := hD.2.1.1
  obtain ⟨l1, l2, l3⟩ := hD.2.1.2.2.2
  obtain ⟨g1, g2, g3, g4, g5, g6, g7, g8, g9, g10⟩ := gamk _ hk
  obtain ⟨p1, p2, p3, p4, p5, p6, p7, p8, p9⟩ := strk hS _ hk
  refine con_of_go mfX9_result.1 (Nat.le_of_ble_eq_true rfl) (Nat.le_of_ble_eq_true rfl) rfl (by decide) ?_
  show Go _ _ _ _ 0 [vA _, vI _] [] _ _
  refine go_aload_n (at_of tX9_result 0 0 rfl) rfl ?_
  refine go_iload_n (at_of tX9_result 0 1 rfl) rfl ?_
  exact go_tV (i := 0) (th_Field hS h) lk_X9_321 rfl G_0 (at_of tX9_result 0 2 rfl) rfl rfl (by decide) rfl (Nat.le_of_ble_eq_true rfl) rfl ⟨by decide, by decide⟩
theorem th1_setRecord (hS : Str σ.2.1) {r c z : Int} (h : ¬ (0 ≤ r ∧ r < 5 ∧ 0 ≤ c ∧ c < 3 ∧ 0 ≤ z ∧ z ≤ 9999)) : Con 3 mX9_setRecord 1 6 [vA 0, vI r, vI c, vI z] σ (vT 21 0, σ) := by
  by_cases hr : 0 ≤ r ∧ r < 5
  · by_cases hc : 0 ≤ c ∧ c < 3
    · by_cases hz : z < 0
      · skip
        refine con_of_go mfX9_setRecord.1 (Nat.le_of_ble_eq_true rfl) (Nat.le_of_ble_eq_true rfl) rfl (by decide) ?_
        show Go _ _ _ _ 0 [vA _, vI _, vI _, vI _] [] _ _
        refine go_iload_n (at_of tX9_setRecord 0 0 rfl) rfl ?_
        refine go_iconst (at_of tX9_setRecord 0 1 rfl) (by unfold in32; omega) ?_
        refine go_cS (con_isWithin) lk_X9_270 rfl (at_of tX9_setRecord 0 2 rfl) rfl (by decide) rfl (Nat.le_of_ble_eq_true rfl) rfl (by first | decide | exact ⟨Nat.zero_le _, Nat.zero_le _⟩) ?_
        refine go_if_eq (tgt := 27) (at_of tX9_setRecord 0 3 rfl) (by decide) (fun h5 => ?_) (fun h5 => ?_)
        · exfalso; exact bI_0.mp h5 hr
        refine go_iload_n (at_of tX9_setRecord 0 4 rfl) rfl ?_
        refine go_iconst (at_of tX9_setRecord 0 5 rfl) (by unfold in32; omega) ?_
        refine go_cS (con_isWithin) lk_X9_270 rfl (at_of tX9_setRecord 0 6 rfl) rfl (by decide) rfl (Nat.le_of_ble_eq_true rfl) rfl (by first | decide | exact ⟨Nat.zero_le _, Nat.zero_le _⟩) ?_
        refine go_if_eq (tgt := 27) (at_of tX9_setRecord 0 7 rfl) (by decide) (fun h13 => ?_) (fun h13 => ?_)
        · exfalso; exact bI_0.mp h13 hc
        refine go_iload_n (at_of tX9_setRecord 0 8 rfl) rfl ?_
        refine go_if_lt (tgt := 27) (at_of tX9_setRecord 0 9 rfl) (by decide) (fun h17 => ?_) (fun h17 => ?_)
        rotate_left
        · exfalso; omega
        exact go_throw (i := 1) (Or.inr ⟨78, 336, 82, _, (at_of tX9_setRecord 0 13 rfl), (at_of tX9_setRecord 0 14 rfl), (at_of tX9_setRecord 0 15 rfl), (at_of tX9_setRecord 1 0 rfl), (at_of tX9_setRecord 1 1 rfl), cl_X9_78, List.mem_of_getElem? (i := 29) rfl, inL 845 (by decide +kernel) (by decide +kernel)⟩) (by decide) rfl (Nat.le_of_ble_eq_true rfl) ⟨by decide, by decide⟩ rfl
      · skip
        refine con_of_go mfX9_setRecord.1 (Nat.le_of_ble_eq_true rfl) (Nat.le_of_ble_eq_true rfl) rfl (by decide) ?_
        show Go _ _ _ _ 0 [vA _, vI _, vI _, vI _] [] _ _
        refine go_iload_n (at_of tX9_setRecord 0 0 rfl) rfl ?_
        refine go_iconst (at_of tX9_setRecord 0 1 rfl) (by unfold in32; omega) ?_
        refine go_cS (con_isWithin) lk_X9_270 rfl (at_of tX9_setRecord 0 2 rfl) rfl (by decide) rfl (Nat.le_of_ble_eq_true rfl) rfl (by first | decide | exact ⟨Nat.zero_le _, Nat.zero_le _⟩) ?_
        refine go_if_eq (tgt := 27) (at_of tX9_setRecord 0 3 rfl) (by decide) (fun h5 => ?_) (fun h5 => ?_)
        · exfalso; exact bI_0.mp h5 hr
        refine go_iload_n (at_of tX9_setRecord 0 4 rfl) rfl ?_
        refine go_iconst (at_of tX9_setRecord 0 5 rfl) (by unfold in32; omega) ?_
        refine go_cS (con_isWithin) lk_X9_270 rfl (at_of tX9_setRecord 0 6 rfl) rfl (by decide) rfl (Nat.le_of_ble_eq_true rfl) rfl (by first | decide | exact ⟨Nat.zero_le _, Nat.zero_le _⟩) ?_
        refine go_if_eq (tgt := 27) (at_of tX9_setRecord 0 7 rfl) (by decide) (fun h13 => ?_) (fun h13 => ?_)
        · exfalso; exact bI_0.mp h13 hc
        refine go_iload_n (at_of tX9_setRecord 0 8 rfl) rfl ?_
        refine go_if_lt (tgt := 27) (at_of tX9_setRecord 0 9 rfl) (by decide) (fun h17 => ?_) (fun h17 => ?_)
        · exfalso; omega
        refine go_iload_n (at_of tX9_setRecord 0 10 rfl) rfl ?_
        refine go_sipush (at_of tX9_setRecord 0 11 rfl) (by decide) ?_
        refine go_icmp_le (tgt := 38) (at_of tX9_setRecord 0 12 rfl) (by decide) (fun h24 => ?_) (fun h24 => ?_)
        · exfalso; omega
        exact go_throw (i := 1) (Or.inr ⟨78, 336, 82, _, (at_of tX9_setRecord 0 13 rfl), (at_of tX9_setRecord 0 14 rfl), (at_of tX9_setRecord 0 15 rfl), (at_of tX9_setRecord 1 0 rfl), (at_of tX9_setRecord 1 1 rfl), cl_X9_78, List.mem_of_getElem? (i := 29) rfl, inL 845 (by decide +kernel) (by decide +kernel)⟩) (by decide) rfl (Nat.le_of_ble_eq_true rfl) ⟨by decide, by decide⟩ rfl
    · skip
      refine con_of_go mfX9_setRecord.1 (Nat.le_of_ble_eq_true rfl) (Nat.le_of_ble_eq_true rfl) rfl (by decide) ?_
      show Go _ _ _ _ 0 [vA _, vI _, vI _, vI _] [] _ _
      refine go_iload_n (at_of tX9_setRecord 0 0 rfl) rfl ?_
      refine go_iconst (at_of tX9_setRecord 0 1 rfl) (by unfold in32; omega) ?_
      refine go_cS (con_isWithin) lk_X9_270 rfl (at_of tX9_setRecord 0 2 rfl) rfl (by decide) rfl (Nat.le_of_ble_eq_true rfl) rfl (by first | decide | exact ⟨Nat.zero_le _, Nat.zero_le _⟩) ?_
      refine go_if_eq (tgt := 27) (at_of tX9_setRecord 0 3 rfl) (by decide) (fun h5 => ?_) (fun h5 => ?_)
      · exfalso; exact bI_0.mp h5 hr
      refine go_iload_n (at_of tX9_setRecord 0 4 rfl) rfl ?_
      refine go_iconst (at_of tX9_setRecord 0 5 rfl) (by unfold in32; omega) ?_
      refine go_cS (con_isWithin) lk_X9_270 rfl (at_of tX9_setRecord 0 6 rfl) rfl (by decide) rfl (Nat.le_of_ble_eq_true rfl) rfl (by first | decide | exact ⟨Nat.zero_le _, Nat.zero_le _⟩) ?_
      refine go_if_eq (tgt := 27) (at_of tX9_setRecord 0 7 rfl) (by decide) (fun h13 => ?_) (fun h13 => ?_)
      rotate_left
      · exfalso; exact hc (bI_1.mp h13)
      exact go_throw (i := 1) (Or.inr ⟨78, 336, 82, _, (at_of tX9_setRecord 0 13 rfl), (at_of tX9_setRecord 0 14 rfl), (at_of tX9_setRecord 0 15 rfl), (at_of tX9_setRecord 1 0 rfl), (at_of tX9_setRecord 1 1 rfl), cl_X9_78, List.mem_of_getElem? (i := 29) rfl, inL 845 (by decide +kernel) (by decide +kernel)⟩) (by decide) rfl (Nat.le_of_ble_eq_true rfl) ⟨by decide, by decide⟩ rfl
  · skip
    refine con_of_go mfX9_setRecord.1 (Nat.le_of_ble_eq_true rfl) (Nat.le_of_ble_eq_true rfl) rfl (by decide) ?_
    show Go _ _ _ _ 0 [vA _, vI _, vI _, vI _] [] _ _
    refine go_iload_n (at_of tX9_setRecord 0 0 rfl) rfl ?_
    refine go_iconst (at_of tX9_setRecord 0 1 rfl) (by unfold in32; omega) ?_
    refine go_cS (con_isWithin) lk_X9_270 rfl (at_of tX9_setRecord 0 2 rfl) rfl (by decide) rfl (Nat.le_of_ble_eq_true rfl) rfl (by first | decide | exact ⟨Nat.zero_le _, Nat.zero_le _⟩) ?_
    refine go_if_eq (tgt := 27) (at_of tX9_setRecord 0 3 rfl) (by decide) (fun h5 => ?_) (fun h5 => ?_)
    rotate_left
    · exfalso; exact hr (bI_1.mp h5)
    exact go_throw (i := 1) (Or.inr ⟨78, 336, 82, _, (at_of tX9_setRecord 0 13 rfl), (at_of tX9_setRecord 0 14 rfl), (at_of tX9_setRecord 0 15 rfl), (at_of tX9_setRecord 1 0 rfl), (at_of tX9_setRecord 1 1 rfl), cl_X9_78, List.mem_of_getElem? (i := 29) rfl, inL 845 (by decide +kernel) (by decide +kernel)⟩) (by decide) rfl (Nat.le_of_ble_eq_true rfl) ⟨by decide, by decide⟩ rfl
theorem ok_setRecord (hS : Str σ.2.1) {r c z : Int} (hr : 0 ≤ r ∧ r < 5) (hc : 0 ≤ c ∧ c < 3) (hz : 0 ≤ z ∧ z ≤ 9999) : Con 3 mX9_setRecord 0 0 [vA 0, vI r, vI c, vI z] σ (vI (σ.1 97 (r * 3 + c).toNat), M1 σ 97 (r * 3 + c) z) := by
  refine con_of_go mfX9_setRecord.1 trivial (Nat.le_of_ble_eq_true rfl) rfl (by decide) ?_
  show Go _ _ _ _ 0 [vA _, vI _, vI _, vI _] [] _ _
  refine go_iload_n (at_of tX9_setRecord 0 0 rfl) rfl ?_
  refine go_iconst (at_of tX9_setRecord 0 1 rfl) (by unfold in32; omega) ?_
  refine go_cS (con_isWithin) lk_X9_270 rfl (at_of tX9_setRecord 0 2 rfl) rfl (by decide) rfl (Nat.le_of_ble_eq_true rfl) rfl (by first | decide | exact ⟨Nat.zero_le _, Nat.zero_le _⟩) ?_
  refine go_if_eq (tgt := 27) (at_of tX9_setRecord 0 3 rfl) (by decide) (fun h5 => ?_) (fun h5 => ?_)
  · exfalso; exact bI_0.mp h5 hr
  refine go_iload_n (at_of tX9_setRecord 0 4 rfl) rfl ?_
  refine go_iconst (at_of tX9_setRecord 0 5 rfl) (by unfold in32; omega) ?_
  refine go_cS (con_isWithin) lk_X9_270 rfl (at_of tX9_setRecord 0 6 rfl) rfl (by decide) rfl (Nat.le_of_ble_eq_true rfl) rfl (by first | decide | exact ⟨Nat.zero_le _, Nat.zero_le _⟩) ?_
  refine go_if_eq (tgt := 27) (at_of tX9_setRecord 0 7 rfl) (by decide) (fun h13 => ?_) (fun h13 => ?_)
  · exfalso; exact bI_0.mp h13 hc
  refine go_iload_n (at_of tX9_setRecord 0 8 rfl) rfl ?_
  refine go_if_lt (tgt := 27) (at_of tX9_setRecord 0 9 rfl) (by decide) (fun h17 => ?_) (fun h17 => ?_)
  · exfalso; omega
  refine go_iload_n (at_of tX9_setRecord 0 10 rfl) rfl ?_
  refine go_sipush (at_of tX9_setRecord 0 11 rfl) (by decide) ?_
  refine go_icmp_le (tgt := 38) (at_of tX9_setRecord 0 12 rfl) (by decide) (fun h24 => ?_) (fun h24 => ?_)
  rotate_left
  · exfalso; omega
  refine go_aload_n (at_of tX9_setRecord 1 2 rfl) rfl ?_
  refine go_getr (q := 96) fl_X9_51 rfl G_0 ((hS _ _ rfl).trans rfl) (at_of tX9_setRecord 1 3 rfl) ?_
  refine go_iload_n (at_of tX9_setRecord 1 4 rfl) rfl ?_
  refine go_iload_n (at_of tX9_setRecord 1 5 rfl) rfl ?_
  refine go_iload_n (at_of tX9_setRecord 1 6 rfl) rfl ?_
  refine go_cV (con_swapR hS hr hc) lk_X9_338 rfl G_96 (at_of tX9_setRecord 1 7 rfl) rfl (by decide) rfl (Nat.le_of_ble_eq_true rfl) rfl (by first | decide | exact ⟨Nat.zero_le _, Nat.zero_le _⟩) ?_
  first | exact go_reti (at_of tX9_setRecord 1 8 rfl) rfl | exact go_reti (at_of tX9_setRecord 1 8 rfl) (le_i (by omega)) | exact go_reti (at_of tX9_setRecord 1 8 rfl) (le_i (by first | exact bI_t (by omega) | exact bI_f (by omega)))
theorem th1_choose (hS : Str σ.2.1) {r : Int} (h : ¬ (0 ≤ r ∧ r < 5)) : Con 1 mX9_choose 1 6 [vA 0, vI r] σ (vT 21 0, σ) := by
  refine con_of_go mfX9_choose.1 (Nat.le_of_ble_eq_true rfl) (Nat.le_of_ble_eq_true rfl) rfl (by decide) ?_
  show Go _ _ _ _ 0 [vA _, vI _] [] _ _
  refine go_iload_n (at_of tX9_choose 0 0 rfl) rfl ?_
  refine go_iconst (at_of tX9_choose 0 1 rfl) (by unfold in32; omega) ?_
  refine go_cS (con_isWithin) lk_X9_270 rfl (at_of tX9_choose 0 2 rfl) rfl (by decide) rfl (Nat.le_of_ble_eq_true rfl) rfl (by first | decide | exact ⟨Nat.zero_le _, Nat.zero_le _⟩) ?_
  refine go_if_ne (tgt := 19) (at_of tX9_choose 0 3 rfl) (by decide) (fun h5 => ?_) (fun h5 => ?_)
  · exfalso; exact h (bI_1.mp h5)
  exact go_throw (i := 1) (Or.inr ⟨78, 341, 82, _, (at_of tX9_choose 0 4 rfl), (at_of tX9_choose 0 5 rfl), (at_of tX9_choose 0 6 rfl), (at_of tX9_choose 0 7 rfl), (at_of tX9_choose 0 8 rfl), cl_X9_78, List.mem_of_getElem? (i := 30) rfl, inL 845 (by decide +kernel) (by decide +kernel)⟩) (by decide) rfl (Nat.le_of_ble_eq_true rfl) ⟨by decide, by decide⟩ rfl
theorem ok_choose (hS : Str σ.2.1) {r : Int} (h : 0 ≤ r ∧ r < 5) : Con 1 mX9_choose 0 0 [vA 0, vI r] σ (vI (σ.1 96 1), P1 σ 96 1 r) := by
  refine con_of_go mfX9_choose.1 trivial (Nat.le_of_ble_eq_true rfl) rfl (by decide) ?_
  show Go _ _ _ _ 0 [vA _, vI _] [] _ _
  refine go_iload_n (at_of tX9_choose 0 0 rfl) rfl ?_
  refine go_iconst (at_of tX9_choose 0 1 rfl) (by unfold in32; omega) ?_
  refine go_cS (con_isWithin) lk_X9_270 rfl (at_of tX9_choose 0 2 rfl) rfl (by decide) rfl (Nat.le_of_ble_eq_true rfl) rfl (by first | decide | exact ⟨Nat.zero_le _, Nat.zero_le _⟩) ?_
  refine go_if_ne (tgt := 19) (at_of tX9_choose 0 3 rfl) (by decide) (fun h5 => ?_) (fun h5 => ?_)
  rotate_left
  · exfalso; exact bI_0.mp h5 h
  refine go_aload_n (at_of tX9_choose 0 9 rfl) rfl ?_
  refine go_getr (q := 96) fl_X9_51 rfl G_0 ((hS _ _ rfl).trans rfl) (at_of tX9_choose 0 10 rfl) ?_
  refine go_iload_n (at_of tX9_choose 0 11 rfl) rfl ?_
  refine go_cV (con_swapChosen hS) lk_X9_343 rfl G_96 (at_of tX9_choose 0 12 rfl) rfl (by decide) rfl (Nat.le_of_ble_eq_true rfl) rfl (by first | decide | exact ⟨Nat.zero_le _, Nat.zero_le _⟩) ?_
  first | exact go_reti (at_of tX9_choose 0 13 rfl) rfl | exact go_reti (at_of tX9_choose 0 13 rfl) (le_i (by omega)) | exact go_reti (at_of tX9_choose 0 13 rfl) (le_i (by first | exact bI_t (by omega) | exact bI_f (by omega)))
theorem th1_setPage (hS : Str σ.2.1) {w z : Int} (h : ¬ (5 ≤ w ∧ w ≤ 60 ∧ 2 ≤ z ∧ z ≤ 40)) : Con 1 mX9_setPage 1 6 [vA 0, vI w, vI z] σ (vT 21 0, σ) := by
  by_cases h1 : w < 5
  · skip
    refine con_of_go mfX9_setPage.1 (Nat.le_of_ble_eq_true rfl) (Nat.le_of_ble_eq_true rfl) rfl (by decide) ?_
    show Go _ _ _ _ 0 [vA _, vI _, vI _] [] _ _
    refine go_iload_n (at_of tX9_setPage 0 0 rfl) rfl ?_
    refine go_iconst (at_of tX9_setPage 0 1 rfl) (by unfold in32; omega) ?_
    refine go_icmp_lt (tgt := 22) (at_of tX9_setPage 0 2 rfl) (by decide) (fun h2 => ?_) (fun h2 => ?_)
    rotate_left
    · exfalso; omega
    exact go_throw (i := 1) (Or.inr ⟨78, 336, 82, _, (at_of tX9_setPage 0 12 rfl), (at_of tX9_setPage 0 13 rfl), (at_of tX9_setPage 0 14 rfl), (at_of tX9_setPage 0 15 rfl), (at_of tX9_setPage 1 0 rfl), cl_X9_78, List.mem_of_getElem? (i := 29) rfl, inL 845 (by decide +kernel) (by decide +kernel)⟩) (by decide) rfl (Nat.le_of_ble_eq_true rfl) ⟨by decide, by decide⟩ rfl
  · by_cases h2 : 60 < w
    · skip
      refine con_of_go mfX9_setPage.1 (Nat.le_of_ble_eq_true rfl) (Nat.le_of_ble_eq_true rfl) rfl (by decide) ?_
      show Go _ _ _ _ 0 [vA _, vI _, vI _] [] _ _
      refine go_iload_n (at_of tX9_setPage 0 0 rfl) rfl ?_
      refine go_iconst (at_of tX9_setPage 0 1 rfl) (by unfold in32; omega) ?_
      refine go_icmp_lt (tgt := 22) (at_of tX9_setPage 0 2 rfl) (by decide) (fun h2 => ?_) (fun h2 => ?_)
      · exfalso; omega
      refine go_iload_n (at_of tX9_setPage 0 3 rfl) rfl ?_
      refine go_bipush (at_of tX9_setPage 0 4 rfl) (by decide) ?_
      refine go_icmp_gt (tgt := 22) (at_of tX9_setPage 0 5 rfl) (by decide) (fun h8 => ?_) (fun h8 => ?_)
      rotate_left
      · exfalso; omega
      exact go_throw (i := 1) (Or.inr ⟨78, 336, 82, _, (at_of tX9_setPage 0 12 rfl), (at_of tX9_setPage 0 13 rfl), (at_of tX9_setPage 0 14 rfl), (at_of tX9_setPage 0 15 rfl), (at_of tX9_setPage 1 0 rfl), cl_X9_78, List.mem_of_getElem? (i := 29) rfl, inL 845 (by decide +kernel) (by decide +kernel)⟩) (by decide) rfl (Nat.le_of_ble_eq_true rfl) ⟨by decide, by decide⟩ rfl
    · by_cases h3 : z < 2
      · skip
        refine con_of_go mfX9_setPage.1 (Nat.le_of_ble_eq_true rfl) (Nat.le_of_ble_eq_true rfl) rfl (by decide) ?_
        show Go _ _ _ _ 0 [vA _, vI _, vI _] [] _ _
        refine go_iload_n (at_of tX9_setPage 0 0 rfl) rfl ?_
        refine go_iconst (at_of tX9_setPage 0 1 rfl) (by unfold in32; omega) ?_
        refine go_icmp_lt (tgt := 22) (at_of tX9_setPage 0 2 rfl) (by decide) (fun h2 => ?_) (fun h2 => ?_)
        · exfalso; omega
        refine go_iload_n (at_of tX9_setPage 0 3 rfl) rfl ?_
        refine go_bipush (at_of tX9_setPage 0 4 rfl) (by decide) ?_
        refine go_icmp_gt (tgt := 22) (at_of tX9_setPage 0 5 rfl) (by decide) (fun h8 => ?_) (fun h8 => ?_)
        · exfalso; omega
        refine go_iload_n (at_of tX9_setPage 0 6 rfl) rfl ?_
        refine go_iconst (at_of tX9_setPage 0 7 rfl) (by unfold in32; omega) ?_
        refine go_icmp_lt (tgt := 22) (at_of tX9_setPage 0 8 rfl) (by decide) (fun h13 => ?_) (fun h13 => ?_)
        rotate_left
        · exfalso; omega
        exact go_throw (i := 1) (Or.inr ⟨78, 336, 82, _, (at_of tX9_setPage 0 12 rfl), (at_of tX9_setPage 0 13 rfl), (at_of tX9_setPage 0 14 rfl), (at_of tX9_setPage 0 15 rfl), (at_of tX9_setPage 1 0 rfl), cl_X9_78, List.mem_of_getElem? (i := 29) rfl, inL 845 (by decide +kernel) (by decide +kernel)⟩) (by decide) rfl (Nat.le_of_ble_eq_true rfl) ⟨by decide, by decide⟩ rfl
      · skip
        refine con_of_go mfX9_setPage.1 (Nat.le_of_ble_eq_true rfl) (Nat.le_of_ble_eq_true rfl) rfl (by decide) ?_
        show Go _ _ _ _ 0 [vA _, vI _, vI _] [] _ _
        refine go_iload_n (at_of tX9_setPage 0 0 rfl) rfl ?_
        refine go_iconst (at_of tX9_setPage 0 1 rfl) (by unfold in32; omega) ?_
        refine go_icmp_lt (tgt := 22) (at_of tX9_setPage 0 2 rfl) (by decide) (fun h2 => ?_) (fun h2 => ?_)
        · exfalso; omega
        refine go_iload_n (at_of tX9_setPage 0 3 rfl) rfl ?_
        refine go_bipush (at_of tX9_setPage 0 4 rfl) (by decide) ?_
        refine go_icmp_gt (tgt := 22) (at_of tX9_setPage 0 5 rfl) (by decide) (fun h8 => ?_) (fun h8 => ?_)
        · exfalso; omega
        refine go_iload_n (at_of tX9_setPage 0 6 rfl) rfl ?_
        refine go_iconst (at_of tX9_setPage 0 7 rfl) (by unfold in32; omega) ?_
        refine go_icmp_lt (tgt := 22) (at_of tX9_setPage 0 8 rfl) (by decide) (fun h13 => ?_) (fun h13 => ?_)
        · exfalso; omega
        refine go_iload_n (at_of tX9_setPage 0 9 rfl) rfl ?_
        refine go_bipush (at_of tX9_setPage 0 10 rfl) (by decide) ?_
        refine go_icmp_le (tgt := 33) (at_of tX9_setPage 0 11 rfl) (by decide) (fun h19 => ?_) (fun h19 => ?_)
        · exfalso; omega
        exact go_throw (i := 1) (Or.inr ⟨78, 336, 82, _, (at_of tX9_setPage 0 12 rfl), (at_of tX9_setPage 0 13 rfl), (at_of tX9_setPage 0 14 rfl), (at_of tX9_setPage 0 15 rfl), (at_of tX9_setPage 1 0 rfl), cl_X9_78, List.mem_of_getElem? (i := 29) rfl, inL 845 (by decide +kernel) (by decide +kernel)⟩) (by decide) rfl (Nat.le_of_ble_eq_true rfl) ⟨by decide, by decide⟩ rfl
theorem ok_setPage (hS : Str σ.2.1) (hW : WH σ) {w z : Int} (h : 5 ≤ w ∧ w ≤ 60 ∧ 2 ≤ z ∧ z ≤ 40) : Con 1 mX9_setPage 0 0 [vA 0, vI w, vI z] σ (vI (100 * σ.1 98 0 + σ.1 98 1), P1 (P1 σ 98 0 w) 98 1 z) := by
  refine con_of_go mfX9_setPage.1 trivial (Nat.le_of_ble_eq_true rfl) rfl (by decide) ?_
  show Go _ _ _ _ 0 [vA _, vI _, vI _] [] _ _
  refine go_iload_n (at_of tX9_setPage 0 0 rfl) rfl ?_
  refine go_iconst (at_of tX9_setPage 0 1 rfl) (by unfold in32; omega) ?_
  refine go_icmp_lt (tgt := 22) (at_of tX9_setPage 0 2 rfl) (by decide) (fun h2 => ?_) (fun h2 => ?_)
  · exfalso; omega
  refine go_iload_n (at_of tX9_setPage 0 3 rfl) rfl ?_
  refine go_bipush (at_of tX9_setPage 0 4 rfl) (by decide) ?_
  refine go_icmp_gt (tgt := 22) (at_of tX9_setPage 0 5 rfl) (by decide) (fun h8 => ?_) (fun h8 => ?_)
  · exfalso; omega
  refine go_iload_n (at_of tX9_setPage 0 6 rfl) rfl ?_
  refine go_iconst (at_of tX9_setPage 0 7 rfl) (by unfold in32; omega) ?_
  refine go_icmp_lt (tgt := 22) (at_of tX9_setPage 0 8 rfl) (by decide) (fun h13 => ?_) (fun h13 => ?_)
  · exfalso; omega
  refine go_iload_n (at_of tX9_setPage 0 9 rfl) rfl ?_
  refine go_bipush (at_of tX9_setPage 0 10 rfl) (by decide) ?_
  refine go_icmp_le (tgt := 33) (at_of tX9_setPage 0 11 rfl) (by decide) (fun h19 => ?_) (fun h19 => ?_)
  rotate_left
  · exfalso; omega
  refine go_aload_n (at_of tX9_setPage 1 1 rfl) rfl ?_
  refine go_getr (q := 98) fl_X9_58 rfl G_0 ((hS _ _ rfl).trans rfl) (at_of tX9_setPage 1 2 rfl) ?_
  refine go_iload_n (at_of tX9_setPage 1 3 rfl) rfl ?_
  refine go_iload_n (at_of tX9_setPage 1 4 rfl) rfl ?_
  refine go_cV (con_swapSize hS hW) lk_X9_363 rfl G_98 (at_of tX9_setPage 1 5 rfl) rfl (by decide) rfl (Nat.le_of_ble_eq_true rfl) rfl (by first | decide | exact ⟨Nat.zero_le _, Nat.zero_le _⟩) ?_
  first | exact go_reti (at_of tX9_setPage 1 6 rfl) rfl | exact go_reti (at_of tX9_setPage 1 6 rfl) (le_i (by omega)) | exact go_reti (at_of tX9_setPage 1 6 rfl) (le_i (by first | exact bI_t (by omega) | exact bI_f (by omega)))
end Asks
