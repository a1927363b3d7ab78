/-! What the office answers without a change of its papers. -/
section Asks
variable {σ : St}
theorem ok_setTracking (hS : Str σ.2.1) {pi : Nat → Nat} {A : PastD} (hA : PastR σ pi A) {z : Int} (hz : z = 0 ∨ z = 1) (h01 : σ.1 0 0 = 0 ∨ σ.1 0 0 = 1) : Con 0 mX9_setTracking 0 0 [vA 0, vI z] σ (vI (σ.1 0 0), P1 σ 0 0 z) := by
  refine con_of_go mfX9_setTracking.1 h01 (Nat.le_of_ble_eq_true rfl) rfl (by decide) ?_
  show Go _ _ _ _ 0 [vA _, vI _, vT 9 0] [] _ _
  refine go_aload_n (at_of tX9_setTracking 0 0 rfl) rfl ?_
  refine go_getf fl_X9_7 rfl G_0 (at_of tX9_setTracking 0 1 rfl) ?_
  refine go_istore_n (at_of tX9_setTracking 0 2 rfl) rfl rfl ?_
  refine go_aload_n (at_of tX9_setTracking 0 3 rfl) rfl ?_
  refine go_iload_n (at_of tX9_setTracking 0 4 rfl) rfl ?_
  refine go_put1 fp_X9_7 rfl (Or.inl rfl) G_0 (Or.inr hz) (at_of tX9_setTracking 0 5 rfl) ?_
  refine go_iload_n (at_of tX9_setTracking 0 6 rfl) rfl ?_
  first | exact go_reti (at_of tX9_setTracking 0 7 rfl) rfl | exact go_reti (at_of tX9_setTracking 0 7 rfl) (le_i (by omega)) | exact go_reti (at_of tX9_setTracking 0 7 rfl) (le_i (by first | exact bI_t (by omega) | exact bI_f (by omega)))
theorem ok_length (hS : Str σ.2.1) {pi : Nat → Nat} {A : PastD} (hA : PastR σ pi A) : Con 3 mX9_length 0 0 [vA 0] σ (vI (plOf (A.1 A.2.1).1.1 (A.1 A.2.1).1.2.1 (A.1 A.2.1).1.2.1), σ) := by
  obtain ⟨hp, hd, hu, hle, hrep⟩ := id hA
  have hk7 := (hp.1 A.2.1 (by omega)).2
  have hk : pi A.2.1 < 8 := by omega
  have hD := hrep A.2.1 (by omega)
  have hR := hD.1
  have hL := hD.2.1.2.2.1
  have hn := hR.1
  obtain ⟨hw1, hw2, hw3⟩ := hR.2.2.2
  have hm := hD.2.1.1
  obtain ⟨l1, l2, l3⟩ := hD.2.1.2.2.2
  obtain ⟨g1, g2, g3, g4, g5, g6, g7, g8, g9, g10⟩ := gamk _ hk
  obtain ⟨p1, p2, p3, p4, p5, p6, p7, p8, p9⟩ := strk hS _ hk
  refine con_of_go mfX9_length.1 trivial (Nat.le_of_ble_eq_true rfl) rfl (by decide) ?_
  show Go _ _ _ _ 0 [vA _] [] _ _
  refine go_aload_n (at_of tX9_length 0 0 rfl) rfl ?_
  refine go_getr (q := 1) fl_X9_16 rfl G_0 ((hS _ _ rfl).trans rfl) (at_of tX9_length 0 1 rfl) ?_
  refine go_cV (con_now hS hA) lk_X9_114 rfl g1_ (at_of tX9_length 0 2 rfl) rfl (by decide) rfl (Nat.le_of_ble_eq_true rfl) rfl (by first | decide | exact ⟨Nat.zero_le _, Nat.zero_le _⟩) ?_
  refine go_getr (q := (4 + 10 * pi A.2.1)) fl_X9_131 rfl g1 p1 (at_of tX9_length 0 3 rfl) ?_
  refine go_cV (r_seenUnits hS hk hR) lk_X9_205 rfl g2 (at_of tX9_length 0 4 rfl) rfl (by decide) rfl (Nat.le_of_ble_eq_true rfl) rfl (by first | decide | exact ⟨Nat.zero_le _, Nat.zero_le _⟩) ?_
  first | exact go_reti (at_of tX9_length 0 5 rfl) rfl | exact go_reti (at_of tX9_length 0 5 rfl) (le_i (by omega)) | exact go_reti (at_of tX9_length 0 5 rfl) (le_i (by first | exact bI_t (by omega) | exact bI_f (by omega)))
theorem ok_unitAt (hS : Str σ.2.1) {pi : Nat → Nat} {A : PastD} (hA : PastR σ pi A) {p : Int} (h2 : ixOf (A.1 A.2.1).1.1 (A.1 A.2.1).1.2.1 p ≠ -1) (h3 : ixOf (A.1 A.2.1).1.1 (A.1 A.2.1).1.2.1 p < (A.1 A.2.1).1.2.1) : Con 5 mX9_unitAt 0 0 [vA 0, vI p] σ (vI ((A.1 A.2.1).1.1 0 (ixOf (A.1 A.2.1).1.1 (A.1 A.2.1).1.2.1 p) % 65536), σ) := by
  obtain ⟨hp, hd, hu, hle, hrep⟩ := id hA
  have hk7 := (hp.1 A.2.1 (by omega)).2
  have hk : pi A.2.1 < 8 := by omega
  have hD := hrep A.2.1 (by omega)
  have hR := hD.1
  have hL := hD.2.1.2.2.1
  have hn := hR.1
  obtain ⟨hw1, hw2, hw3⟩ := hR.2.2.2
  have hm := hD.2.1.1
  obtain ⟨l1, l2, l3⟩ := hD.2.1.2.2.2
  obtain ⟨g1, g2, g3, g4, g5, g6, g7, g8, g9, g10⟩ := gamk _ hk
  obtain ⟨p1, p2, p3, p4, p5, p6, p7, p8, p9⟩ := strk hS _ hk
  have hix := ((@ixOf_le (A.1 A.2.1).1.1 (A.1 A.2.1).1.2.1 p hw1).resolve_left h2)
  refine con_of_go mfX9_unitAt.1 ⟨by omega, by omega⟩ (Nat.le_of_ble_eq_true rfl) rfl (by decide) ?_
  show Go _ _ _ _ 0 [vA _, vI _] [] _ _
  refine go_aload_n (at_of tX9_unitAt 0 0 rfl) rfl ?_
  refine go_getr (q := 1) fl_X9_16 rfl G_0 ((hS _ _ rfl).trans rfl) (at_of tX9_unitAt 0 1 rfl) ?_
  refine go_cV (con_now hS hA) lk_X9_114 rfl g1_ (at_of tX9_unitAt 0 2 rfl) rfl (by decide) rfl (Nat.le_of_ble_eq_true rfl) rfl (by first | decide | exact ⟨Nat.zero_le _, Nat.zero_le _⟩) ?_
  refine go_getr (q := (4 + 10 * pi A.2.1)) fl_X9_131 rfl g1 p1 (at_of tX9_unitAt 0 3 rfl) ?_
  refine go_iconst (at_of tX9_unitAt 0 4 rfl) (by unfold in32; omega) ?_
  refine go_aload_n (at_of tX9_unitAt 0 5 rfl) rfl ?_
  refine go_iload_n (at_of tX9_unitAt 0 6 rfl) rfl ?_
  refine go_cV (ok_Unit hS hA h2 h3) lk_X9_208 rfl G_0 (at_of tX9_unitAt 0 7 rfl) rfl (by decide) rfl (Nat.le_of_ble_eq_true rfl) rfl (by first | decide | exact ⟨Nat.zero_le _, Nat.zero_le _⟩) ?_
  refine go_cV (r_fact hS hk hR (by omega) (by omega)) lk_X9_168 rfl g2 (at_of tX9_unitAt 0 8 rfl) rfl (by decide) rfl (Nat.le_of_ble_eq_true rfl) rfl (by first | decide | exact ⟨Nat.zero_le _, Nat.zero_le _⟩) ?_
  refine go_i2c (at_of tX9_unitAt 0 9 rfl) ?_
  first | exact go_reti (at_of tX9_unitAt 0 10 rfl) rfl | exact go_reti (at_of tX9_unitAt 0 10 rfl) (le_i (by omega)) | exact go_reti (at_of tX9_unitAt 0 10 rfl) (le_i (by first | exact bI_t (by omega) | exact bI_f (by omega)))
theorem ok_oldLength (hS : Str σ.2.1) {pi : Nat → Nat} {A : PastD} (hA : PastR σ pi A) : Con 3 mX9_oldLength 0 0 [vA 0] σ (vI (oldN (A.1 A.2.1).1.1 (A.1 A.2.1).1.2.1), σ) := by
  obtain ⟨hp, hd, hu, hle, hrep⟩ := id hA
  have hk7 := (hp.1 A.2.1 (by omega)).2
  have hk : pi A.2.1 < 8 := by omega
  have hD := hrep A.2.1 (by omega)
  have hR := hD.1
  have hL := hD.2.1.2.2.1
  have hn := hR.1
  obtain ⟨hw1, hw2, hw3⟩ := hR.2.2.2
  have hm := hD.2.1.1
  obtain ⟨l1, l2, l3⟩ := hD.2.1.2.2.2
  obtain ⟨g1, g2, g3, g4, g5, g6, g7, g8, g9, g10⟩ := gamk _ hk
  obtain ⟨p1, p2, p3, p4, p5, p6, p7, p8, p9⟩ := strk hS _ hk
  refine con_of_go mfX9_oldLength.1 trivial (Nat.le_of_ble_eq_true rfl) rfl (by decide) ?_
  show Go _ _ _ _ 0 [vA _] [] _ _
  refine go_aload_n (at_of tX9_oldLength 0 0 rfl) rfl ?_
  refine go_getr (q := 1) fl_X9_16 rfl G_0 ((hS _ _ rfl).trans rfl) (at_of tX9_oldLength 0 1 rfl) ?_
  refine go_cV (con_now hS hA) lk_X9_114 rfl g1_ (at_of tX9_oldLength 0 2 rfl) rfl (by decide) rfl (Nat.le_of_ble_eq_true rfl) rfl (by first | decide | exact ⟨Nat.zero_le _, Nat.zero_le _⟩) ?_
  refine go_getr (q := (4 + 10 * pi A.2.1)) fl_X9_131 rfl g1 p1 (at_of tX9_oldLength 0 3 rfl) ?_
  refine go_cV (r_oldUnits hS hk hR) lk_X9_211 rfl g2 (at_of tX9_oldLength 0 4 rfl) rfl (by decide) rfl (Nat.le_of_ble_eq_true rfl) rfl (by first | decide | exact ⟨Nat.zero_le _, Nat.zero_le _⟩) ?_
  first | exact go_reti (at_of tX9_oldLength 0 5 rfl) rfl | exact go_reti (at_of tX9_oldLength 0 5 rfl) (le_i (by omega)) | exact go_reti (at_of tX9_oldLength 0 5 rfl) (le_i (by first | exact bI_t (by omega) | exact bI_f (by omega)))
theorem ok_oldAt (hS : Str σ.2.1) {pi : Nat → Nat} {A : PastD} (hA : PastR σ pi A) {p : Int} (h2 : ixOld (A.1 A.2.1).1.1 (A.1 A.2.1).1.2.1 p ≠ -1) : Con 3 mX9_oldAt 0 0 [vA 0, vI p] σ (vI ((A.1 A.2.1).1.1 0 (ixOld (A.1 A.2.1).1.1 (A.1 A.2.1).1.2.1 p) % 65536), σ) := by
  obtain ⟨hp, hd, hu, hle, hrep⟩ := id hA
  have hk7 := (hp.1 A.2.1 (by omega)).2
  have hk : pi A.2.1 < 8 := by omega
  have hD := hrep A.2.1 (by omega)
  have hR := hD.1
  have hL := hD.2.1.2.2.1
  have hn := hR.1
  obtain ⟨hw1, hw2, hw3⟩ := hR.2.2.2
  have hm := hD.2.1.1
  obtain ⟨l1, l2, l3⟩ := hD.2.1.2.2.2
  obtain ⟨g1, g2, g3, g4, g5, g6, g7, g8, g9, g10⟩ := gamk _ hk
  obtain ⟨p1, p2, p3, p4, p5, p6, p7, p8, p9⟩ := strk hS _ hk
  have hix := ((@ixOld_le (A.1 A.2.1).1.1 (A.1 A.2.1).1.2.1 p hw1).resolve_left h2)
  refine con_of_go mfX9_oldAt.1 ⟨by omega, by omega⟩ (Nat.le_of_ble_eq_true rfl) rfl (by decide) ?_
  show Go _ _ _ _ 0 [vA _, vI _, vT 9 0, vT 9 0] [] _ _
  refine go_aload_n (at_of tX9_oldAt 0 0 rfl) rfl ?_
  refine go_getr (q := 1) fl_X9_16 rfl G_0 ((hS _ _ rfl).trans rfl) (at_of tX9_oldAt 0 1 rfl) ?_
  refine go_cV (con_now hS hA) lk_X9_114 rfl g1_ (at_of tX9_oldAt 0 2 rfl) rfl (by decide) rfl (Nat.le_of_ble_eq_true rfl) rfl (by first | decide | exact ⟨Nat.zero_le _, Nat.zero_le _⟩) ?_
  refine go_getr (q := (4 + 10 * pi A.2.1)) fl_X9_131 rfl g1 p1 (at_of tX9_oldAt 0 3 rfl) ?_
  refine go_astore_n (at_of tX9_oldAt 0 4 rfl) rfl rfl ?_
  refine go_aload_n (at_of tX9_oldAt 0 5 rfl) rfl ?_
  refine go_iload_n (at_of tX9_oldAt 0 6 rfl) rfl ?_
  refine go_cV (r_indexOfOld hS hk hR) lk_X9_214 rfl g2 (at_of tX9_oldAt 0 7 rfl) rfl (by decide) rfl (Nat.le_of_ble_eq_true rfl) rfl (by first | decide | exact ⟨Nat.zero_le _, Nat.zero_le _⟩) ?_
  refine go_istore_n (at_of tX9_oldAt 0 8 rfl) rfl rfl ?_
  refine go_iload_n (at_of tX9_oldAt 0 9 rfl) rfl ?_
  refine go_iconst (at_of tX9_oldAt 0 10 rfl) (by unfold in32; omega) ?_
  refine go_icmp_ne (tgt := 32) (at_of tX9_oldAt 0 11 rfl) (by decide) (fun h19 => ?_) (fun h19 => ?_)
  rotate_left
  · exfalso; omega
  refine go_aload_n (at_of tX9_oldAt 1 1 rfl) rfl ?_
  refine go_iconst (at_of tX9_oldAt 1 2 rfl) (by unfold in32; omega) ?_
  refine go_iload_n (at_of tX9_oldAt 1 3 rfl) rfl ?_
  refine go_cV (r_fact hS hk hR (by omega) (by omega)) lk_X9_168 rfl g2 (at_of tX9_oldAt 1 4 rfl) rfl (by decide) rfl (Nat.le_of_ble_eq_true rfl) rfl (by first | decide | exact ⟨Nat.zero_le _, Nat.zero_le _⟩) ?_
  refine go_i2c (at_of tX9_oldAt 1 5 rfl) ?_
  first | exact go_reti (at_of tX9_oldAt 1 6 rfl) rfl | exact go_reti (at_of tX9_oldAt 1 6 rfl) (le_i (by omega)) | exact go_reti (at_of tX9_oldAt 1 6 rfl) (le_i (by first | exact bI_t (by omega) | exact bI_f (by omega)))
theorem ok_paragraphs (hS : Str σ.2.1) {pi : Nat → Nat} {A : PastD} (hA : PastR σ pi A) : Con 4 mX9_paragraphs 0 0 [vA 0] σ (vI (endsA (A.1 A.2.1).1.1 (A.1 A.2.1).1.2.1 (A.1 A.2.1).1.2.1 + 1), σ) := by
  obtain ⟨hp, hd, hu, hle, hrep⟩ := id hA
  have hk7 := (hp.1 A.2.1 (by omega)).2
  have hk : pi A.2.1 < 8 := by omega
  have hD := hrep A.2.1 (by omega)
  have hR := hD.1
  have hL := hD.2.1.2.2.1
  have hn := hR.1
  obtain ⟨hw1, hw2, hw3⟩ := hR.2.2.2
  have hm := hD.2.1.1
  obtain ⟨l1, l2, l3⟩ := hD.2.1.2.2.2
  obtain ⟨g1, g2, g3, g4, g5, g6, g7, g8, g9, g10⟩ := gamk _ hk
  obtain ⟨p1, p2, p3, p4, p5, p6, p7, p8, p9⟩ := strk hS _ hk
  refine con_of_go mfX9_paragraphs.1 trivial (Nat.le_of_ble_eq_true rfl) rfl (by decide) ?_
  show Go _ _ _ _ 0 [vA _] [] _ _
  refine go_aload_n (at_of tX9_paragraphs 0 0 rfl) rfl ?_
  refine go_getr (q := 1) fl_X9_16 rfl G_0 ((hS _ _ rfl).trans rfl) (at_of tX9_paragraphs 0 1 rfl) ?_
  refine go_cV (con_now hS hA) lk_X9_114 rfl g1_ (at_of tX9_paragraphs 0 2 rfl) rfl (by decide) rfl (Nat.le_of_ble_eq_true rfl) rfl (by first | decide | exact ⟨Nat.zero_le _, Nat.zero_le _⟩) ?_
  refine go_getr (q := (4 + 10 * pi A.2.1)) fl_X9_131 rfl g1 p1 (at_of tX9_paragraphs 0 3 rfl) ?_
  refine go_cV (r_seenParagraphs hS hk hR) lk_X9_219 rfl g2 (at_of tX9_paragraphs 0 4 rfl) rfl (by decide) rfl (Nat.le_of_ble_eq_true rfl) rfl (by first | decide | exact ⟨Nat.zero_le _, Nat.zero_le _⟩) ?_
  first | exact go_reti (at_of tX9_paragraphs 0 5 rfl) rfl | exact go_reti (at_of tX9_paragraphs 0 5 rfl) (le_i (by omega)) | exact go_reti (at_of tX9_paragraphs 0 5 rfl) (le_i (by first | exact bI_t (by omega) | exact bI_f (by omega)))
theorem ok_paragraphOf (hS : Str σ.2.1) {pi : Nat → Nat} {A : PastD} (hA : PastR σ pi A) {p : Int} (h2 : ixOf (A.1 A.2.1).1.1 (A.1 A.2.1).1.2.1 p ≠ -1) : Con 4 mX9_paragraphOf 0 0 [vA 0, vI p] σ (vI (endsA (A.1 A.2.1).1.1 (A.1 A.2.1).1.2.1 (ixOf (A.1 A.2.1).1.1 (A.1 A.2.1).1.2.1 p)), σ) := by
  obtain ⟨hp, hd, hu, hle, hrep⟩ := id hA
  have hk7 := (hp.1 A.2.1 (by omega)).2
  have hk : pi A.2.1 < 8 := by omega
  have hD := hrep A.2.1 (by omega)
  have hR := hD.1
  have hL := hD.2.1.2.2.1
  have hn := hR.1
  obtain ⟨hw1, hw2, hw3⟩ := hR.2.2.2
  have hm := hD.2.1.1
  obtain ⟨l1, l2, l3⟩ := hD.2.1.2.2.2
  obtain ⟨g1, g2, g3, g4, g5, g6, g7, g8, g9, g10⟩ := gamk _ hk
  obtain ⟨p1, p2, p3, p4, p5, p6, p7, p8, p9⟩ := strk hS _ hk
  have hix := ((@ixOf_le (A.1 A.2.1).1.1 (A.1 A.2.1).1.2.1 p hw1).resolve_left h2)
  refine con_of_go mfX9_paragraphOf.1 trivial (Nat.le_of_ble_eq_true rfl) rfl (by decide) ?_
  show Go _ _ _ _ 0 [vA _, vI _] [] _ _
  refine go_aload_n (at_of tX9_paragraphOf 0 0 rfl) rfl ?_
  refine go_getr (q := 1) fl_X9_16 rfl G_0 ((hS _ _ rfl).trans rfl) (at_of tX9_paragraphOf 0 1 rfl) ?_
  refine go_cV (con_now hS hA) lk_X9_114 rfl g1_ (at_of tX9_paragraphOf 0 2 rfl) rfl (by decide) rfl (Nat.le_of_ble_eq_true rfl) rfl (by first | decide | exact ⟨Nat.zero_le _, Nat.zero_le _⟩) ?_
  refine go_getr (q := (4 + 10 * pi A.2.1)) fl_X9_131 rfl g1 p1 (at_of tX9_paragraphOf 0 3 rfl) ?_
  refine go_aload_n (at_of tX9_paragraphOf 0 4 rfl) rfl ?_
  refine go_iload_n (at_of tX9_paragraphOf 0 5 rfl) rfl ?_
  refine go_cV (ok_Place hS hA h2) lk_X9_70 rfl G_0 (at_of tX9_paragraphOf 0 6 rfl) rfl (by decide) rfl (Nat.le_of_ble_eq_true rfl) rfl (by first | decide | exact ⟨Nat.zero_le _, Nat.zero_le _⟩) ?_
  refine go_cV (r_endsAhead hS hk hR (by omega)) lk_X9_222 rfl g2 (at_of tX9_paragraphOf 0 7 rfl) rfl (by decide) rfl (Nat.le_of_ble_eq_true rfl) rfl (by first | decide | exact ⟨Nat.zero_le _, Nat.zero_le _⟩) ?_
  first | exact go_reti (at_of tX9_paragraphOf 0 8 rfl) rfl | exact go_reti (at_of tX9_paragraphOf 0 8 rfl) (le_i (by omega)) | exact go_reti (at_of tX9_paragraphOf 0 8 rfl) (le_i (by first | exact bI_t (by omega) | exact bI_f (by omega)))
theorem ok_changes (hS : Str σ.2.1) {pi : Nat → Nat} {A : PastD} (hA : PastR σ pi A) : Con 2 mX9_changes 0 0 [vA 0] σ (vI (A.1 A.2.1).2.1.1, σ) := by
  obtain ⟨hp, hd, hu, hle, hrep⟩ := id hA
  have hk7 := (hp.1 A.2.1 (by omega)).2
  have hk : pi A.2.1 < 8 := by omega
  have hD := hrep A.2.1 (by omega)
  have hR := hD.1
  have hL := hD.2.1.2.2.1
  have hn := hR.1
  obtain ⟨hw1, hw2, hw3⟩ := hR.2.2.2
  have hm := hD.2.1.1
  obtain ⟨l1, l2, l3⟩ := hD.2.1.2.2.2
  obtain ⟨g1, g2, g3, g4, g5, g6, g7, g8, g9, g10⟩ := gamk _ hk
  obtain ⟨p1, p2, p3, p4, p5, p6, p7, p8, p9⟩ := strk hS _ hk
  refine con_of_go mfX9_changes.1 trivial (Nat.le_of_ble_eq_true rfl) rfl (by decide) ?_
  show Go _ _ _ _ 0 [vA _] [] _ _
  refine go_aload_n (at_of tX9_changes 0 0 rfl) rfl ?_
  refine go_getr (q := 1) fl_X9_16 rfl G_0 ((hS _ _ rfl).trans rfl) (at_of tX9_changes 0 1 rfl) ?_
  refine go_cV (con_now hS hA) lk_X9_114 rfl g1_ (at_of tX9_changes 0 2 rfl) rfl (by decide) rfl (Nat.le_of_ble_eq_true rfl) rfl (by first | decide | exact ⟨Nat.zero_le _, Nat.zero_le _⟩) ?_
  refine go_getr (q := (8 + 10 * pi A.2.1)) fl_X9_118 rfl g1 p2 (at_of tX9_changes 0 3 rfl) ?_
  refine go_cV (l_many hS hk hD) lk_X9_228 rfl g6 (at_of tX9_changes 0 4 rfl) rfl (by decide) rfl (Nat.le_of_ble_eq_true rfl) rfl (by first | decide | exact ⟨Nat.zero_le _, Nat.zero_le _⟩) ?_
  first | exact go_reti (at_of tX9_changes 0 5 rfl) rfl | exact go_reti (at_of tX9_changes 0 5 rfl) (le_i (by omega)) | exact go_reti (at_of tX9_changes 0 5 rfl) (le_i (by first | exact bI_t (by omega) | exact bI_f (by omega)))
theorem ok_authorOf (hS : Str σ.2.1) {pi : Nat → Nat} {A : PastD} (hA : PastR σ pi A) {c : Int} (h1 : 0 ≤ c ∧ c < (A.1 A.2.1).2.1.1) : Con 3 mX9_authorOf 0 0 [vA 0, vI c] σ (vI ((A.1 A.2.1).2.1.2.2.1 c), σ) := by
  obtain ⟨hp, hd, hu, hle, hrep⟩ := id hA
  have hk7 := (hp.1 A.2.1 (by omega)).2
  have hk : pi A.2.1 < 8 := by omega
  have hD := hrep A.2.1 (by omega)
  have hR := hD.1
  have hL := hD.2.1.2.2.1
  have hn := hR.1
  obtain ⟨hw1, hw2, hw3⟩ := hR.2.2.2
  have hm := hD.2.1.1
  obtain ⟨l1, l2, l3⟩ := hD.2.1.2.2.2
  obtain ⟨g1, g2, g3, g4, g5, g6, g7, g8, g9, g10⟩ := gamk _ hk
  obtain ⟨p1, p2, p3, p4, p5, p6, p7, p8, p9⟩ := strk hS _ hk
  refine con_of_go mfX9_authorOf.1 trivial (Nat.le_of_ble_eq_true rfl) rfl (by decide) ?_
  show Go _ _ _ _ 0 [vA _, vI _] [] _ _
  refine go_aload_n (at_of tX9_authorOf 0 0 rfl) rfl ?_
  refine go_iload_n (at_of tX9_authorOf 0 1 rfl) rfl ?_
  refine go_cV (ok_Change hS hA h1) lk_X9_231 rfl G_0 (at_of tX9_authorOf 0 2 rfl) rfl (by decide) rfl (Nat.le_of_ble_eq_true rfl) rfl (by first | decide | exact ⟨Nat.zero_le _, Nat.zero_le _⟩) ?_
  refine go_aload_n (at_of tX9_authorOf 0 3 rfl) rfl ?_
  refine go_getr (q := 1) fl_X9_16 rfl G_0 ((hS _ _ rfl).trans rfl) (at_of tX9_authorOf 0 4 rfl) ?_
  refine go_cV (con_now hS hA) lk_X9_114 rfl g1_ (at_of tX9_authorOf 0 5 rfl) rfl (by decide) rfl (Nat.le_of_ble_eq_true rfl) rfl (by first | decide | exact ⟨Nat.zero_le _, Nat.zero_le _⟩) ?_
  refine go_getr (q := (8 + 10 * pi A.2.1)) fl_X9_118 rfl g1 p2 (at_of tX9_authorOf 0 6 rfl) ?_
  refine go_iload_n (at_of tX9_authorOf 0 7 rfl) rfl ?_
  refine go_cV (l_author hS hk hD h1) lk_X9_238 rfl g6 (at_of tX9_authorOf 0 8 rfl) rfl (by decide) rfl (Nat.le_of_ble_eq_true rfl) rfl (by first | decide | exact ⟨Nat.zero_le _, Nat.zero_le _⟩) ?_
  first | exact go_reti (at_of tX9_authorOf 0 9 rfl) rfl | exact go_reti (at_of tX9_authorOf 0 9 rfl) (le_i (by omega)) | exact go_reti (at_of tX9_authorOf 0 9 rfl) (le_i (by first | exact bI_t (by omega) | exact bI_f (by omega)))
theorem ok_stateOf (hS : Str σ.2.1) {pi : Nat → Nat} {A : PastD} (hA : PastR σ pi A) {c : Int} (h1 : 0 ≤ c ∧ c < (A.1 A.2.1).2.1.1) : Con 3 mX9_stateOf 0 0 [vA 0, vI c] σ (vI ((A.1 A.2.1).2.1.2.2.2 c), σ) := by
  obtain ⟨hp, hd, hu, hle, hrep⟩ := id hA
  have hk7 := (hp.1 A.2.1 (by omega)).2
  have hk : pi A.2.1 < 8 := by omega
  have hD := hrep A.2.1 (by omega)
  have hR := hD.1
  have hL := hD.2.1.2.2.1
  have hn := hR.1
  obtain ⟨hw1, hw2, hw3⟩ := hR.2.2.2
  have hm := hD.2.1.1
  obtain ⟨l1, l2, l3⟩ := hD.2.1.2.2.2
  obtain ⟨g1, g2, g3, g4, g5, g6, g7, g8, g9, g10⟩ := gamk _ hk
  obtain ⟨p1, p2, p3, p4, p5, p6, p7, p8, p9⟩ := strk hS _ hk
  have hst := hL.2.2.2 c.toNat (by omega)
  rw [(hD.2.1.2.1 c h1.1 h1.2).2.2] at hst
  refine con_of_go mfX9_stateOf.1 hst (Nat.le_of_ble_eq_true rfl) rfl (by decide) ?_
  show Go _ _ _ _ 0 [vA _, vI _] [] _ _
  refine go_aload_n (at_of tX9_stateOf 0 0 rfl) rfl ?_
  refine go_iload_n (at_of tX9_stateOf 0 1 rfl) rfl ?_
  refine go_cV (ok_Change hS hA h1) lk_X9_231 rfl G_0 (at_of tX9_stateOf 0 2 rfl) rfl (by decide) rfl (Nat.le_of_ble_eq_true rfl) rfl (by first | decide | exact ⟨Nat.zero_le _, Nat.zero_le _⟩) ?_
  refine go_aload_n (at_of tX9_stateOf 0 3 rfl) rfl ?_
  refine go_getr (q := 1) fl_X9_16 rfl G_0 ((hS _ _ rfl).trans rfl) (at_of tX9_stateOf 0 4 rfl) ?_
  refine go_cV (con_now hS hA) lk_X9_114 rfl g1_ (at_of tX9_stateOf 0 5 rfl) rfl (by decide) rfl (Nat.le_of_ble_eq_true rfl) rfl (by first | decide | exact ⟨Nat.zero_le _, Nat.zero_le _⟩) ?_
  refine go_getr (q := (8 + 10 * pi A.2.1)) fl_X9_118 rfl g1 p2 (at_of tX9_stateOf 0 6 rfl) ?_
  refine go_iload_n (at_of tX9_stateOf 0 7 rfl) rfl ?_
  refine go_cV (l_state hS hk hD h1) lk_X9_241 rfl g6 (at_of tX9_stateOf 0 8 rfl) rfl (by decide) rfl (Nat.le_of_ble_eq_true rfl) rfl (by first | decide | exact ⟨Nat.zero_le _, Nat.zero_le _⟩) ?_
  first | exact go_reti (at_of tX9_stateOf 0 9 rfl) rfl | exact go_reti (at_of tX9_stateOf 0 9 rfl) (le_i (by omega)) | exact go_reti (at_of tX9_stateOf 0 9 rfl) (le_i (by first | exact bI_t (by omega) | exact bI_f (by omega)))
theorem ok_unitsOf (hS : Str σ.2.1) {pi : Nat → Nat} {A : PastD} (hA : PastR σ pi A) {c : Int} (h1 : 0 ≤ c ∧ c < (A.1 A.2.1).2.1.1) : Con 3 mX9_unitsOf 0 0 [vA 0, vI c] σ (vI (concN (A.1 A.2.1).1.1 (A.1 A.2.1).1.2.1 c), σ) := by
  obtain ⟨hp, hd, hu, hle, hrep⟩ := id hA
  have hk7 := (hp.1 A.2.1 (by omega)).2
  have hk : pi A.2.1 < 8 := by omega
  have hD := hrep A.2.1 (by omega)
  have hR := hD.1
  have hL := hD.2.1.2.2.1
  have hn := hR.1
  obtain ⟨hw1, hw2, hw3⟩ := hR.2.2.2
  have hm := hD.2.1.1
  obtain ⟨l1, l2, l3⟩ := hD.2.1.2.2.2
  obtain ⟨g1, g2, g3, g4, g5, g6, g7, g8, g9, g10⟩ := gamk _ hk
  obtain ⟨p1, p2, p3, p4, p5, p6, p7, p8, p9⟩ := strk hS _ hk
  refine con_of_go mfX9_unitsOf.1 trivial (Nat.le_of_ble_eq_true rfl) rfl (by decide) ?_
  show Go _ _ _ _ 0 [vA _, vI _] [] _ _
  refine go_aload_n (at_of tX9_unitsOf 0 0 rfl) rfl ?_
  refine go_iload_n (at_of tX9_unitsOf 0 1 rfl) rfl ?_
  refine go_cV (ok_Change hS hA h1) lk_X9_231 rfl G_0 (at_of tX9_unitsOf 0 2 rfl) rfl (by decide) rfl (Nat.le_of_ble_eq_true rfl) rfl (by first | decide | exact ⟨Nat.zero_le _, Nat.zero_le _⟩) ?_
  refine go_aload_n (at_of tX9_unitsOf 0 3 rfl) rfl ?_
  refine go_getr (q := 1) fl_X9_16 rfl G_0 ((hS _ _ rfl).trans rfl) (at_of tX9_unitsOf 0 4 rfl) ?_
  refine go_cV (con_now hS hA) lk_X9_114 rfl g1_ (at_of tX9_unitsOf 0 5 rfl) rfl (by decide) rfl (Nat.le_of_ble_eq_true rfl) rfl (by first | decide | exact ⟨Nat.zero_le _, Nat.zero_le _⟩) ?_
  refine go_getr (q := (4 + 10 * pi A.2.1)) fl_X9_131 rfl g1 p1 (at_of tX9_unitsOf 0 6 rfl) ?_
  refine go_iload_n (at_of tX9_unitsOf 0 7 rfl) rfl ?_
  refine go_cV (r_concerned hS hk hR) lk_X9_244 rfl g2 (at_of tX9_unitsOf 0 8 rfl) rfl (by decide) rfl (Nat.le_of_ble_eq_true rfl) rfl (by first | decide | exact ⟨Nat.zero_le _, Nat.zero_le _⟩) ?_
  first | exact go_reti (at_of tX9_unitsOf 0 9 rfl) rfl | exact go_reti (at_of tX9_unitsOf 0 9 rfl) (le_i (by omega)) | exact go_reti (at_of tX9_unitsOf 0 9 rfl) (le_i (by first | exact bI_t (by omega) | exact bI_f (by omega)))
theorem ok_changeAt (hS : Str σ.2.1) {pi : Nat → Nat} {A : PastD} (hA : PastR σ pi A) {p : Int} (h2 : ixOf (A.1 A.2.1).1.1 (A.1 A.2.1).1.2.1 p ≠ -1) (h3 : ixOf (A.1 A.2.1).1.1 (A.1 A.2.1).1.2.1 p < (A.1 A.2.1).1.2.1) (h4 : (A.1 A.2.1).1.1 2 (ixOf (A.1 A.2.1).1.1 (A.1 A.2.1).1.2.1 p) ≠ -1) : Con 5 mX9_changeAt 0 0 [vA 0, vI p] σ (vI ((A.1 A.2.1).1.1 2 (ixOf (A.1 A.2.1).1.1 (A.1 A.2.1).1.2.1 p)), σ) := by
  obtain ⟨hp, hd, hu, hle, hrep⟩ := id hA
  have hk7 := (hp.1 A.2.1 (by omega)).2
  have hk : pi A.2.1 < 8 := by omega
  have hD := hrep A.2.1 (by omega)
  have hR := hD.1
  have hL := hD.2.1.2.2.1
  have hn := hR.1
  obtain ⟨hw1, hw2, hw3⟩ := hR.2.2.2
  have hm := hD.2.1.1
  obtain ⟨l1, l2, l3⟩ := hD.2.1.2.2.2
  obtain ⟨g1, g2, g3, g4, g5, g6, g7, g8, g9, g10⟩ := gamk _ hk
  obtain ⟨p1, p2, p3, p4, p5, p6, p7, p8, p9⟩ := strk hS _ hk
  have hix := ((@ixOf_le (A.1 A.2.1).1.1 (A.1 A.2.1).1.2.1 p hw1).resolve_left h2)
  refine con_of_go mfX9_changeAt.1 trivial (Nat.le_of_ble_eq_true rfl) rfl (by decide) ?_
  show Go _ _ _ _ 0 [vA _, vI _, vT 9 0] [] _ _
  refine go_aload_n (at_of tX9_changeAt 0 0 rfl) rfl ?_
  refine go_getr (q := 1) fl_X9_16 rfl G_0 ((hS _ _ rfl).trans rfl) (at_of tX9_changeAt 0 1 rfl) ?_
  refine go_cV (con_now hS hA) lk_X9_114 rfl g1_ (at_of tX9_changeAt 0 2 rfl) rfl (by decide) rfl (Nat.le_of_ble_eq_true rfl) rfl (by first | decide | exact ⟨Nat.zero_le _, Nat.zero_le _⟩) ?_
  refine go_getr (q := (4 + 10 * pi A.2.1)) fl_X9_131 rfl g1 p1 (at_of tX9_changeAt 0 3 rfl) ?_
  refine go_iconst (at_of tX9_changeAt 0 4 rfl) (by unfold in32; omega) ?_
  refine go_aload_n (at_of tX9_changeAt 0 5 rfl) rfl ?_
  refine go_iload_n (at_of tX9_changeAt 0 6 rfl) rfl ?_
  refine go_cV (ok_Unit hS hA h2 h3) lk_X9_208 rfl G_0 (at_of tX9_changeAt 0 7 rfl) rfl (by decide) rfl (Nat.le_of_ble_eq_true rfl) rfl (by first | decide | exact ⟨Nat.zero_le _, Nat.zero_le _⟩) ?_
  refine go_cV (r_fact hS hk hR (by omega) (by omega)) lk_X9_168 rfl g2 (at_of tX9_changeAt 0 8 rfl) rfl (by decide) rfl (Nat.le_of_ble_eq_true rfl) rfl (by first | decide | exact ⟨Nat.zero_le _, Nat.zero_le _⟩) ?_
  refine go_istore_n (at_of tX9_changeAt 0 9 rfl) rfl rfl ?_
  refine go_iload_n (at_of tX9_changeAt 0 10 rfl) rfl ?_
  refine go_iconst (at_of tX9_changeAt 0 11 rfl) (by unfold in32; omega) ?_
  refine go_icmp_ne (tgt := 35) (at_of tX9_changeAt 0 12 rfl) (by decide) (fun h22 => ?_) (fun h22 => ?_)
  rotate_left
  · exfalso; omega
  refine go_iload_n (at_of tX9_changeAt 1 2 rfl) rfl ?_
  first | exact go_reti (at_of tX9_changeAt 1 3 rfl) rfl | exact go_reti (at_of tX9_changeAt 1 3 rfl) (le_i (by omega)) | exact go_reti (at_of tX9_changeAt 1 3 rfl) (le_i (by first | exact bI_t (by omega) | exact bI_f (by omega)))
theorem th4_changeAt (hS : Str σ.2.1) {pi : Nat → Nat} {A : PastD} (hA : PastR σ pi A) {p : Int} (h2 : ixOf (A.1 A.2.1).1.1 (A.1 A.2.1).1.2.1 p ≠ -1) (h3 : ixOf (A.1 A.2.1).1.1 (A.1 A.2.1).1.2.1 p < (A.1 A.2.1).1.2.1) (h4 : (A.1 A.2.1).1.1 2 (ixOf (A.1 A.2.1).1.1 (A.1 A.2.1).1.2.1 p) = -1) : Con 5 mX9_changeAt 1 6 [vA 0, vI p] σ (vT 24 0, σ) := by
  obtain ⟨hp, hd, hu, hle, hrep⟩ := id hA
  have hk7 := (hp.1 A.2.1 (by omega)).2
  have hk : pi A.2.1 < 8 := by omega
  have hD := hrep A.2.1 (by omega)
  have hR := hD.1
  have hL := hD.2.1.2.2.1
  have hn := hR.1
  obtain ⟨hw1, hw2, hw3⟩ := hR.2.2.2
  have hm := hD.2.1.1
  obtain ⟨l1, l2, l3⟩ := hD.2.1.2.2.2
  obtain ⟨g1, g2, g3, g4, g5, g6, g7, g8, g9, g10⟩ := gamk _ hk
  obtain ⟨p1, p2, p3, p4, p5, p6, p7, p8, p9⟩ := strk hS _ hk
  have hix := ((@ixOf_le (A.1 A.2.1).1.1 (A.1 A.2.1).1.2.1 p hw1).resolve_left h2)
  refine con_of_go mfX9_changeAt.1 (Nat.le_of_ble_eq_true rfl) (Nat.le_of_ble_eq_true rfl) rfl (by decide) ?_
  show Go _ _ _ _ 0 [vA _, vI _, vT 9 0] [] _ _
  refine go_aload_n (at_of tX9_changeAt 0 0 rfl) rfl ?_
  refine go_getr (q := 1) fl_X9_16 rfl G_0 ((hS _ _ rfl).trans rfl) (at_of tX9_changeAt 0 1 rfl) ?_
  refine go_cV (con_now hS hA) lk_X9_114 rfl g1_ (at_of tX9_changeAt 0 2 rfl) rfl (by decide) rfl (Nat.le_of_ble_eq_true rfl) rfl (by first | decide | exact ⟨Nat.zero_le _, Nat.zero_le _⟩) ?_
  refine go_getr (q := (4 + 10 * pi A.2.1)) fl_X9_131 rfl g1 p1 (at_of tX9_changeAt 0 3 rfl) ?_
  refine go_iconst (at_of tX9_changeAt 0 4 rfl) (by unfold in32; omega) ?_
  refine go_aload_n (at_of tX9_changeAt 0 5 rfl) rfl ?_
  refine go_iload_n (at_of tX9_changeAt 0 6 rfl) rfl ?_
  refine go_cV (ok_Unit hS hA h2 h3) lk_X9_208 rfl G_0 (at_of tX9_changeAt 0 7 rfl) rfl (by decide) rfl (Nat.le_of_ble_eq_true rfl) rfl (by first | decide | exact ⟨Nat.zero_le _, Nat.zero_le _⟩) ?_
  refine go_cV (r_fact hS hk hR (by omega) (by omega)) lk_X9_168 rfl g2 (at_of tX9_changeAt 0 8 rfl) rfl (by decide) rfl (Nat.le_of_ble_eq_true rfl) rfl (by first | decide | exact ⟨Nat.zero_le _, Nat.zero_le _⟩) ?_
  refine go_istore_n (at_of tX9_changeAt 0 9 rfl) rfl rfl ?_
  refine go_iload_n (at_of tX9_changeAt 0 10 rfl) rfl ?_
  refine go_iconst (at_of tX9_changeAt 0 11 rfl) (by unfold in32; omega) ?_
  refine go_icmp_ne (tgt := 35) (at_of tX9_changeAt 0 12 rfl) (by decide) (fun h22 => ?_) (fun h22 => ?_)
  · exfalso; omega
  exact go_throw (i := 4) (Or.inl ⟨188, 247, 192, _, (at_of tX9_changeAt 0 13 rfl), (at_of tX9_changeAt 0 14 rfl), (at_of tX9_changeAt 0 15 rfl), (at_of tX9_changeAt 1 0 rfl), (at_of tX9_changeAt 1 1 rfl), cl_X9_188, List.mem_of_getElem? (i := 14) rfl, inL 876 (by decide +kernel) (by decide +kernel)⟩) (by decide) rfl (Nat.le_of_ble_eq_true rfl) ⟨by decide, by decide⟩ rfl
end Asks
