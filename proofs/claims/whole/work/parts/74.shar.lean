/-! Shares and means, of both sides. -/
section Shar
variable {σ : St}
def shq (w n : Int) : UInt32 := FP.fdiv (FP.i2f (Int32.ofInt w)) (FP.i2f (Int32.ofInt n))
def mnq (a n : Int) : UInt64 := FP.ddiv (FP.i2d (Int32.ofInt a)) (FP.i2d (Int32.ofInt n))
theorem ok_waitingShare (hS : Str σ.2.1) {pi : Nat → Nat} {A : PastD} (hA : PastR σ pi A) (h : 0 < (A.1 A.2.1).1.2.1) (hx : nn32 (shq (waitN (A.1 A.2.1).1.1 (A.1 A.2.1).1.2.1) (A.1 A.2.1).1.2.1) = true) : Con 2 mX9_waitingShare 0 0 [vA 0] σ (vF (shq (waitN (A.1 A.2.1).1.1 (A.1 A.2.1).1.2.1) (A.1 A.2.1).1.2.1), σ) := by
  obtain ⟨hp, hd, hu, hle, hrep⟩ := id hA
  have hk7 := (hp.1 A.2.1 (by omega)).2
  have hk : pi A.2.1 < 8 := by omega
  have hD := hrep A.2.1 (by omega)
  have hR := hD.1
  have hL := hD.2.1.2.2.1
  have hn := hR.1
  obtain ⟨hw1, hw2, hw3⟩ := hR.2.2.2
  have hm := hD.2.1.1
  obtain ⟨l1, l2, l3⟩ := hD.2.1.2.2.2
  obtain ⟨g1, g2, g3, g4, g5, g6, g7, g8, g9, g10⟩ := gamk _ hk
  obtain ⟨p1, p2, p3, p4, p5, p6, p7, p8, p9⟩ := strk hS _ hk
  refine con_of_go mfX9_waitingShare.1 trivial (Nat.le_of_ble_eq_true rfl) rfl (by decide) ?_
  show Go _ _ _ _ 0 [vA _, vT 9 0, vT 9 0] [] _ _
  refine go_aload_n (at_of tX9_waitingShare 0 0 rfl) rfl ?_
  refine go_getr (q := 1) fl_X9_16 rfl G_0 (by first | exact (hS _ _ rfl).trans rfl | exact (hS1 _ _ rfl).trans rfl | exact (hS2 _ _ rfl).trans rfl | exact (hS3 _ _ rfl).trans rfl | exact (hS4 _ _ rfl).trans rfl) (at_of tX9_waitingShare 0 1 rfl) ?_
  refine go_cV (con_now hS hA) lk_X9_114 rfl g1_ (at_of tX9_waitingShare 0 2 rfl) rfl (by decide) rfl (Nat.le_of_ble_eq_true rfl) rfl (by first | decide | exact ⟨Nat.zero_le _, Nat.zero_le _⟩) ?_
  refine go_getr (q := (4 + 10 * pi A.2.1)) fl_X9_131 rfl g1 p1 (at_of tX9_waitingShare 0 3 rfl) ?_
  refine go_astore_n (at_of tX9_waitingShare 0 4 rfl) rfl rfl ?_
  refine go_aload_n (at_of tX9_waitingShare 0 5 rfl) rfl ?_
  refine go_cV (r_allUnits hS hk hR) lk_X9_378 rfl g2 (at_of tX9_waitingShare 0 6 rfl) rfl (by decide) rfl (Nat.le_of_ble_eq_true rfl) rfl (by first | decide | exact ⟨Nat.zero_le _, Nat.zero_le _⟩) ?_
  refine go_istore_n (at_of tX9_waitingShare 0 7 rfl) rfl rfl ?_
  refine go_iload_n (at_of tX9_waitingShare 0 8 rfl) rfl ?_
  refine go_if_gt (tgt := 31) (at_of tX9_waitingShare 0 9 rfl) (by decide) (fun h17 => ?_) (fun h17 => ?_)
  rotate_left
  · exfalso; omega
  refine go_aload_n (at_of tX9_waitingShare 0 15 rfl) rfl ?_
  refine go_cV (r_waitingUnits hS hk hR) lk_X9_386 rfl g2 (at_of tX9_waitingShare 1 0 rfl) rfl (by decide) rfl (Nat.le_of_ble_eq_true rfl) rfl (by first | decide | exact ⟨Nat.zero_le _, Nat.zero_le _⟩) ?_
  refine go_i2f (at_of tX9_waitingShare 1 1 rfl) ?_
  refine go_iload_n (at_of tX9_waitingShare 1 2 rfl) rfl ?_
  refine go_i2f (at_of tX9_waitingShare 1 3 rfl) ?_
  refine go_fdiv (at_of tX9_waitingShare 1 4 rfl) (nn32_of hx) ?_
  exact go_retf (at_of tX9_waitingShare 1 5 rfl) rfl
theorem th5_waitingShare (hS : Str σ.2.1) {pi : Nat → Nat} {A : PastD} (hA : PastR σ pi A) (h : (A.1 A.2.1).1.2.1 ≤ 0) : Con 2 mX9_waitingShare 1 6 [vA 0] σ (vT 25 0, σ) := by
  obtain ⟨hp, hd, hu, hle, hrep⟩ := id hA
  have hk7 := (hp.1 A.2.1 (by omega)).2
  have hk : pi A.2.1 < 8 := by omega
  have hD := hrep A.2.1 (by omega)
  have hR := hD.1
  have hL := hD.2.1.2.2.1
  have hn := hR.1
  obtain ⟨hw1, hw2, hw3⟩ := hR.2.2.2
  have hm := hD.2.1.1
  obtain ⟨l1, l2, l3⟩ := hD.2.1.2.2.2
  obtain ⟨g1, g2, g3, g4, g5, g6, g7, g8, g9, g10⟩ := gamk _ hk
  obtain ⟨p1, p2, p3, p4, p5, p6, p7, p8, p9⟩ := strk hS _ hk
  refine con_of_go mfX9_waitingShare.1 (Nat.le_of_ble_eq_true rfl) (Nat.le_of_ble_eq_true rfl) rfl (by decide) ?_
  show Go _ _ _ _ 0 [vA _, vT 9 0, vT 9 0] [] _ _
  refine go_aload_n (at_of tX9_waitingShare 0 0 rfl) rfl ?_
  refine go_getr (q := 1) fl_X9_16 rfl G_0 (by first | exact (hS _ _ rfl).trans rfl | exact (hS1 _ _ rfl).trans rfl | exact (hS2 _ _ rfl).trans rfl | exact (hS3 _ _ rfl).trans rfl | exact (hS4 _ _ rfl).trans rfl) (at_of tX9_waitingShare 0 1 rfl) ?_
  refine go_cV (con_now hS hA) lk_X9_114 rfl g1_ (at_of tX9_waitingShare 0 2 rfl) rfl (by decide) rfl (Nat.le_of_ble_eq_true rfl) rfl (by first | decide | exact ⟨Nat.zero_le _, Nat.zero_le _⟩) ?_
  refine go_getr (q := (4 + 10 * pi A.2.1)) fl_X9_131 rfl g1 p1 (at_of tX9_waitingShare 0 3 rfl) ?_
  refine go_astore_n (at_of tX9_waitingShare 0 4 rfl) rfl rfl ?_
  refine go_aload_n (at_of tX9_waitingShare 0 5 rfl) rfl ?_
  refine go_cV (r_allUnits hS hk hR) lk_X9_378 rfl g2 (at_of tX9_waitingShare 0 6 rfl) rfl (by decide) rfl (Nat.le_of_ble_eq_true rfl) rfl (by first | decide | exact ⟨Nat.zero_le _, Nat.zero_le _⟩) ?_
  refine go_istore_n (at_of tX9_waitingShare 0 7 rfl) rfl rfl ?_
  refine go_iload_n (at_of tX9_waitingShare 0 8 rfl) rfl ?_
  refine go_if_gt (tgt := 31) (at_of tX9_waitingShare 0 9 rfl) (by decide) (fun h17 => ?_) (fun h17 => ?_)
  · exfalso; omega
  exact go_throw (i := 5) (Or.inr ⟨381, 383, 385, _, (at_of tX9_waitingShare 0 10 rfl), (at_of tX9_waitingShare 0 11 rfl), (at_of tX9_waitingShare 0 12 rfl), (at_of tX9_waitingShare 0 13 rfl), (at_of tX9_waitingShare 0 14 rfl), cl_X9_381, List.mem_of_getElem? (i := 32) rfl, inL 1485 (by decide +kernel) (by decide +kernel)⟩) (by decide) rfl (Nat.le_of_ble_eq_true rfl) ⟨by decide, by decide⟩ rfl
theorem ok_shareBits (hS : Str σ.2.1) {pi : Nat → Nat} {A : PastD} (hA : PastR σ pi A) (h : 0 < (A.1 A.2.1).1.2.1) (hx : nn32 (shq (waitN (A.1 A.2.1).1.1 (A.1 A.2.1).1.2.1) (A.1 A.2.1).1.2.1) = true) {v : Int} (hv : shB (shq (waitN (A.1 A.2.1).1.1 (A.1 A.2.1).1.2.1) (A.1 A.2.1).1.2.1) = some v) (hi : in32 v) : Con 3 mX9_shareBits 0 0 [vA 0] σ (vI v, σ) := by
  obtain ⟨hp, hd, hu, hle, hrep⟩ := id hA
  have hk7 := (hp.1 A.2.1 (by omega)).2
  have hk : pi A.2.1 < 8 := by omega
  have hD := hrep A.2.1 (by omega)
  have hR := hD.1
  have hL := hD.2.1.2.2.1
  have hn := hR.1
  obtain ⟨hw1, hw2, hw3⟩ := hR.2.2.2
  have hm := hD.2.1.1
  obtain ⟨l1, l2, l3⟩ := hD.2.1.2.2.2
  obtain ⟨g1, g2, g3, g4, g5, g6, g7, g8, g9, g10⟩ := gamk _ hk
  obtain ⟨p1, p2, p3, p4, p5, p6, p7, p8, p9⟩ := strk hS _ hk
  refine con_of_go mfX9_shareBits.1 trivial (Nat.le_of_ble_eq_true rfl) rfl (by decide) ?_
  show Go _ _ _ _ 0 [vA _] [] _ _
  refine go_aload_n (at_of tX9_shareBits 0 0 rfl) rfl ?_
  refine go_cV (ok_waitingShare hS hA h hx) lk_X9_389 rfl G_0 (at_of tX9_shareBits 0 1 rfl) rfl (by decide) rfl (Nat.le_of_ble_eq_true rfl) rfl (by first | decide | exact ⟨Nat.zero_le _, Nat.zero_le _⟩) ?_
  refine go_cS (con_bitsOfShare hv hi) lk_X9_393 rfl (at_of tX9_shareBits 0 2 rfl) rfl (by decide) rfl (Nat.le_of_ble_eq_true rfl) rfl (by first | decide | exact ⟨Nat.zero_le _, Nat.zero_le _⟩) ?_
  first | exact go_reti (at_of tX9_shareBits 0 3 rfl) rfl | exact go_reti (at_of tX9_shareBits 0 3 rfl) (le_i (by omega)) | exact go_reti (at_of tX9_shareBits 0 3 rfl) (le_i (by first | exact bI_t (by omega) | exact bI_f (by omega)))
theorem th5_shareBits (hS : Str σ.2.1) {pi : Nat → Nat} {A : PastD} (hA : PastR σ pi A) (h : (A.1 A.2.1).1.2.1 ≤ 0) : Con 3 mX9_shareBits 1 6 [vA 0] σ (vT 25 0, σ) := by
  obtain ⟨hp, hd, hu, hle, hrep⟩ := id hA
  have hk7 := (hp.1 A.2.1 (by omega)).2
  have hk : pi A.2.1 < 8 := by omega
  have hD := hrep A.2.1 (by omega)
  have hR := hD.1
  have hL := hD.2.1.2.2.1
  have hn := hR.1
  obtain ⟨hw1, hw2, hw3⟩ := hR.2.2.2
  have hm := hD.2.1.1
  obtain ⟨l1, l2, l3⟩ := hD.2.1.2.2.2
  obtain ⟨g1, g2, g3, g4, g5, g6, g7, g8, g9, g10⟩ := gamk _ hk
  obtain ⟨p1, p2, p3, p4, p5, p6, p7, p8, p9⟩ := strk hS _ hk
  refine con_of_go mfX9_shareBits.1 (Nat.le_of_ble_eq_true rfl) (Nat.le_of_ble_eq_true rfl) rfl (by decide) ?_
  show Go _ _ _ _ 0 [vA _] [] _ _
  refine go_aload_n (at_of tX9_shareBits 0 0 rfl) rfl ?_
  exact go_tV (i := 5) (th5_waitingShare hS hA h) lk_X9_389 rfl G_0 (at_of tX9_shareBits 0 1 rfl) rfl rfl (by decide) rfl (Nat.le_of_ble_eq_true rfl) rfl ⟨by decide, by decide⟩
theorem ok_meanParagraph (hS : Str σ.2.1) {pi : Nat → Nat} {A : PastD} (hA : PastR σ pi A) (hx : nn64 (mnq (plOf (A.1 A.2.1).1.1 (A.1 A.2.1).1.2.1 (A.1 A.2.1).1.2.1 - (endsA (A.1 A.2.1).1.1 (A.1 A.2.1).1.2.1 (A.1 A.2.1).1.2.1 + 1 - 1)) (endsA (A.1 A.2.1).1.1 (A.1 A.2.1).1.2.1 (A.1 A.2.1).1.2.1 + 1)) = true) : Con 4 mX9_meanParagraph 0 0 [vA 0] σ (vD (mnq (plOf (A.1 A.2.1).1.1 (A.1 A.2.1).1.2.1 (A.1 A.2.1).1.2.1 - (endsA (A.1 A.2.1).1.1 (A.1 A.2.1).1.2.1 (A.1 A.2.1).1.2.1 + 1 - 1)) (endsA (A.1 A.2.1).1.1 (A.1 A.2.1).1.2.1 (A.1 A.2.1).1.2.1 + 1)), σ) := by
  obtain ⟨hp, hd, hu, hle, hrep⟩ := id hA
  have hk7 := (hp.1 A.2.1 (by omega)).2
  have hk : pi A.2.1 < 8 := by omega
  have hD := hrep A.2.1 (by omega)
  have hR := hD.1
  have hL := hD.2.1.2.2.1
  have hn := hR.1
  obtain ⟨hw1, hw2, hw3⟩ := hR.2.2.2
  have hm := hD.2.1.1
  obtain ⟨l1, l2, l3⟩ := hD.2.1.2.2.2
  obtain ⟨g1, g2, g3, g4, g5, g6, g7, g8, g9, g10⟩ := gamk _ hk
  obtain ⟨p1, p2, p3, p4, p5, p6, p7, p8, p9⟩ := strk hS _ hk
  have b1 := @endsA_le (A.1 A.2.1).1.1 (A.1 A.2.1).1.2.1 (A.1 A.2.1).1.2.1
  have b2 := @plOf_le (A.1 A.2.1).1.1 (A.1 A.2.1).1.2.1 (A.1 A.2.1).1.2.1
  refine con_of_go mfX9_meanParagraph.1 trivial (Nat.le_of_ble_eq_true rfl) rfl (by decide) ?_
  show Go _ _ _ _ 0 [vA _, vT 9 0, vT 9 0] [] _ _
  refine go_aload_n (at_of tX9_meanParagraph 0 0 rfl) rfl ?_
  refine go_getr (q := 1) fl_X9_16 rfl G_0 (by first | exact (hS _ _ rfl).trans rfl | exact (hS1 _ _ rfl).trans rfl | exact (hS2 _ _ rfl).trans rfl | exact (hS3 _ _ rfl).trans rfl | exact (hS4 _ _ rfl).trans rfl) (at_of tX9_meanParagraph 0 1 rfl) ?_
  refine go_cV (con_now hS hA) lk_X9_114 rfl g1_ (at_of tX9_meanParagraph 0 2 rfl) rfl (by decide) rfl (Nat.le_of_ble_eq_true rfl) rfl (by first | decide | exact ⟨Nat.zero_le _, Nat.zero_le _⟩) ?_
  refine go_getr (q := (4 + 10 * pi A.2.1)) fl_X9_131 rfl g1 p1 (at_of tX9_meanParagraph 0 3 rfl) ?_
  refine go_astore_n (at_of tX9_meanParagraph 0 4 rfl) rfl rfl ?_
  refine go_aload_n (at_of tX9_meanParagraph 0 5 rfl) rfl ?_
  refine go_cV (r_seenParagraphs hS hk hR) lk_X9_219 rfl g2 (at_of tX9_meanParagraph 0 6 rfl) rfl (by decide) rfl (Nat.le_of_ble_eq_true rfl) rfl (by first | decide | exact ⟨Nat.zero_le _, Nat.zero_le _⟩) ?_
  refine go_istore_n (at_of tX9_meanParagraph 0 7 rfl) rfl rfl ?_
  refine go_iload_n (at_of tX9_meanParagraph 0 8 rfl) rfl ?_
  refine go_if_gt (tgt := 22) (at_of tX9_meanParagraph 0 9 rfl) (by decide) (fun h17 => ?_) (fun h17 => ?_)
  rotate_left
  · exfalso; omega
  refine go_aload_n (at_of tX9_meanParagraph 0 12 rfl) rfl ?_
  refine go_cV (r_seenUnits hS hk hR) lk_X9_205 rfl g2 (at_of tX9_meanParagraph 0 13 rfl) rfl (by decide) rfl (Nat.le_of_ble_eq_true rfl) rfl (by first | decide | exact ⟨Nat.zero_le _, Nat.zero_le _⟩) ?_
  refine go_iload_n (at_of tX9_meanParagraph 0 14 rfl) rfl ?_
  refine go_iconst (at_of tX9_meanParagraph 0 15 rfl) (by unfold in32; omega) ?_
  refine go_isub (at_of tX9_meanParagraph 1 0 rfl) (by unfold in32; omega) ?_
  refine go_isub (at_of tX9_meanParagraph 1 1 rfl) (by unfold in32; omega) ?_
  refine go_i2d (at_of tX9_meanParagraph 1 2 rfl) ?_
  refine go_iload_n (at_of tX9_meanParagraph 1 3 rfl) rfl ?_
  refine go_i2d (at_of tX9_meanParagraph 1 4 rfl) ?_
  refine go_ddiv (at_of tX9_meanParagraph 1 5 rfl) (nn64_of hx) ?_
  exact go_retd (at_of tX9_meanParagraph 1 6 rfl) rfl
theorem ok_meanBits (hS : Str σ.2.1) {pi : Nat → Nat} {A : PastD} (hA : PastR σ pi A) (hx : nn64 (mnq (plOf (A.1 A.2.1).1.1 (A.1 A.2.1).1.2.1 (A.1 A.2.1).1.2.1 - (endsA (A.1 A.2.1).1.1 (A.1 A.2.1).1.2.1 (A.1 A.2.1).1.2.1 + 1 - 1)) (endsA (A.1 A.2.1).1.1 (A.1 A.2.1).1.2.1 (A.1 A.2.1).1.2.1 + 1)) = true) {v : Int} (hv : mnB (mnq (plOf (A.1 A.2.1).1.1 (A.1 A.2.1).1.2.1 (A.1 A.2.1).1.2.1 - (endsA (A.1 A.2.1).1.1 (A.1 A.2.1).1.2.1 (A.1 A.2.1).1.2.1 + 1 - 1)) (endsA (A.1 A.2.1).1.1 (A.1 A.2.1).1.2.1 (A.1 A.2.1).1.2.1 + 1)) = some v) (hi : in64 v) : Con 5 mX9_meanBits 0 0 [vA 0] σ (vT 1 v, σ) := by
  obtain ⟨hp, hd, hu, hle, hrep⟩ := id hA
  have hk7 := (hp.1 A.2.1 (by omega)).2
  have hk : pi A.2.1 < 8 := by omega
  have hD := hrep A.2.1 (by omega)
  have hR := hD.1
  have hL := hD.2.1.2.2.1
  have hn := hR.1
  obtain ⟨hw1, hw2, hw3⟩ := hR.2.2.2
  have hm := hD.2.1.1
  obtain ⟨l1, l2, l3⟩ := hD.2.1.2.2.2
  obtain ⟨g1, g2, g3, g4, g5, g6, g7, g8, g9, g10⟩ := gamk _ hk
  obtain ⟨p1, p2, p3, p4, p5, p6, p7, p8, p9⟩ := strk hS _ hk
  refine con_of_go mfX9_meanBits.1 trivial (Nat.le_of_ble_eq_true rfl) rfl (by decide) ?_
  show Go _ _ _ _ 0 [vA _] [] _ _
  refine go_aload_n (at_of tX9_meanBits 0 0 rfl) rfl ?_
  refine go_cV (ok_meanParagraph hS hA hx) lk_X9_397 rfl G_0 (at_of tX9_meanBits 0 1 rfl) rfl (by decide) rfl (Nat.le_of_ble_eq_true rfl) rfl (by first | decide | exact ⟨Nat.zero_le _, Nat.zero_le _⟩) ?_
  refine go_cS (con_bitsOfMean hv hi) lk_X9_401 rfl (at_of tX9_meanBits 0 2 rfl) rfl (by decide) rfl (Nat.le_of_ble_eq_true rfl) rfl (by first | decide | exact ⟨Nat.zero_le _, Nat.zero_le _⟩) ?_
  exact go_retl (at_of tX9_meanBits 0 3 rfl) rfl
end Shar
section ShaM
variable {σ : St}
theorem m_waitingShare (hS : Str σ.2.1) {D : PapD} (hN : RepN (cN σ) D) (hW : WfM D) (h : D.1.2.1 ≠ 0) (hx : nn32 (shq (waitN D.1.1 D.1.2.1) D.1.2.1) = true) : Con 2 mX10_waitingShare 0 0 [vA 109] σ (vF (shq (waitN D.1.1 D.1.2.1) D.1.2.1), P1 σ 109 0 0) := by
  obtain ⟨hE, hSg, hMk, hRw⟩ := id hW
  obtain ⟨e1, e2, e3, e4⟩ := id hE
  refine con_of_go mfX10_waitingShare.1 trivial (Nat.le_of_ble_eq_true rfl) rfl (by decide) ?_
  show Go _ _ _ _ 0 [vA _] [] _ _
  refine go_aload_n (at_of tX10_waitingShare 0 0 rfl) rfl ?_
  refine go_aload_n (at_of tX10_waitingShare 0 1 rfl) rfl ?_
  refine go_cV (m_many hS hN.1) lk_X10_110 rfl G_109 (at_of tX10_waitingShare 0 2 rfl) rfl (by decide) rfl (Nat.le_of_ble_eq_true rfl) rfl (by first | decide | exact ⟨Nat.zero_le _, Nat.zero_le _⟩) ?_
  refine go_if_ne (tgt := 12) (at_of tX10_waitingShare 0 3 rfl) (by decide) (fun h5 => ?_) (fun h5 => ?_)
  rotate_left
  · exfalso; omega
  refine go_iconst (at_of tX10_waitingShare 0 6 rfl) (by unfold in32; omega) ?_
  refine go_cV (m_goesOn) lk_X10_141 rfl G_109 (at_of tX10_waitingShare 0 7 rfl) rfl (by decide) rfl (Nat.le_of_ble_eq_true rfl) rfl (by first | decide | exact ⟨Nat.zero_le _, Nat.zero_le _⟩) ?_
  refine go_if_eq (tgt := 33) (at_of tX10_waitingShare 0 8 rfl) (by decide) (fun h16 => ?_) (fun h16 => ?_)
  · exfalso; exact bI_0.mp h16 rfl
  refine go_aload_n (at_of tX10_waitingShare 0 9 rfl) rfl ?_
  refine go_cV (m_concerned (σ := P1 σ 109 0 0) hS (by rw [cN_P1]; exact hN.1) hE) lk_X10_319 rfl G_109 (at_of tX10_waitingShare 0 10 rfl) rfl (by decide) rfl (Nat.le_of_ble_eq_true rfl) rfl (by first | decide | exact ⟨Nat.zero_le _, Nat.zero_le _⟩) ?_
  refine go_i2f (at_of tX10_waitingShare 0 11 rfl) ?_
  refine go_aload_n (at_of tX10_waitingShare 0 12 rfl) rfl ?_
  refine go_cV (m_many (σ := P1 σ 109 0 0) hS (by rw [cN_P1]; exact hN.1)) lk_X10_110 rfl G_109 (at_of tX10_waitingShare 0 13 rfl) rfl (by decide) rfl (Nat.le_of_ble_eq_true rfl) rfl (by first | decide | exact ⟨Nat.zero_le _, Nat.zero_le _⟩) ?_
  refine go_i2f (at_of tX10_waitingShare 0 14 rfl) ?_
  refine go_fdiv (at_of tX10_waitingShare 0 15 rfl) (nn32_of hx) ?_
  refine go_goto (tgt := 34) (at_of tX10_waitingShare 1 0 rfl) (by decide) ?_
  exact go_retf (at_of tX10_waitingShare 1 2 rfl) rfl
theorem m_waitingShare_no (hS : Str σ.2.1) {D : PapD} (hN : RepN (cN σ) D) (hW : WfM D) (h : D.1.2.1 = 0) : Con 2 mX10_waitingShare 0 0 [vA 109] σ (vF FP.fconst0, P1 σ 109 0 1) := by
  obtain ⟨hE, hSg, hMk, hRw⟩ := id hW
  obtain ⟨e1, e2, e3, e4⟩ := id hE
  refine con_of_go mfX10_waitingShare.1 trivial (Nat.le_of_ble_eq_true rfl) rfl (by decide) ?_
  show Go _ _ _ _ 0 [vA _] [] _ _
  refine go_aload_n (at_of tX10_waitingShare 0 0 rfl) rfl ?_
  refine go_aload_n (at_of tX10_waitingShare 0 1 rfl) rfl ?_
  refine go_cV (m_many hS hN.1) lk_X10_110 rfl G_109 (at_of tX10_waitingShare 0 2 rfl) rfl (by decide) rfl (Nat.le_of_ble_eq_true rfl) rfl (by first | decide | exact ⟨Nat.zero_le _, Nat.zero_le _⟩) ?_
  refine go_if_ne (tgt := 12) (at_of tX10_waitingShare 0 3 rfl) (by decide) (fun h5 => ?_) (fun h5 => ?_)
  · exfalso; omega
  refine go_iconst (at_of tX10_waitingShare 0 4 rfl) (by unfold in32; omega) ?_
  refine go_goto (tgt := 13) (at_of tX10_waitingShare 0 5 rfl) (by decide) ?_
  refine go_cV (m_goesOn) lk_X10_141 rfl G_109 (at_of tX10_waitingShare 0 7 rfl) rfl (by decide) rfl (Nat.le_of_ble_eq_true rfl) rfl (by first | decide | exact ⟨Nat.zero_le _, Nat.zero_le _⟩) ?_
  refine go_if_eq (tgt := 33) (at_of tX10_waitingShare 0 8 rfl) (by decide) (fun h16 => ?_) (fun h16 => ?_)
  rotate_left
  · exfalso; exact absurd (bI_1.mp h16) (by decide)
  refine go_fconst0 (at_of tX10_waitingShare 1 1 rfl) ?_
  exact go_retf (at_of tX10_waitingShare 1 2 rfl) rfl
theorem m_shareBits (hS : Str σ.2.1) {D : PapD} (hN : RepN (cN σ) D) (hW : WfM D) (h : D.1.2.1 ≠ 0) (hx : nn32 (shq (waitN D.1.1 D.1.2.1) D.1.2.1) = true) (hc : (Op.cmpValue (FP.fcmp (shq (waitN D.1.1 D.1.2.1) D.1.2.1) (shq (waitN D.1.1 D.1.2.1) D.1.2.1)) .l).toInt = 0) : Con 2 mX10_shareBits 0 0 [vA 109] σ (vI (shq (waitN D.1.1 D.1.2.1) D.1.2.1).toInt32.toInt, P1 σ 109 0 0) := by
  obtain ⟨hE, hSg, hMk, hRw⟩ := id hW
  obtain ⟨e1, e2, e3, e4⟩ := id hE
  refine con_of_go mfX10_shareBits.1 trivial (Nat.le_of_ble_eq_true rfl) rfl (by decide) ?_
  show Go _ _ _ _ 0 [vA _] [] _ _
  refine go_aload_n (at_of tX10_shareBits 0 0 rfl) rfl ?_
  refine go_aload_n (at_of tX10_shareBits 0 1 rfl) rfl ?_
  refine go_cV (m_many hS hN.1) lk_X10_110 rfl G_109 (at_of tX10_shareBits 0 2 rfl) rfl (by decide) rfl (Nat.le_of_ble_eq_true rfl) rfl (by first | decide | exact ⟨Nat.zero_le _, Nat.zero_le _⟩) ?_
  refine go_if_ne (tgt := 12) (at_of tX10_shareBits 0 3 rfl) (by decide) (fun h5 => ?_) (fun h5 => ?_)
  rotate_left
  · exfalso; omega
  refine go_iconst (at_of tX10_shareBits 0 6 rfl) (by unfold in32; omega) ?_
  refine go_cV (m_goesOn) lk_X10_141 rfl G_109 (at_of tX10_shareBits 0 7 rfl) rfl (by decide) rfl (Nat.le_of_ble_eq_true rfl) rfl (by first | decide | exact ⟨Nat.zero_le _, Nat.zero_le _⟩) ?_
  refine go_if_eq (tgt := 36) (at_of tX10_shareBits 0 8 rfl) (by decide) (fun h16 => ?_) (fun h16 => ?_)
  · exfalso; exact bI_0.mp h16 rfl
  refine go_aload_n (at_of tX10_shareBits 0 9 rfl) rfl ?_
  refine go_cV (m_concerned (σ := P1 σ 109 0 0) hS (by rw [cN_P1]; exact hN.1) hE) lk_X10_319 rfl G_109 (at_of tX10_shareBits 0 10 rfl) rfl (by decide) rfl (Nat.le_of_ble_eq_true rfl) rfl (by first | decide | exact ⟨Nat.zero_le _, Nat.zero_le _⟩) ?_
  refine go_i2f (at_of tX10_shareBits 0 11 rfl) ?_
  refine go_aload_n (at_of tX10_shareBits 0 12 rfl) rfl ?_
  refine go_cV (m_many (σ := P1 σ 109 0 0) hS (by rw [cN_P1]; exact hN.1)) lk_X10_110 rfl G_109 (at_of tX10_shareBits 0 13 rfl) rfl (by decide) rfl (Nat.le_of_ble_eq_true rfl) rfl (by first | decide | exact ⟨Nat.zero_le _, Nat.zero_le _⟩) ?_
  refine go_i2f (at_of tX10_shareBits 0 14 rfl) ?_
  refine go_fdiv (at_of tX10_shareBits 0 15 rfl) (nn32_of hx) ?_
  refine go_cF (con_mJfB hc) lk_JfB rfl (at_of tX10_shareBits 1 0 rfl) rfl (by decide) rfl (Nat.le_of_ble_eq_true rfl) rfl (by first | decide | exact ⟨Nat.zero_le _, Nat.zero_le _⟩) ?_
  refine go_goto (tgt := 37) (at_of tX10_shareBits 1 1 rfl) (by decide) ?_
  first | exact go_reti (at_of tX10_shareBits 1 3 rfl) rfl | exact go_reti (at_of tX10_shareBits 1 3 rfl) (le_i (by omega)) | exact go_reti (at_of tX10_shareBits 1 3 rfl) (le_i (by first | exact bI_t (by omega) | exact bI_f (by omega)))
theorem m_shareBits_no (hS : Str σ.2.1) {D : PapD} (hN : RepN (cN σ) D) (hW : WfM D) (h : D.1.2.1 = 0) : Con 2 mX10_shareBits 0 0 [vA 109] σ (vI 0, P1 σ 109 0 1) := by
  obtain ⟨hE, hSg, hMk, hRw⟩ := id hW
  obtain ⟨e1, e2, e3, e4⟩ := id hE
  refine con_of_go mfX10_shareBits.1 trivial (Nat.le_of_ble_eq_true rfl) rfl (by decide) ?_
  show Go _ _ _ _ 0 [vA _] [] _ _
  refine go_aload_n (at_of tX10_shareBits 0 0 rfl) rfl ?_
  refine go_aload_n (at_of tX10_shareBits 0 1 rfl) rfl ?_
  refine go_cV (m_many hS hN.1) lk_X10_110 rfl G_109 (at_of tX10_shareBits 0 2 rfl) rfl (by decide) rfl (Nat.le_of_ble_eq_true rfl) rfl (by first | decide | exact ⟨Nat.zero_le _, Nat.zero_le _⟩) ?_
  refine go_if_ne (tgt := 12) (at_of tX10_shareBits 0 3 rfl) (by decide) (fun h5 => ?_) (fun h5 => ?_)
  · exfalso; omega
  refine go_iconst (at_of tX10_shareBits 0 4 rfl) (by unfold in32; omega) ?_
  refine go_goto (tgt := 13) (at_of tX10_shareBits 0 5 rfl) (by decide) ?_
  refine go_cV (m_goesOn) lk_X10_141 rfl G_109 (at_of tX10_shareBits 0 7 rfl) rfl (by decide) rfl (Nat.le_of_ble_eq_true rfl) rfl (by first | decide | exact ⟨Nat.zero_le _, Nat.zero_le _⟩) ?_
  refine go_if_eq (tgt := 36) (at_of tX10_shareBits 0 8 rfl) (by decide) (fun h16 => ?_) (fun h16 => ?_)
  rotate_left
  · exfalso; exact absurd (bI_1.mp h16) (by decide)
  refine go_iconst (at_of tX10_shareBits 1 2 rfl) (by unfold in32; omega) ?_
  first | exact go_reti (at_of tX10_shareBits 1 3 rfl) rfl | exact go_reti (at_of tX10_shareBits 1 3 rfl) (le_i (by omega)) | exact go_reti (at_of tX10_shareBits 1 3 rfl) (le_i (by first | exact bI_t (by omega) | exact bI_f (by omega)))
theorem m_mean (hS : Str σ.2.1) {D : PapD} (hN : RepN (cN σ) D) (hW : WfM D) (hx : nn64 (mnq (plOf D.1.1 D.1.2.1 D.1.2.1 - (endsA D.1.1 D.1.2.1 D.1.2.1 + 1) + 1) (endsA D.1.1 D.1.2.1 D.1.2.1 + 1)) = true) : Con 3 mX10_mean 0 0 [vA 109] σ (vD (mnq (plOf D.1.1 D.1.2.1 D.1.2.1 - (endsA D.1.1 D.1.2.1 D.1.2.1 + 1) + 1) (endsA D.1.1 D.1.2.1 D.1.2.1 + 1)), σ) := by
  obtain ⟨hE, hSg, hMk, hRw⟩ := id hW
  obtain ⟨e1, e2, e3, e4⟩ := id hE
  have b1 := @endsA_le D.1.1 D.1.2.1 D.1.2.1
  have b2 := @plOf_le D.1.1 D.1.2.1 D.1.2.1
  refine con_of_go mfX10_mean.1 trivial (Nat.le_of_ble_eq_true rfl) rfl (by decide) ?_
  show Go _ _ _ _ 0 [vA _, vT 9 0] [] _ _
  refine go_aload_n (at_of tX10_mean 0 0 rfl) rfl ?_
  refine go_cV (m_paragraphsNow hS hN.1 hE hSg) lk_X10_121 rfl G_109 (at_of tX10_mean 0 1 rfl) rfl (by decide) rfl (Nat.le_of_ble_eq_true rfl) rfl (by first | decide | exact ⟨Nat.zero_le _, Nat.zero_le _⟩) ?_
  refine go_istore_n (at_of tX10_mean 0 2 rfl) rfl rfl ?_
  refine go_aload_n (at_of tX10_mean 0 3 rfl) rfl ?_
  refine go_cV (m_seen hS hN.1 hE hSg) lk_X10_128 rfl G_109 (at_of tX10_mean 0 4 rfl) rfl (by decide) rfl (Nat.le_of_ble_eq_true rfl) rfl (by first | decide | exact ⟨Nat.zero_le _, Nat.zero_le _⟩) ?_
  refine go_iload_n (at_of tX10_mean 0 5 rfl) rfl ?_
  refine go_isub (at_of tX10_mean 0 6 rfl) (by unfold in32; omega) ?_
  refine go_iconst (at_of tX10_mean 0 7 rfl) (by unfold in32; omega) ?_
  refine go_iadd (at_of tX10_mean 0 8 rfl) (by unfold in32; omega) ?_
  refine go_i2d (at_of tX10_mean 0 9 rfl) ?_
  refine go_iload_n (at_of tX10_mean 0 10 rfl) rfl ?_
  refine go_i2d (at_of tX10_mean 0 11 rfl) ?_
  refine go_ddiv (at_of tX10_mean 0 12 rfl) (nn64_of hx) ?_
  exact go_retd (at_of tX10_mean 0 13 rfl) rfl
theorem m_meanParagraph (hS : Str σ.2.1) {D : PapD} (hN : RepN (cN σ) D) (hW : WfM D) (hx : nn64 (mnq (plOf D.1.1 D.1.2.1 D.1.2.1 - (endsA D.1.1 D.1.2.1 D.1.2.1 + 1) + 1) (endsA D.1.1 D.1.2.1 D.1.2.1 + 1)) = true) : Con 4 mX10_meanParagraph 0 0 [vA 109] σ (vD (mnq (plOf D.1.1 D.1.2.1 D.1.2.1 - (endsA D.1.1 D.1.2.1 D.1.2.1 + 1) + 1) (endsA D.1.1 D.1.2.1 D.1.2.1 + 1)), P1 σ 109 0 0) := by
  obtain ⟨hE, hSg, hMk, hRw⟩ := id hW
  obtain ⟨e1, e2, e3, e4⟩ := id hE
  refine con_of_go mfX10_meanParagraph.1 trivial (Nat.le_of_ble_eq_true rfl) rfl (by decide) ?_
  show Go _ _ _ _ 0 [vA _] [] _ _
  refine go_aload_n (at_of tX10_meanParagraph 0 0 rfl) rfl ?_
  refine go_iconst (at_of tX10_meanParagraph 0 1 rfl) (by unfold in32; omega) ?_
  refine go_put1 fp_X10_103 rfl (Or.inl rfl) G_109 (Or.inl rfl) (at_of tX10_meanParagraph 0 2 rfl) ?_
  refine go_aload_n (at_of tX10_meanParagraph 0 3 rfl) rfl ?_
  refine go_cV (m_mean (σ := P1 σ 109 0 0) hS (by rw [cN_P1]; exact hN) hW hx) lk_X10_328 rfl G_109 (at_of tX10_meanParagraph 0 4 rfl) rfl (by decide) rfl (Nat.le_of_ble_eq_true rfl) rfl (by first | decide | exact ⟨Nat.zero_le _, Nat.zero_le _⟩) ?_
  exact go_retd (at_of tX10_meanParagraph 0 5 rfl) rfl
theorem m_meanBits (hS : Str σ.2.1) {D : PapD} (hN : RepN (cN σ) D) (hW : WfM D) (hx : nn64 (mnq (plOf D.1.1 D.1.2.1 D.1.2.1 - (endsA D.1.1 D.1.2.1 D.1.2.1 + 1) + 1) (endsA D.1.1 D.1.2.1 D.1.2.1 + 1)) = true) (hc : (Op.cmpValue (FP.dcmp (mnq (plOf D.1.1 D.1.2.1 D.1.2.1 - (endsA D.1.1 D.1.2.1 D.1.2.1 + 1) + 1) (endsA D.1.1 D.1.2.1 D.1.2.1 + 1)) (mnq (plOf D.1.1 D.1.2.1 D.1.2.1 - (endsA D.1.1 D.1.2.1 D.1.2.1 + 1) + 1) (endsA D.1.1 D.1.2.1 D.1.2.1 + 1))) .l).toInt = 0) : Con 4 mX10_meanBits 0 0 [vA 109] σ (vT 1 (mnq (plOf D.1.1 D.1.2.1 D.1.2.1 - (endsA D.1.1 D.1.2.1 D.1.2.1 + 1) + 1) (endsA D.1.1 D.1.2.1 D.1.2.1 + 1)).toInt64.toInt, P1 σ 109 0 0) := by
  obtain ⟨hE, hSg, hMk, hRw⟩ := id hW
  obtain ⟨e1, e2, e3, e4⟩ := id hE
  refine con_of_go mfX10_meanBits.1 trivial (Nat.le_of_ble_eq_true rfl) rfl (by decide) ?_
  show Go _ _ _ _ 0 [vA _] [] _ _
  refine go_aload_n (at_of tX10_meanBits 0 0 rfl) rfl ?_
  refine go_iconst (at_of tX10_meanBits 0 1 rfl) (by unfold in32; omega) ?_
  refine go_put1 fp_X10_103 rfl (Or.inl rfl) G_109 (Or.inl rfl) (at_of tX10_meanBits 0 2 rfl) ?_
  refine go_aload_n (at_of tX10_meanBits 0 3 rfl) rfl ?_
  refine go_cV (m_mean (σ := P1 σ 109 0 0) hS (by rw [cN_P1]; exact hN) hW hx) lk_X10_328 rfl G_109 (at_of tX10_meanBits 0 4 rfl) rfl (by decide) rfl (Nat.le_of_ble_eq_true rfl) rfl (by first | decide | exact ⟨Nat.zero_le _, Nat.zero_le _⟩) ?_
  refine go_cF (con_mJdB hc) lk_JdB rfl (at_of tX10_meanBits 0 5 rfl) rfl (by decide) rfl (Nat.le_of_ble_eq_true rfl) rfl (by first | decide | exact ⟨Nat.zero_le _, Nat.zero_le _⟩) ?_
  exact go_retl (at_of tX10_meanBits 0 6 rfl) rfl
end ShaM
