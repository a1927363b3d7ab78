/-! Shares and means, of both sides. -/
section Shar
variable {σ : St}
def shq (w n : Int) : UInt32 := FP.fdiv (FP.i2f (Int32.ofInt w)) (FP.i2f (Int32.ofInt n))
theorem ok_waitingShare (hS : Str σ.2.1) {pi : Nat → Nat} {A : PastD} (hA : PastR σ pi A) (h : 0 < (A.1 A.2.1).1.2.1) (hx : nn32 (shq (waitN (A.1 A.2.1).1.1 (A.1 A.2.1).1.2.1) (A.1 A.2.1).1.2.1) = true) : Con 2 mX9_waitingShare 0 0 [vA 0] σ (vF (shq (waitN (A.1 A.2.1).1.1 (A.1 A.2.1).1.2.1) (A.1 A.2.1).1.2.1), σ) := by
  obtain ⟨hp, hd, hu, hle, hrep⟩ := id hA
  have hk7 := (hp.1 A.2.1 (by omega)).2
  have hk : pi A.2.1 < 8 := by omega
  have hD := hrep A.2.1 (by omega)
  have hR := hD.1
  have hL := hD.2.1.2.2.1
  have hn := hR.1
  obtain ⟨hw1, hw2, hw3⟩ := hR.2.2.2
  have hm := hD.2.1.1
  obtain ⟨l1, l2, l3⟩ := hD.2.1.2.2.2
  obtain ⟨g1, g2, g3, g4, g5, g6, g7, g8, g9, g10⟩ := gamk _ hk
  obtain ⟨p1, p2, p3, p4, p5, p6, p7, p8, p9⟩ := strk hS _ hk
  refine con_of_go mfX9_waitingShare.1 trivial (Nat.le_of_ble_eq_true rfl) rfl (by decide) ?_
  show Go _ _ _ _ 0 [vA _, vT 9 0, vT 9 0] [] _ _
  refine go_aload_n (at_of tX9_waitingShare 0 0 rfl) rfl ?_
  refine go_getr (q := 1) fl_X9_16 rfl G_0 (by first | exact (hS _ _ rfl).trans rfl | exact (hS1 _ _ rfl).trans rfl | exact (hS2 _ _ rfl).trans rfl | exact (hS3 _ _ rfl).trans rfl | exact (hS4 _ _ rfl).trans rfl) (at_of tX9_waitingShare 0 1 rfl) ?_
  refine go_cV (con_now hS hA) lk_X9_114 rfl g1_ (at_of tX9_waitingShare 0 2 rfl) rfl (by decide) rfl (Nat.le_of_ble_eq_true rfl) rfl (by first | decide | exact ⟨Nat.zero_le _, Nat.zero_le _⟩) ?_
  refine go_getr (q := (4 + 10 * pi A.2.1)) fl_X9_131 rfl g1 p1 (at_of tX9_waitingShare 0 3 rfl) ?_
  refine go_astore_n (at_of tX9_waitingShare 0 4 rfl) rfl rfl ?_
  refine go_aload_n (at_of tX9_waitingShare 0 5 rfl) rfl ?_
  refine go_cV (r_allUnits hS hk hR) lk_X9_378 rfl g2 (at_of tX9_waitingShare 0 6 rfl) rfl (by decide) rfl (Nat.le_of_ble_eq_true rfl) rfl (by first | decide | exact ⟨Nat.zero_le _, Nat.zero_le _⟩) ?_
  refine go_istore_n (at_of tX9_waitingShare 0 7 rfl) rfl rfl ?_
  refine go_iload_n (at_of tX9_waitingShare 0 8 rfl) rfl ?_
  refine go_if_gt (tgt := 31) (at_of tX9_waitingShare 0 9 rfl) (by decide) (fun h17 => ?_) (fun h17 => ?_)
  rotate_left
  · exfalso; omega
  refine go_aload_n (at_of tX9_waitingShare 0 15 rfl) rfl ?_
  refine go_cV (r_waitingUnits hS hk hR) lk_X9_386 rfl g2 (at_of tX9_waitingShare 1 0 rfl) rfl (by decide) rfl (Nat.le_of_ble_eq_true rfl) rfl (by first | decide | exact ⟨Nat.zero_le _, Nat.zero_le _⟩) ?_
  refine go_i2f (at_of tX9_waitingShare 1 1 rfl) ?_
  refine go_iload_n (at_of tX9_waitingShare 1 2 rfl) rfl ?_
  refine go_i2f (at_of tX9_waitingShare 1 3 rfl) ?_
  refine go_fdiv (at_of tX9_waitingShare 1 4 rfl) (nn32_of hx) ?_
  exact go_retf (at_of tX9_waitingShare 1 5 rfl) rfl
end Shar
section ShaM
variable {σ : St}
end ShaM
