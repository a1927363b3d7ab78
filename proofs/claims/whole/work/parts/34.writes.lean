/-! Fields written, styles set. -/
section Writes
variable {σ : St}
/-- a field's kind and what it is of -/
def fkB (kd f : Int) : Prop := kd = 99 ∨ (kd = 114 ∧ 0 ≤ f ∧ f < 3) ∨ ((kd = 108 ∨ kd = 110 ∨ kd = 112) ∧ 0 ≤ f ∧ f < 6)
theorem ok_isFieldKind {d f : Int} : Con 1 mX9_isFieldKind 0 0 [vI d, vI f] σ (vI (bI (d = 99 ∨ (d = 114 ∧ 0 ≤ f ∧ f < 3) ∨ ((d = 108 ∨ d = 110 ∨ d = 112) ∧ 0 ≤ f ∧ f < 6))), σ) := by
  by_cases h1 : d < 108 ∨ 114 < d
  · have e : bI (d = 99 ∨ (d = 114 ∧ 0 ≤ f ∧ f < 3) ∨ ((d = 108 ∨ d = 110 ∨ d = 112) ∧ 0 ≤ f ∧ f < 6)) = bI (d = 99) := bI_congr (by omega)
    rw [e]
    by_cases h99 : d = 99
    · rw [bI_t h99]
      refine con_of_go mfX9_isFieldKind.1 (Or.inr rfl) (Nat.le_of_ble_eq_true rfl) rfl (by decide) ?_
      show Go _ _ _ _ 0 [vI _, vI _] [] _ _
      refine go_iload_n (at_of tX9_isFieldKind 0 0 rfl) rfl ?_
      refine go_tableOut (tgt := 57) (at_of tX9_isFieldKind 0 1 rfl) (by omega) (by decide) ?_
      refine go_iload_n (at_of tX9_isFieldKind 0 10 rfl) rfl ?_
      refine go_bipush (at_of tX9_isFieldKind 0 11 rfl) (by decide) ?_
      refine go_icmp_ne (tgt := 67) (at_of tX9_isFieldKind 0 12 rfl) (by decide) (fun h60 => ?_) (fun h60 => ?_)
      · exfalso; omega
      refine go_iconst (at_of tX9_isFieldKind 0 13 rfl) (by unfold in32; omega) ?_
      refine go_goto (tgt := 68) (at_of tX9_isFieldKind 0 14 rfl) (by decide) ?_
      first | exact go_reti (at_of tX9_isFieldKind 1 0 rfl) rfl | exact go_reti (at_of tX9_isFieldKind 1 0 rfl) (le_i (by omega)) | exact go_reti (at_of tX9_isFieldKind 1 0 rfl) (le_i (by first | exact bI_t (by omega) | exact bI_f (by omega)))
    · rw [bI_f h99]
      refine con_of_go mfX9_isFieldKind.1 (Or.inl rfl) (Nat.le_of_ble_eq_true rfl) rfl (by decide) ?_
      show Go _ _ _ _ 0 [vI _, vI _] [] _ _
      refine go_iload_n (at_of tX9_isFieldKind 0 0 rfl) rfl ?_
      refine go_tableOut (tgt := 57) (at_of tX9_isFieldKind 0 1 rfl) (by omega) (by decide) ?_
      refine go_iload_n (at_of tX9_isFieldKind 0 10 rfl) rfl ?_
      refine go_bipush (at_of tX9_isFieldKind 0 11 rfl) (by decide) ?_
      refine go_icmp_ne (tgt := 67) (at_of tX9_isFieldKind 0 12 rfl) (by decide) (fun h60 => ?_) (fun h60 => ?_)
      rotate_left
      · exfalso; omega
      refine go_iconst (at_of tX9_isFieldKind 0 15 rfl) (by unfold in32; omega) ?_
      first | exact go_reti (at_of tX9_isFieldKind 1 0 rfl) rfl | exact go_reti (at_of tX9_isFieldKind 1 0 rfl) (le_i (by omega)) | exact go_reti (at_of tX9_isFieldKind 1 0 rfl) (le_i (by first | exact bI_t (by omega) | exact bI_f (by omega)))
  · have h7 : d = 108 ∨ d = 109 ∨ d = 110 ∨ d = 111 ∨ d = 112 ∨ d = 113 ∨ d = 114 := by omega
    rcases h7 with rfl | rfl | rfl | rfl | rfl | rfl | rfl
    · rw [show bI ((108 : Int) = 99 ∨ ((108 : Int) = 114 ∧ 0 ≤ f ∧ f < 3) ∨ (((108 : Int) = 108 ∨ (108 : Int) = 110 ∨ (108 : Int) = 112) ∧ 0 ≤ f ∧ f < 6)) = bI (0 ≤ f ∧ f < 6) from bI_congr (by omega)]
      refine con_of_go mfX9_isFieldKind.1 bI_01 (Nat.le_of_ble_eq_true rfl) rfl (by decide) ?_
      show Go _ _ _ _ 0 [vI _, vI _] [] _ _
      refine go_iload_n (at_of tX9_isFieldKind 0 0 rfl) rfl ?_
      refine go_tableIn (tgt := 44) (at_of tX9_isFieldKind 0 1 rfl) (by omega) (by omega) (show (#[43, 56, 43, 56, 43, 56, 50] : Array Int)[((108 : Int) - 108).toNat]? = some 43 from rfl) (by decide) ?_
      refine go_iload_n (at_of tX9_isFieldKind 0 2 rfl) rfl ?_
      refine go_bipush (at_of tX9_isFieldKind 0 3 rfl) (by decide) ?_
      refine go_cS (con_isWithin) lk_X9_270 rfl (at_of tX9_isFieldKind 0 4 rfl) rfl (by decide) rfl (Nat.le_of_ble_eq_true rfl) rfl (by first | decide | exact ⟨Nat.zero_le _, Nat.zero_le _⟩) ?_
      first | exact go_reti (at_of tX9_isFieldKind 0 5 rfl) rfl | exact go_reti (at_of tX9_isFieldKind 0 5 rfl) (le_i (by omega)) | exact go_reti (at_of tX9_isFieldKind 0 5 rfl) (le_i (by first | exact bI_t (by omega) | exact bI_f (by omega)))
    · rw [show bI ((109 : Int) = 99 ∨ ((109 : Int) = 114 ∧ 0 ≤ f ∧ f < 3) ∨ (((109 : Int) = 108 ∨ (109 : Int) = 110 ∨ (109 : Int) = 112) ∧ 0 ≤ f ∧ f < 6)) = bI ((0 : Int) = 1) from bI_congr (by omega)]
      refine con_of_go mfX9_isFieldKind.1 bI_01 (Nat.le_of_ble_eq_true rfl) rfl (by decide) ?_
      show Go _ _ _ _ 0 [vI _, vI _] [] _ _
      refine go_iload_n (at_of tX9_isFieldKind 0 0 rfl) rfl ?_
      refine go_tableIn (tgt := 57) (at_of tX9_isFieldKind 0 1 rfl) (by omega) (by omega) (show (#[43, 56, 43, 56, 43, 56, 50] : Array Int)[((109 : Int) - 108).toNat]? = some 56 from rfl) (by decide) ?_
      refine go_iload_n (at_of tX9_isFieldKind 0 10 rfl) rfl ?_
      refine go_bipush (at_of tX9_isFieldKind 0 11 rfl) (by decide) ?_
      refine go_icmp_ne (tgt := 67) (at_of tX9_isFieldKind 0 12 rfl) (by decide) (fun h60 => ?_) (fun h60 => ?_)
      rotate_left
      · exfalso; omega
      refine go_iconst (at_of tX9_isFieldKind 0 15 rfl) (by unfold in32; omega) ?_
      exact go_reti (at_of tX9_isFieldKind 1 0 rfl) (le_i (bI_f (by omega)))
    · rw [show bI ((110 : Int) = 99 ∨ ((110 : Int) = 114 ∧ 0 ≤ f ∧ f < 3) ∨ (((110 : Int) = 108 ∨ (110 : Int) = 110 ∨ (110 : Int) = 112) ∧ 0 ≤ f ∧ f < 6)) = bI (0 ≤ f ∧ f < 6) from bI_congr (by omega)]
      refine con_of_go mfX9_isFieldKind.1 bI_01 (Nat.le_of_ble_eq_true rfl) rfl (by decide) ?_
      show Go _ _ _ _ 0 [vI _, vI _] [] _ _
      refine go_iload_n (at_of tX9_isFieldKind 0 0 rfl) rfl ?_
      refine go_tableIn (tgt := 44) (at_of tX9_isFieldKind 0 1 rfl) (by omega) (by omega) (show (#[43, 56, 43, 56, 43, 56, 50] : Array Int)[((110 : Int) - 108).toNat]? = some 43 from rfl) (by decide) ?_
      refine go_iload_n (at_of tX9_isFieldKind 0 2 rfl) rfl ?_
      refine go_bipush (at_of tX9_isFieldKind 0 3 rfl) (by decide) ?_
      refine go_cS (con_isWithin) lk_X9_270 rfl (at_of tX9_isFieldKind 0 4 rfl) rfl (by decide) rfl (Nat.le_of_ble_eq_true rfl) rfl (by first | decide | exact ⟨Nat.zero_le _, Nat.zero_le _⟩) ?_
      first | exact go_reti (at_of tX9_isFieldKind 0 5 rfl) rfl | exact go_reti (at_of tX9_isFieldKind 0 5 rfl) (le_i (by omega)) | exact go_reti (at_of tX9_isFieldKind 0 5 rfl) (le_i (by first | exact bI_t (by omega) | exact bI_f (by omega)))
    · rw [show bI ((111 : Int) = 99 ∨ ((111 : Int) = 114 ∧ 0 ≤ f ∧ f < 3) ∨ (((111 : Int) = 108 ∨ (111 : Int) = 110 ∨ (111 : Int) = 112) ∧ 0 ≤ f ∧ f < 6)) = bI ((0 : Int) = 1) from bI_congr (by omega)]
      refine con_of_go mfX9_isFieldKind.1 bI_01 (Nat.le_of_ble_eq_true rfl) rfl (by decide) ?_
      show Go _ _ _ _ 0 [vI _, vI _] [] _ _
      refine go_iload_n (at_of tX9_isFieldKind 0 0 rfl) rfl ?_
      refine go_tableIn (tgt := 57) (at_of tX9_isFieldKind 0 1 rfl) (by omega) (by omega) (show (#[43, 56, 43, 56, 43, 56, 50] : Array Int)[((111 : Int) - 108).toNat]? = some 56 from rfl) (by decide) ?_
      refine go_iload_n (at_of tX9_isFieldKind 0 10 rfl) rfl ?_
      refine go_bipush (at_of tX9_isFieldKind 0 11 rfl) (by decide) ?_
      refine go_icmp_ne (tgt := 67) (at_of tX9_isFieldKind 0 12 rfl) (by decide) (fun h60 => ?_) (fun h60 => ?_)
      rotate_left
      · exfalso; omega
      refine go_iconst (at_of tX9_isFieldKind 0 15 rfl) (by unfold in32; omega) ?_
      exact go_reti (at_of tX9_isFieldKind 1 0 rfl) (le_i (bI_f (by omega)))
    · rw [show bI ((112 : Int) = 99 ∨ ((112 : Int) = 114 ∧ 0 ≤ f ∧ f < 3) ∨ (((112 : Int) = 108 ∨ (112 : Int) = 110 ∨ (112 : Int) = 112) ∧ 0 ≤ f ∧ f < 6)) = bI (0 ≤ f ∧ f < 6) from bI_congr (by omega)]
      refine con_of_go mfX9_isFieldKind.1 bI_01 (Nat.le_of_ble_eq_true rfl) rfl (by decide) ?_
      show Go _ _ _ _ 0 [vI _, vI _] [] _ _
      refine go_iload_n (at_of tX9_isFieldKind 0 0 rfl) rfl ?_
      refine go_tableIn (tgt := 44) (at_of tX9_isFieldKind 0 1 rfl) (by omega) (by omega) (show (#[43, 56, 43, 56, 43, 56, 50] : Array Int)[((112 : Int) - 108).toNat]? = some 43 from rfl) (by decide) ?_
      refine go_iload_n (at_of tX9_isFieldKind 0 2 rfl) rfl ?_
      refine go_bipush (at_of tX9_isFieldKind 0 3 rfl) (by decide) ?_
      refine go_cS (con_isWithin) lk_X9_270 rfl (at_of tX9_isFieldKind 0 4 rfl) rfl (by decide) rfl (Nat.le_of_ble_eq_true rfl) rfl (by first | decide | exact ⟨Nat.zero_le _, Nat.zero_le _⟩) ?_
      first | exact go_reti (at_of tX9_isFieldKind 0 5 rfl) rfl | exact go_reti (at_of tX9_isFieldKind 0 5 rfl) (le_i (by omega)) | exact go_reti (at_of tX9_isFieldKind 0 5 rfl) (le_i (by first | exact bI_t (by omega) | exact bI_f (by omega)))
    · rw [show bI ((113 : Int) = 99 ∨ ((113 : Int) = 114 ∧ 0 ≤ f ∧ f < 3) ∨ (((113 : Int) = 108 ∨ (113 : Int) = 110 ∨ (113 : Int) = 112) ∧ 0 ≤ f ∧ f < 6)) = bI ((0 : Int) = 1) from bI_congr (by omega)]
      refine con_of_go mfX9_isFieldKind.1 bI_01 (Nat.le_of_ble_eq_true rfl) rfl (by decide) ?_
      show Go _ _ _ _ 0 [vI _, vI _] [] _ _
      refine go_iload_n (at_of tX9_isFieldKind 0 0 rfl) rfl ?_
      refine go_tableIn (tgt := 57) (at_of tX9_isFieldKind 0 1 rfl) (by omega) (by omega) (show (#[43, 56, 43, 56, 43, 56, 50] : Array Int)[((113 : Int) - 108).toNat]? = some 56 from rfl) (by decide) ?_
      refine go_iload_n (at_of tX9_isFieldKind 0 10 rfl) rfl ?_
      refine go_bipush (at_of tX9_isFieldKind 0 11 rfl) (by decide) ?_
      refine go_icmp_ne (tgt := 67) (at_of tX9_isFieldKind 0 12 rfl) (by decide) (fun h60 => ?_) (fun h60 => ?_)
      rotate_left
      · exfalso; omega
      refine go_iconst (at_of tX9_isFieldKind 0 15 rfl) (by unfold in32; omega) ?_
      exact go_reti (at_of tX9_isFieldKind 1 0 rfl) (le_i (bI_f (by omega)))
    · rw [show bI ((114 : Int) = 99 ∨ ((114 : Int) = 114 ∧ 0 ≤ f ∧ f < 3) ∨ (((114 : Int) = 108 ∨ (114 : Int) = 110 ∨ (114 : Int) = 112) ∧ 0 ≤ f ∧ f < 6)) = bI (0 ≤ f ∧ f < 3) from bI_congr (by omega)]
      refine con_of_go mfX9_isFieldKind.1 bI_01 (Nat.le_of_ble_eq_true rfl) rfl (by decide) ?_
      show Go _ _ _ _ 0 [vI _, vI _] [] _ _
      refine go_iload_n (at_of tX9_isFieldKind 0 0 rfl) rfl ?_
      refine go_tableIn (tgt := 51) (at_of tX9_isFieldKind 0 1 rfl) (by omega) (by omega) (show (#[43, 56, 43, 56, 43, 56, 50] : Array Int)[((114 : Int) - 108).toNat]? = some 50 from rfl) (by decide) ?_
      refine go_iload_n (at_of tX9_isFieldKind 0 6 rfl) rfl ?_
      refine go_iconst (at_of tX9_isFieldKind 0 7 rfl) (by unfold in32; omega) ?_
      refine go_cS (con_isWithin) lk_X9_270 rfl (at_of tX9_isFieldKind 0 8 rfl) rfl (by decide) rfl (Nat.le_of_ble_eq_true rfl) rfl (by first | decide | exact ⟨Nat.zero_le _, Nat.zero_le _⟩) ?_
      first | exact go_reti (at_of tX9_isFieldKind 0 9 rfl) rfl | exact go_reti (at_of tX9_isFieldKind 0 9 rfl) (le_i (by omega)) | exact go_reti (at_of tX9_isFieldKind 0 9 rfl) (le_i (by first | exact bI_t (by omega) | exact bI_f (by omega)))
theorem th0_addField_a (hS : Str σ.2.1) {pi : Nat → Nat} {A : PastD} (hA : PastR σ pi A) {tr : Bool} (htr : σ.1 0 0 = bI (tr = true)) {a p d f : Int} (h1 : ¬ (0 ≤ a ∧ a < 4)) : Con 5 mX9_addField 1 6 [vA 0, vI a, vI p, vI d, vI f] σ (vT 20 0, σ) := by
  obtain ⟨hp, hd, hu, hle, hrep⟩ := id hA
  have hk7 := (hp.1 A.2.1 (by omega)).2
  have hk : pi A.2.1 < 8 := by omega
  have hD := hrep A.2.1 (by omega)
  have hR := hD.1
  have hL := hD.2.1.2.2.1
  have hn := hR.1
  obtain ⟨hw1, hw2, hw3⟩ := hR.2.2.2
  have hm := hD.2.1.1
  obtain ⟨l1, l2, l3⟩ := hD.2.1.2.2.2
  obtain ⟨g1, g2, g3, g4, g5, g6, g7, g8, g9, g10⟩ := gamk _ hk
  obtain ⟨p1, p2, p3, p4, p5, p6, p7, p8, p9⟩ := strk hS _ hk
  refine con_of_go mfX9_addField.1 (Nat.le_of_ble_eq_true rfl) (Nat.le_of_ble_eq_true rfl) rfl (by decide) ?_
  show Go _ _ _ _ 0 [vA _, vI _, vI _, vI _, vI _, vT 9 0, vT 9 0] [] _ _
  refine go_iload_n (at_of tX9_addField 0 0 rfl) rfl ?_
  exact go_tS (i := 0) (th_Author h1) lk_X9_66 rfl (at_of tX9_addField 0 1 rfl) rfl rfl (by decide) rfl (Nat.le_of_ble_eq_true rfl) rfl ⟨by decide, by decide⟩
theorem th0_addField_b (hS : Str σ.2.1) {pi : Nat → Nat} {A : PastD} (hA : PastR σ pi A) {tr : Bool} (htr : σ.1 0 0 = bI (tr = true)) {a p d f : Int} (h1 : 0 ≤ a ∧ a < 4) (h2 : ixOf (A.1 A.2.1).1.1 (A.1 A.2.1).1.2.1 p = -1) : Con 5 mX9_addField 1 6 [vA 0, vI a, vI p, vI d, vI f] σ (vT 20 0, σ) := by
  obtain ⟨hp, hd, hu, hle, hrep⟩ := id hA
  have hk7 := (hp.1 A.2.1 (by omega)).2
  have hk : pi A.2.1 < 8 := by omega
  have hD := hrep A.2.1 (by omega)
  have hR := hD.1
  have hL := hD.2.1.2.2.1
  have hn := hR.1
  obtain ⟨hw1, hw2, hw3⟩ := hR.2.2.2
  have hm := hD.2.1.1
  obtain ⟨l1, l2, l3⟩ := hD.2.1.2.2.2
  obtain ⟨g1, g2, g3, g4, g5, g6, g7, g8, g9, g10⟩ := gamk _ hk
  obtain ⟨p1, p2, p3, p4, p5, p6, p7, p8, p9⟩ := strk hS _ hk
  refine con_of_go mfX9_addField.1 (Nat.le_of_ble_eq_true rfl) (Nat.le_of_ble_eq_true rfl) rfl (by decide) ?_
  show Go _ _ _ _ 0 [vA _, vI _, vI _, vI _, vI _, vT 9 0, vT 9 0] [] _ _
  refine go_iload_n (at_of tX9_addField 0 0 rfl) rfl ?_
  refine go_cS (ok_Author h1) lk_X9_66 rfl (at_of tX9_addField 0 1 rfl) rfl (by decide) rfl (Nat.le_of_ble_eq_true rfl) rfl (by first | decide | exact ⟨Nat.zero_le _, Nat.zero_le _⟩) ?_
  refine go_aload_n (at_of tX9_addField 0 2 rfl) rfl ?_
  refine go_iload_n (at_of tX9_addField 0 3 rfl) rfl ?_
  exact go_tV (i := 0) (th_Place hS hA h2) lk_X9_70 rfl G_0 (at_of tX9_addField 0 4 rfl) rfl rfl (by decide) rfl (Nat.le_of_ble_eq_true rfl) rfl ⟨by decide, by decide⟩
theorem th1_addField_c (hS : Str σ.2.1) {pi : Nat → Nat} {A : PastD} (hA : PastR σ pi A) {tr : Bool} (htr : σ.1 0 0 = bI (tr = true)) {a p d f : Int} (h1 : 0 ≤ a ∧ a < 4) (h2 : ixOf (A.1 A.2.1).1.1 (A.1 A.2.1).1.2.1 p ≠ -1) (h3 : ¬ (d = 99 ∨ (d = 114 ∧ 0 ≤ f ∧ f < 3) ∨ ((d = 108 ∨ d = 110 ∨ d = 112) ∧ 0 ≤ f ∧ f < 6))) : Con 5 mX9_addField 1 6 [vA 0, vI a, vI p, vI d, vI f] σ (vT 21 0, σ) := by
  obtain ⟨hp, hd, hu, hle, hrep⟩ := id hA
  have hk7 := (hp.1 A.2.1 (by omega)).2
  have hk : pi A.2.1 < 8 := by omega
  have hD := hrep A.2.1 (by omega)
  have hR := hD.1
  have hL := hD.2.1.2.2.1
  have hn := hR.1
  obtain ⟨hw1, hw2, hw3⟩ := hR.2.2.2
  have hm := hD.2.1.1
  obtain ⟨l1, l2, l3⟩ := hD.2.1.2.2.2
  obtain ⟨g1, g2, g3, g4, g5, g6, g7, g8, g9, g10⟩ := gamk _ hk
  obtain ⟨p1, p2, p3, p4, p5, p6, p7, p8, p9⟩ := strk hS _ hk
  refine con_of_go mfX9_addField.1 (Nat.le_of_ble_eq_true rfl) (Nat.le_of_ble_eq_true rfl) rfl (by decide) ?_
  show Go _ _ _ _ 0 [vA _, vI _, vI _, vI _, vI _, vT 9 0, vT 9 0] [] _ _
  refine go_iload_n (at_of tX9_addField 0 0 rfl) rfl ?_
  refine go_cS (ok_Author h1) lk_X9_66 rfl (at_of tX9_addField 0 1 rfl) rfl (by decide) rfl (Nat.le_of_ble_eq_true rfl) rfl (by first | decide | exact ⟨Nat.zero_le _, Nat.zero_le _⟩) ?_
  refine go_aload_n (at_of tX9_addField 0 2 rfl) rfl ?_
  refine go_iload_n (at_of tX9_addField 0 3 rfl) rfl ?_
  refine go_cV (ok_Place hS hA h2) lk_X9_70 rfl G_0 (at_of tX9_addField 0 4 rfl) rfl (by decide) rfl (Nat.le_of_ble_eq_true rfl) rfl (by first | decide | exact ⟨Nat.zero_le _, Nat.zero_le _⟩) ?_
  refine go_istore (at_of tX9_addField 0 5 rfl) rfl rfl ?_
  refine go_iload_n (at_of tX9_addField 0 6 rfl) rfl ?_
  refine go_iload (at_of tX9_addField 0 7 rfl) rfl rfl ?_
  refine go_cS (ok_isFieldKind) lk_X9_93 rfl (at_of tX9_addField 0 8 rfl) rfl (by decide) rfl (Nat.le_of_ble_eq_true rfl) rfl (by first | decide | exact ⟨Nat.zero_le _, Nat.zero_le _⟩) ?_
  refine go_if_ne (tgt := 30) (at_of tX9_addField 0 9 rfl) (by decide) (fun h17 => ?_) (fun h17 => ?_)
  · exfalso; exact h3 (bI_1.mp h17)
  exact go_throw (i := 1) (Or.inl ⟨78, 97, 82, _, (at_of tX9_addField 0 10 rfl), (at_of tX9_addField 0 11 rfl), (at_of tX9_addField 0 12 rfl), (at_of tX9_addField 0 13 rfl), (at_of tX9_addField 0 14 rfl), cl_X9_78, List.mem_of_getElem? (i := 6) rfl, inL 845 (by decide +kernel) (by decide +kernel)⟩) (by decide) rfl (Nat.le_of_ble_eq_true rfl) ⟨by decide, by decide⟩ rfl
theorem th2_addField_d (hS : Str σ.2.1) {pi : Nat → Nat} {A : PastD} (hA : PastR σ pi A) {tr : Bool} (htr : σ.1 0 0 = bI (tr = true)) {a p d f : Int} (h1 : 0 ≤ a ∧ a < 4) (h2 : ixOf (A.1 A.2.1).1.1 (A.1 A.2.1).1.2.1 p ≠ -1) (h3 : (d = 99 ∨ (d = 114 ∧ 0 ≤ f ∧ f < 3) ∨ ((d = 108 ∨ d = 110 ∨ d = 112) ∧ 0 ≤ f ∧ f < 6))) (h4 : 20 ≤ σ.1 92 3) : Con 5 mX9_addField 1 6 [vA 0, vI a, vI p, vI d, vI f] σ (vT 22 0, σ) := by
  obtain ⟨hp, hd, hu, hle, hrep⟩ := id hA
  have hk7 := (hp.1 A.2.1 (by omega)).2
  have hk : pi A.2.1 < 8 := by omega
  have hD := hrep A.2.1 (by omega)
  have hR := hD.1
  have hL := hD.2.1.2.2.1
  have hn := hR.1
  obtain ⟨hw1, hw2, hw3⟩ := hR.2.2.2
  have hm := hD.2.1.1
  obtain ⟨l1, l2, l3⟩ := hD.2.1.2.2.2
  obtain ⟨g1, g2, g3, g4, g5, g6, g7, g8, g9, g10⟩ := gamk _ hk
  obtain ⟨p1, p2, p3, p4, p5, p6, p7, p8, p9⟩ := strk hS _ hk
  refine con_of_go mfX9_addField.1 (Nat.le_of_ble_eq_true rfl) (Nat.le_of_ble_eq_true rfl) rfl (by decide) ?_
  show Go _ _ _ _ 0 [vA _, vI _, vI _, vI _, vI _, vT 9 0, vT 9 0] [] _ _
  refine go_iload_n (at_of tX9_addField 0 0 rfl) rfl ?_
  refine go_cS (ok_Author h1) lk_X9_66 rfl (at_of tX9_addField 0 1 rfl) rfl (by decide) rfl (Nat.le_of_ble_eq_true rfl) rfl (by first | decide | exact ⟨Nat.zero_le _, Nat.zero_le _⟩) ?_
  refine go_aload_n (at_of tX9_addField 0 2 rfl) rfl ?_
  refine go_iload_n (at_of tX9_addField 0 3 rfl) rfl ?_
  refine go_cV (ok_Place hS hA h2) lk_X9_70 rfl G_0 (at_of tX9_addField 0 4 rfl) rfl (by decide) rfl (Nat.le_of_ble_eq_true rfl) rfl (by first | decide | exact ⟨Nat.zero_le _, Nat.zero_le _⟩) ?_
  refine go_istore (at_of tX9_addField 0 5 rfl) rfl rfl ?_
  refine go_iload_n (at_of tX9_addField 0 6 rfl) rfl ?_
  refine go_iload (at_of tX9_addField 0 7 rfl) rfl rfl ?_
  refine go_cS (ok_isFieldKind) lk_X9_93 rfl (at_of tX9_addField 0 8 rfl) rfl (by decide) rfl (Nat.le_of_ble_eq_true rfl) rfl (by first | decide | exact ⟨Nat.zero_le _, Nat.zero_le _⟩) ?_
  refine go_if_ne (tgt := 30) (at_of tX9_addField 0 9 rfl) (by decide) (fun h17 => ?_) (fun h17 => ?_)
  rotate_left
  · exfalso; exact bI_0.mp h17 h3
  refine go_aload_n (at_of tX9_addField 0 15 rfl) rfl ?_
  refine go_getr (q := 92) fl_X9_44 rfl G_0 ((hS _ _ rfl).trans rfl) (at_of tX9_addField 1 0 rfl) ?_
  refine go_cV (con_isFullF hS) lk_X9_99 rfl G_92 (at_of tX9_addField 1 1 rfl) rfl (by decide) rfl (Nat.le_of_ble_eq_true rfl) rfl (by first | decide | exact ⟨Nat.zero_le _, Nat.zero_le _⟩) ?_
  refine go_if_eq (tgt := 50) (at_of tX9_addField 1 2 rfl) (by decide) (fun h37 => ?_) (fun h37 => ?_)
  · exfalso; exact bI_0.mp h37 h4
  exact go_throw (i := 2) (Or.inl ⟨103, 105, 107, _, (at_of tX9_addField 1 3 rfl), (at_of tX9_addField 1 4 rfl), (at_of tX9_addField 1 5 rfl), (at_of tX9_addField 1 6 rfl), (at_of tX9_addField 1 7 rfl), cl_X9_103, List.mem_of_getElem? (i := 7) rfl, inL 865 (by decide +kernel) (by decide +kernel)⟩) (by decide) rfl (Nat.le_of_ble_eq_true rfl) ⟨by decide, by decide⟩ rfl
theorem th2_addField_e (hS : Str σ.2.1) {pi : Nat → Nat} {A : PastD} (hA : PastR σ pi A) {tr : Bool} (htr : σ.1 0 0 = bI (tr = true)) {a p d f : Int} (h1 : 0 ≤ a ∧ a < 4) (h2 : ixOf (A.1 A.2.1).1.1 (A.1 A.2.1).1.2.1 p ≠ -1) (h3 : (d = 99 ∨ (d = 114 ∧ 0 ≤ f ∧ f < 3) ∨ ((d = 108 ∨ d = 110 ∨ d = 112) ∧ 0 ≤ f ∧ f < 6))) (h4 : ¬ 20 ≤ σ.1 92 3) (h5 : cwE (A.1 A.2.1) tr a (ixOf (A.1 A.2.1).1.1 (A.1 A.2.1).1.2.1 p) = 3) : Con 5 mX9_addField 1 6 [vA 0, vI a, vI p, vI d, vI f] σ (vT 22 0, σ) := by
  obtain ⟨hp, hd, hu, hle, hrep⟩ := id hA
  have hk7 := (hp.1 A.2.1 (by omega)).2
  have hk : pi A.2.1 < 8 := by omega
  have hD := hrep A.2.1 (by omega)
  have hR := hD.1
  have hL := hD.2.1.2.2.1
  have hn := hR.1
  obtain ⟨hw1, hw2, hw3⟩ := hR.2.2.2
  have hm := hD.2.1.1
  obtain ⟨l1, l2, l3⟩ := hD.2.1.2.2.2
  obtain ⟨g1, g2, g3, g4, g5, g6, g7, g8, g9, g10⟩ := gamk _ hk
  obtain ⟨p1, p2, p3, p4, p5, p6, p7, p8, p9⟩ := strk hS _ hk
  refine con_of_go mfX9_addField.1 (Nat.le_of_ble_eq_true rfl) (Nat.le_of_ble_eq_true rfl) rfl (by decide) ?_
  show Go _ _ _ _ 0 [vA _, vI _, vI _, vI _, vI _, vT 9 0, vT 9 0] [] _ _
  refine go_iload_n (at_of tX9_addField 0 0 rfl) rfl ?_
  refine go_cS (ok_Author h1) lk_X9_66 rfl (at_of tX9_addField 0 1 rfl) rfl (by decide) rfl (Nat.le_of_ble_eq_true rfl) rfl (by first | decide | exact ⟨Nat.zero_le _, Nat.zero_le _⟩) ?_
  refine go_aload_n (at_of tX9_addField 0 2 rfl) rfl ?_
  refine go_iload_n (at_of tX9_addField 0 3 rfl) rfl ?_
  refine go_cV (ok_Place hS hA h2) lk_X9_70 rfl G_0 (at_of tX9_addField 0 4 rfl) rfl (by decide) rfl (Nat.le_of_ble_eq_true rfl) rfl (by first | decide | exact ⟨Nat.zero_le _, Nat.zero_le _⟩) ?_
  refine go_istore (at_of tX9_addField 0 5 rfl) rfl rfl ?_
  refine go_iload_n (at_of tX9_addField 0 6 rfl) rfl ?_
  refine go_iload (at_of tX9_addField 0 7 rfl) rfl rfl ?_
  refine go_cS (ok_isFieldKind) lk_X9_93 rfl (at_of tX9_addField 0 8 rfl) rfl (by decide) rfl (Nat.le_of_ble_eq_true rfl) rfl (by first | decide | exact ⟨Nat.zero_le _, Nat.zero_le _⟩) ?_
  refine go_if_ne (tgt := 30) (at_of tX9_addField 0 9 rfl) (by decide) (fun h17 => ?_) (fun h17 => ?_)
  rotate_left
  · exfalso; exact bI_0.mp h17 h3
  refine go_aload_n (at_of tX9_addField 0 15 rfl) rfl ?_
  refine go_getr (q := 92) fl_X9_44 rfl G_0 ((hS _ _ rfl).trans rfl) (at_of tX9_addField 1 0 rfl) ?_
  refine go_cV (con_isFullF hS) lk_X9_99 rfl G_92 (at_of tX9_addField 1 1 rfl) rfl (by decide) rfl (Nat.le_of_ble_eq_true rfl) rfl (by first | decide | exact ⟨Nat.zero_le _, Nat.zero_le _⟩) ?_
  refine go_if_eq (tgt := 50) (at_of tX9_addField 1 2 rfl) (by decide) (fun h37 => ?_) (fun h37 => ?_)
  rotate_left
  · exfalso; exact h4 (bI_1.mp h37)
  refine go_aload_n (at_of tX9_addField 1 8 rfl) rfl ?_
  refine go_iload_n (at_of tX9_addField 1 9 rfl) rfl ?_
  refine go_iload (at_of tX9_addField 1 10 rfl) rfl rfl ?_
  exact go_tV (i := 2) (th_Writing3 hS hA htr ((@ixOf_le (A.1 A.2.1).1.1 (A.1 A.2.1).1.2.1 p hw1).resolve_left h2) h5) lk_X9_85 rfl G_0 (at_of tX9_addField 1 11 rfl) rfl rfl (by decide) rfl (Nat.le_of_ble_eq_true rfl) rfl ⟨by decide, by decide⟩
theorem th3_addField_f (hS : Str σ.2.1) {pi : Nat → Nat} {A : PastD} (hA : PastR σ pi A) {tr : Bool} (htr : σ.1 0 0 = bI (tr = true)) {a p d f : Int} (h1 : 0 ≤ a ∧ a < 4) (h2 : ixOf (A.1 A.2.1).1.1 (A.1 A.2.1).1.2.1 p ≠ -1) (h3 : (d = 99 ∨ (d = 114 ∧ 0 ≤ f ∧ f < 3) ∨ ((d = 108 ∨ d = 110 ∨ d = 112) ∧ 0 ≤ f ∧ f < 6))) (h4 : ¬ 20 ≤ σ.1 92 3) (h5 : cwE (A.1 A.2.1) tr a (ixOf (A.1 A.2.1).1.1 (A.1 A.2.1).1.2.1 p) = 4) : Con 5 mX9_addField 1 6 [vA 0, vI a, vI p, vI d, vI f] σ (vT 23 0, σ) := by
  obtain ⟨hp, hd, hu, hle, hrep⟩ := id hA
  have hk7 := (hp.1 A.2.1 (by omega)).2
  have hk : pi A.2.1 < 8 := by omega
  have hD := hrep A.2.1 (by omega)
  have hR := hD.1
  have hL := hD.2.1.2.2.1
  have hn := hR.1
  obtain ⟨hw1, hw2, hw3⟩ := hR.2.2.2
  have hm := hD.2.1.1
  obtain ⟨l1, l2, l3⟩ := hD.2.1.2.2.2
  obtain ⟨g1, g2, g3, g4, g5, g6, g7, g8, g9, g10⟩ := gamk _ hk
  obtain ⟨p1, p2, p3, p4, p5, p6, p7, p8, p9⟩ := strk hS _ hk
  refine con_of_go mfX9_addField.1 (Nat.le_of_ble_eq_true rfl) (Nat.le_of_ble_eq_true rfl) rfl (by decide) ?_
  show Go _ _ _ _ 0 [vA _, vI _, vI _, vI _, vI _, vT 9 0, vT 9 0] [] _ _
  refine go_iload_n (at_of tX9_addField 0 0 rfl) rfl ?_
  refine go_cS (ok_Author h1) lk_X9_66 rfl (at_of tX9_addField 0 1 rfl) rfl (by decide) rfl (Nat.le_of_ble_eq_true rfl) rfl (by first | decide | exact ⟨Nat.zero_le _, Nat.zero_le _⟩) ?_
  refine go_aload_n (at_of tX9_addField 0 2 rfl) rfl ?_
  refine go_iload_n (at_of tX9_addField 0 3 rfl) rfl ?_
  refine go_cV (ok_Place hS hA h2) lk_X9_70 rfl G_0 (at_of tX9_addField 0 4 rfl) rfl (by decide) rfl (Nat.le_of_ble_eq_true rfl) rfl (by first | decide | exact ⟨Nat.zero_le _, Nat.zero_le _⟩) ?_
  refine go_istore (at_of tX9_addField 0 5 rfl) rfl rfl ?_
  refine go_iload_n (at_of tX9_addField 0 6 rfl) rfl ?_
  refine go_iload (at_of tX9_addField 0 7 rfl) rfl rfl ?_
  refine go_cS (ok_isFieldKind) lk_X9_93 rfl (at_of tX9_addField 0 8 rfl) rfl (by decide) rfl (Nat.le_of_ble_eq_true rfl) rfl (by first | decide | exact ⟨Nat.zero_le _, Nat.zero_le _⟩) ?_
  refine go_if_ne (tgt := 30) (at_of tX9_addField 0 9 rfl) (by decide) (fun h17 => ?_) (fun h17 => ?_)
  rotate_left
  · exfalso; exact bI_0.mp h17 h3
  refine go_aload_n (at_of tX9_addField 0 15 rfl) rfl ?_
  refine go_getr (q := 92) fl_X9_44 rfl G_0 ((hS _ _ rfl).trans rfl) (at_of tX9_addField 1 0 rfl) ?_
  refine go_cV (con_isFullF hS) lk_X9_99 rfl G_92 (at_of tX9_addField 1 1 rfl) rfl (by decide) rfl (Nat.le_of_ble_eq_true rfl) rfl (by first | decide | exact ⟨Nat.zero_le _, Nat.zero_le _⟩) ?_
  refine go_if_eq (tgt := 50) (at_of tX9_addField 1 2 rfl) (by decide) (fun h37 => ?_) (fun h37 => ?_)
  rotate_left
  · exfalso; exact h4 (bI_1.mp h37)
  refine go_aload_n (at_of tX9_addField 1 8 rfl) rfl ?_
  refine go_iload_n (at_of tX9_addField 1 9 rfl) rfl ?_
  refine go_iload (at_of tX9_addField 1 10 rfl) rfl rfl ?_
  exact go_tV (i := 3) (th_Writing4 hS hA htr ((@ixOf_le (A.1 A.2.1).1.1 (A.1 A.2.1).1.2.1 p hw1).resolve_left h2) h5) lk_X9_85 rfl G_0 (at_of tX9_addField 1 11 rfl) rfl rfl (by decide) rfl (Nat.le_of_ble_eq_true rfl) rfl ⟨by decide, by decide⟩
def enF (σ : St) (d f : Int) : St := P1 (M1 (M1 σ 93 (σ.1 92 3) d) 94 (σ.1 92 3) f) 92 3 (σ.1 92 3 + 1)
theorem enF_frm {d f : Int} : Frm σ (enF σ d f) 92 94 := ((M1_frm (by omega)).trans (M1_frm (by omega))).trans (P1_frm (by omega))
theorem ok_addField (hS : Str σ.2.1) {pi : Nat → Nat} {A : PastD} (hA : PastR σ pi A) {tr : Bool} (htr : σ.1 0 0 = bI (tr = true)) {a p d f : Int} (h1 : 0 ≤ a ∧ a < 4) (h2 : ixOf (A.1 A.2.1).1.1 (A.1 A.2.1).1.2.1 p ≠ -1) (h3 : (d = 99 ∨ (d = 114 ∧ 0 ≤ f ∧ f < 3) ∨ ((d = 108 ∨ d = 110 ∨ d = 112) ∧ 0 ≤ f ∧ f < 6))) (h4 : ¬ 20 ≤ σ.1 92 3) (h5 : cwE (A.1 A.2.1) tr a (ixOf (A.1 A.2.1).1.1 (A.1 A.2.1).1.2.1 p) = 0) (h92 : 0 ≤ σ.1 92 3) : ∃ σ' pi', Con 5 mX9_addField 0 0 [vA 0, vI a, vI p, vI d, vI f] σ (vI (σ.1 92 3), σ') ∧ Ed (enF σ d f) σ' pi' (edA (begA A) (wrD (A.1 A.2.1) tr a (ixOf (A.1 A.2.1).1.1 (A.1 A.2.1).1.2.1 p) 64 (σ.1 92 3))) := by
  obtain ⟨hp, hd, hu, hle, hrep⟩ := id hA
  have hk7 := (hp.1 A.2.1 (by omega)).2
  have hk : pi A.2.1 < 8 := by omega
  have hD := hrep A.2.1 (by omega)
  have hR := hD.1
  have hL := hD.2.1.2.2.1
  have hn := hR.1
  obtain ⟨hw1, hw2, hw3⟩ := hR.2.2.2
  have hm := hD.2.1.1
  obtain ⟨l1, l2, l3⟩ := hD.2.1.2.2.2
  obtain ⟨g1, g2, g3, g4, g5, g6, g7, g8, g9, g10⟩ := gamk _ hk
  obtain ⟨p1, p2, p3, p4, p5, p6, p7, p8, p9⟩ := strk hS _ hk
  have hix := ((@ixOf_le (A.1 A.2.1).1.1 (A.1 A.2.1).1.2.1 p hw1).resolve_left h2)
  obtain ⟨hlt, hch⟩ := cwE_0 h5
  have hSe : Str (enF σ d f).2.1 := hS
  have hAe : PastR (enF σ d f) pi A := past_frm hA enF_frm (by omega)
  have htre : (enF σ d f).1 0 0 = bI (tr = true) := by rw [enF_frm.2 0 (by omega)]; exact htr
  obtain ⟨σ', pi', q1, q2⟩ := con_write hSe hAe htre (a := a) (i := ixOf (A.1 A.2.1).1.1 (A.1 A.2.1).1.2.1 p) (l := 64) (fd := σ.1 92 3) hix hlt hch
  refine ⟨σ', pi', ?_, q2⟩
  refine con_of_go mfX9_addField.1 trivial (Nat.le_of_ble_eq_true rfl) rfl (by decide) ?_
  show Go _ _ _ _ 0 [vA _, vI _, vI _, vI _, vI _, vT 9 0, vT 9 0] [] _ _
  refine go_iload_n (at_of tX9_addField 0 0 rfl) rfl ?_
  refine go_cS (ok_Author h1) lk_X9_66 rfl (at_of tX9_addField 0 1 rfl) rfl (by decide) rfl (Nat.le_of_ble_eq_true rfl) rfl (by first | decide | exact ⟨Nat.zero_le _, Nat.zero_le _⟩) ?_
  refine go_aload_n (at_of tX9_addField 0 2 rfl) rfl ?_
  refine go_iload_n (at_of tX9_addField 0 3 rfl) rfl ?_
  refine go_cV (ok_Place hS hA h2) lk_X9_70 rfl G_0 (at_of tX9_addField 0 4 rfl) rfl (by decide) rfl (Nat.le_of_ble_eq_true rfl) rfl (by first | decide | exact ⟨Nat.zero_le _, Nat.zero_le _⟩) ?_
  refine go_istore (at_of tX9_addField 0 5 rfl) rfl rfl ?_
  refine go_iload_n (at_of tX9_addField 0 6 rfl) rfl ?_
  refine go_iload (at_of tX9_addField 0 7 rfl) rfl rfl ?_
  refine go_cS (ok_isFieldKind) lk_X9_93 rfl (at_of tX9_addField 0 8 rfl) rfl (by decide) rfl (Nat.le_of_ble_eq_true rfl) rfl (by first | decide | exact ⟨Nat.zero_le _, Nat.zero_le _⟩) ?_
  refine go_if_ne (tgt := 30) (at_of tX9_addField 0 9 rfl) (by decide) (fun h17 => ?_) (fun h17 => ?_)
  rotate_left
  · exfalso; exact bI_0.mp h17 h3
  refine go_aload_n (at_of tX9_addField 0 15 rfl) rfl ?_
  refine go_getr (q := 92) fl_X9_44 rfl G_0 ((hS _ _ rfl).trans rfl) (at_of tX9_addField 1 0 rfl) ?_
  refine go_cV (con_isFullF hS) lk_X9_99 rfl G_92 (at_of tX9_addField 1 1 rfl) rfl (by decide) rfl (Nat.le_of_ble_eq_true rfl) rfl (by first | decide | exact ⟨Nat.zero_le _, Nat.zero_le _⟩) ?_
  refine go_if_eq (tgt := 50) (at_of tX9_addField 1 2 rfl) (by decide) (fun h37 => ?_) (fun h37 => ?_)
  rotate_left
  · exfalso; exact h4 (bI_1.mp h37)
  refine go_aload_n (at_of tX9_addField 1 8 rfl) rfl ?_
  refine go_iload_n (at_of tX9_addField 1 9 rfl) rfl ?_
  refine go_iload (at_of tX9_addField 1 10 rfl) rfl rfl ?_
  refine go_cV (ok_Writing hS hA htr hix h5) lk_X9_85 rfl G_0 (at_of tX9_addField 1 11 rfl) rfl (by decide) rfl (Nat.le_of_ble_eq_true rfl) rfl (by first | decide | exact ⟨Nat.zero_le _, Nat.zero_le _⟩) ?_
  refine go_aload_n (at_of tX9_addField 1 12 rfl) rfl ?_
  refine go_getr (q := 92) fl_X9_44 rfl G_0 ((hS _ _ rfl).trans rfl) (at_of tX9_addField 1 13 rfl) ?_
  refine go_iload_n (at_of tX9_addField 1 14 rfl) rfl ?_
  refine go_iload (at_of tX9_addField 1 15 rfl) rfl rfl ?_
  refine go_cV (con_enrollF hS (by omega)) lk_X9_108 rfl G_92 (at_of tX9_addField 2 0 rfl) rfl (by decide) rfl (Nat.le_of_ble_eq_true rfl) rfl (by first | decide | exact ⟨Nat.zero_le _, Nat.zero_le _⟩) ?_
  refine go_istore (at_of tX9_addField 2 1 rfl) rfl rfl ?_
  refine go_aload_n (at_of tX9_addField 2 2 rfl) rfl ?_
  refine go_iload_n (at_of tX9_addField 2 3 rfl) rfl ?_
  refine go_iload (at_of tX9_addField 2 4 rfl) rfl rfl ?_
  refine go_bipush (at_of tX9_addField 2 5 rfl) (by decide) ?_
  refine go_iload (at_of tX9_addField 2 6 rfl) rfl rfl ?_
  refine go_cV (q1) lk_X9_89 rfl G_0 (at_of tX9_addField 2 7 rfl) rfl (by decide) rfl (Nat.le_of_ble_eq_true rfl) rfl (by first | decide | exact ⟨Nat.zero_le _, Nat.zero_le _⟩) ?_
  refine go_pop (at_of tX9_addField 2 8 rfl) rfl ?_
  refine go_iload (at_of tX9_addField 2 9 rfl) rfl rfl ?_
  first | exact go_reti (at_of tX9_addField 2 10 rfl) rfl | exact go_reti (at_of tX9_addField 2 10 rfl) (le_i (by omega)) | exact go_reti (at_of tX9_addField 2 10 rfl) (le_i (by first | exact bI_t (by omega) | exact bI_f (by omega)))
theorem th0_setStyle_a (hS : Str σ.2.1) {pi : Nat → Nat} {A : PastD} (hA : PastR σ pi A) {tr : Bool} (htr : σ.1 0 0 = bI (tr = true)) {a p z : Int} (h1 : ¬ (0 ≤ a ∧ a < 4)) : Con 5 mX9_setStyle 1 6 [vA 0, vI a, vI p, vI z] σ (vT 20 0, σ) := by
  obtain ⟨hp, hd, hu, hle, hrep⟩ := id hA
  have hk7 := (hp.1 A.2.1 (by omega)).2
  have hk : pi A.2.1 < 8 := by omega
  have hD := hrep A.2.1 (by omega)
  have hR := hD.1
  have hL := hD.2.1.2.2.1
  have hn := hR.1
  obtain ⟨hw1, hw2, hw3⟩ := hR.2.2.2
  have hm := hD.2.1.1
  obtain ⟨l1, l2, l3⟩ := hD.2.1.2.2.2
  obtain ⟨g1, g2, g3, g4, g5, g6, g7, g8, g9, g10⟩ := gamk _ hk
  obtain ⟨p1, p2, p3, p4, p5, p6, p7, p8, p9⟩ := strk hS _ hk
  refine con_of_go mfX9_setStyle.1 (Nat.le_of_ble_eq_true rfl) (Nat.le_of_ble_eq_true rfl) rfl (by decide) ?_
  show Go _ _ _ _ 0 [vA _, vI _, vI _, vI _, vT 9 0, vT 9 0, vT 9 0] [] _ _
  refine go_iload_n (at_of tX9_setStyle 0 0 rfl) rfl ?_
  exact go_tS (i := 0) (th_Author h1) lk_X9_66 rfl (at_of tX9_setStyle 0 1 rfl) rfl rfl (by decide) rfl (Nat.le_of_ble_eq_true rfl) rfl ⟨by decide, by decide⟩
theorem th0_setStyle_b (hS : Str σ.2.1) {pi : Nat → Nat} {A : PastD} (hA : PastR σ pi A) {tr : Bool} (htr : σ.1 0 0 = bI (tr = true)) {a p z : Int} (h1 : 0 ≤ a ∧ a < 4) (h2 : ixEnd (A.1 A.2.1).1.1 (A.1 A.2.1).1.2.1 p = -1) : Con 5 mX9_setStyle 1 6 [vA 0, vI a, vI p, vI z] σ (vT 20 0, σ) := by
  obtain ⟨hp, hd, hu, hle, hrep⟩ := id hA
  have hk7 := (hp.1 A.2.1 (by omega)).2
  have hk : pi A.2.1 < 8 := by omega
  have hD := hrep A.2.1 (by omega)
  have hR := hD.1
  have hL := hD.2.1.2.2.1
  have hn := hR.1
  obtain ⟨hw1, hw2, hw3⟩ := hR.2.2.2
  have hm := hD.2.1.1
  obtain ⟨l1, l2, l3⟩ := hD.2.1.2.2.2
  obtain ⟨g1, g2, g3, g4, g5, g6, g7, g8, g9, g10⟩ := gamk _ hk
  obtain ⟨p1, p2, p3, p4, p5, p6, p7, p8, p9⟩ := strk hS _ hk
  refine con_of_go mfX9_setStyle.1 (Nat.le_of_ble_eq_true rfl) (Nat.le_of_ble_eq_true rfl) rfl (by decide) ?_
  show Go _ _ _ _ 0 [vA _, vI _, vI _, vI _, vT 9 0, vT 9 0, vT 9 0] [] _ _
  refine go_iload_n (at_of tX9_setStyle 0 0 rfl) rfl ?_
  refine go_cS (ok_Author h1) lk_X9_66 rfl (at_of tX9_setStyle 0 1 rfl) rfl (by decide) rfl (Nat.le_of_ble_eq_true rfl) rfl (by first | decide | exact ⟨Nat.zero_le _, Nat.zero_le _⟩) ?_
  refine go_aload_n (at_of tX9_setStyle 0 2 rfl) rfl ?_
  refine go_iload_n (at_of tX9_setStyle 0 3 rfl) rfl ?_
  exact go_tV (i := 0) (th_End hS hA h2) lk_X9_156 rfl G_0 (at_of tX9_setStyle 0 4 rfl) rfl rfl (by decide) rfl (Nat.le_of_ble_eq_true rfl) rfl ⟨by decide, by decide⟩
theorem th0_setStyle_c (hS : Str σ.2.1) {pi : Nat → Nat} {A : PastD} (hA : PastR σ pi A) {tr : Bool} (htr : σ.1 0 0 = bI (tr = true)) {a p z : Int} (h1 : 0 ≤ a ∧ a < 4) (h2 : ixEnd (A.1 A.2.1).1.1 (A.1 A.2.1).1.2.1 p ≠ -1) (h3 : ¬ (0 ≤ z ∧ z < σ.1 83 3)) : Con 5 mX9_setStyle 1 6 [vA 0, vI a, vI p, vI z] σ (vT 20 0, σ) := by
  obtain ⟨hp, hd, hu, hle, hrep⟩ := id hA
  have hk7 := (hp.1 A.2.1 (by omega)).2
  have hk : pi A.2.1 < 8 := by omega
  have hD := hrep A.2.1 (by omega)
  have hR := hD.1
  have hL := hD.2.1.2.2.1
  have hn := hR.1
  obtain ⟨hw1, hw2, hw3⟩ := hR.2.2.2
  have hm := hD.2.1.1
  obtain ⟨l1, l2, l3⟩ := hD.2.1.2.2.2
  obtain ⟨g1, g2, g3, g4, g5, g6, g7, g8, g9, g10⟩ := gamk _ hk
  obtain ⟨p1, p2, p3, p4, p5, p6, p7, p8, p9⟩ := strk hS _ hk
  refine con_of_go mfX9_setStyle.1 (Nat.le_of_ble_eq_true rfl) (Nat.le_of_ble_eq_true rfl) rfl (by decide) ?_
  show Go _ _ _ _ 0 [vA _, vI _, vI _, vI _, vT 9 0, vT 9 0, vT 9 0] [] _ _
  refine go_iload_n (at_of tX9_setStyle 0 0 rfl) rfl ?_
  refine go_cS (ok_Author h1) lk_X9_66 rfl (at_of tX9_setStyle 0 1 rfl) rfl (by decide) rfl (Nat.le_of_ble_eq_true rfl) rfl (by first | decide | exact ⟨Nat.zero_le _, Nat.zero_le _⟩) ?_
  refine go_aload_n (at_of tX9_setStyle 0 2 rfl) rfl ?_
  refine go_iload_n (at_of tX9_setStyle 0 3 rfl) rfl ?_
  refine go_cV (ok_End hS hA h2) lk_X9_156 rfl G_0 (at_of tX9_setStyle 0 4 rfl) rfl (by decide) rfl (Nat.le_of_ble_eq_true rfl) rfl (by first | decide | exact ⟨Nat.zero_le _, Nat.zero_le _⟩) ?_
  refine go_istore (at_of tX9_setStyle 0 5 rfl) rfl rfl ?_
  refine go_aload_n (at_of tX9_setStyle 0 6 rfl) rfl ?_
  refine go_getr (q := 83) fl_X9_30 rfl G_0 ((hS _ _ rfl).trans rfl) (at_of tX9_setStyle 0 7 rfl) ?_
  refine go_iload_n (at_of tX9_setStyle 0 8 rfl) rfl ?_
  refine go_cV (con_hasStyle hS) lk_X9_159 rfl G_83 (at_of tX9_setStyle 0 9 rfl) rfl (by decide) rfl (Nat.le_of_ble_eq_true rfl) rfl (by first | decide | exact ⟨Nat.zero_le _, Nat.zero_le _⟩) ?_
  refine go_if_ne (tgt := 32) (at_of tX9_setStyle 0 10 rfl) (by decide) (fun h19 => ?_) (fun h19 => ?_)
  · exfalso; exact h3 (bI_1.mp h19)
  exact go_throw (i := 0) (Or.inl ⟨163, 165, 167, _, (at_of tX9_setStyle 0 11 rfl), (at_of tX9_setStyle 0 12 rfl), (at_of tX9_setStyle 0 13 rfl), (at_of tX9_setStyle 0 14 rfl), (at_of tX9_setStyle 0 15 rfl), cl_X9_163, List.mem_of_getElem? (i := 11) rfl, inL 824 (by decide +kernel) (by decide +kernel)⟩) (by decide) rfl (Nat.le_of_ble_eq_true rfl) ⟨by decide, by decide⟩ rfl
theorem th2_setStyle_d (hS : Str σ.2.1) {pi : Nat → Nat} {A : PastD} (hA : PastR σ pi A) {tr : Bool} (htr : σ.1 0 0 = bI (tr = true)) {a p z : Int} (h1 : 0 ≤ a ∧ a < 4) (h2 : ixEnd (A.1 A.2.1).1.1 (A.1 A.2.1).1.2.1 p ≠ -1) (h3 : 0 ≤ z ∧ z < σ.1 83 3) (h4 : (tr = true ∧ 60 ≤ (A.1 A.2.1).2.1.1 ∧ (A.1 A.2.1).1.1 4 (ixEnd (A.1 A.2.1).1.1 (A.1 A.2.1).1.2.1 p) = -1)) : Con 5 mX9_setStyle 1 6 [vA 0, vI a, vI p, vI z] σ (vT 22 0, σ) := by
  obtain ⟨hp, hd, hu, hle, hrep⟩ := id hA
  have hk7 := (hp.1 A.2.1 (by omega)).2
  have hk : pi A.2.1 < 8 := by omega
  have hD := hrep A.2.1 (by omega)
  have hR := hD.1
  have hL := hD.2.1.2.2.1
  have hn := hR.1
  obtain ⟨hw1, hw2, hw3⟩ := hR.2.2.2
  have hm := hD.2.1.1
  obtain ⟨l1, l2, l3⟩ := hD.2.1.2.2.2
  obtain ⟨g1, g2, g3, g4, g5, g6, g7, g8, g9, g10⟩ := gamk _ hk
  obtain ⟨p1, p2, p3, p4, p5, p6, p7, p8, p9⟩ := strk hS _ hk
  have hie := ((@ixEnd_le (A.1 A.2.1).1.1 (A.1 A.2.1).1.2.1 p hw1).resolve_left h2)
  obtain ⟨rfl, h5, h6⟩ := h4
  refine con_of_go mfX9_setStyle.1 (Nat.le_of_ble_eq_true rfl) (Nat.le_of_ble_eq_true rfl) rfl (by decide) ?_
  show Go _ _ _ _ 0 [vA _, vI _, vI _, vI _, vT 9 0, vT 9 0, vT 9 0] [] _ _
  refine go_iload_n (at_of tX9_setStyle 0 0 rfl) rfl ?_
  refine go_cS (ok_Author h1) lk_X9_66 rfl (at_of tX9_setStyle 0 1 rfl) rfl (by decide) rfl (Nat.le_of_ble_eq_true rfl) rfl (by first | decide | exact ⟨Nat.zero_le _, Nat.zero_le _⟩) ?_
  refine go_aload_n (at_of tX9_setStyle 0 2 rfl) rfl ?_
  refine go_iload_n (at_of tX9_setStyle 0 3 rfl) rfl ?_
  refine go_cV (ok_End hS hA h2) lk_X9_156 rfl G_0 (at_of tX9_setStyle 0 4 rfl) rfl (by decide) rfl (Nat.le_of_ble_eq_true rfl) rfl (by first | decide | exact ⟨Nat.zero_le _, Nat.zero_le _⟩) ?_
  refine go_istore (at_of tX9_setStyle 0 5 rfl) rfl rfl ?_
  refine go_aload_n (at_of tX9_setStyle 0 6 rfl) rfl ?_
  refine go_getr (q := 83) fl_X9_30 rfl G_0 ((hS _ _ rfl).trans rfl) (at_of tX9_setStyle 0 7 rfl) ?_
  refine go_iload_n (at_of tX9_setStyle 0 8 rfl) rfl ?_
  refine go_cV (con_hasStyle hS) lk_X9_159 rfl G_83 (at_of tX9_setStyle 0 9 rfl) rfl (by decide) rfl (Nat.le_of_ble_eq_true rfl) rfl (by first | decide | exact ⟨Nat.zero_le _, Nat.zero_le _⟩) ?_
  refine go_if_ne (tgt := 32) (at_of tX9_setStyle 0 10 rfl) (by decide) (fun h19 => ?_) (fun h19 => ?_)
  rotate_left
  · exfalso; exact bI_0.mp h19 h3
  refine go_aload_n (at_of tX9_setStyle 1 0 rfl) rfl ?_
  refine go_getr (q := 1) fl_X9_16 rfl G_0 ((hS _ _ rfl).trans rfl) (at_of tX9_setStyle 1 1 rfl) ?_
  refine go_cV (con_now hS hA) lk_X9_114 rfl g1_ (at_of tX9_setStyle 1 2 rfl) rfl (by decide) rfl (Nat.le_of_ble_eq_true rfl) rfl (by first | decide | exact ⟨Nat.zero_le _, Nat.zero_le _⟩) ?_
  refine go_astore (at_of tX9_setStyle 1 3 rfl) rfl rfl ?_
  refine go_aload_n (at_of tX9_setStyle 1 4 rfl) rfl ?_
  refine go_getf fl_X9_7 rfl G_0 (at_of tX9_setStyle 1 5 rfl) ?_
  refine go_if_eq (tgt := 84) (at_of tX9_setStyle 1 6 rfl) (by decide) (fun h45 => ?_) (fun h45 => ?_)
  · exfalso; rw [htr] at h45; exact absurd h45 (by decide)
  refine go_aload (at_of tX9_setStyle 1 7 rfl) rfl ?_
  refine go_getr (q := (8 + 10 * pi A.2.1)) fl_X9_118 rfl g1 p2 (at_of tX9_setStyle 1 8 rfl) ?_
  refine go_cV (l_isFull hS hk hD) lk_X9_122 rfl g6 (at_of tX9_setStyle 1 9 rfl) rfl (by decide) rfl (Nat.le_of_ble_eq_true rfl) rfl (by first | decide | exact ⟨Nat.zero_le _, Nat.zero_le _⟩) ?_
  refine go_if_eq (tgt := 84) (at_of tX9_setStyle 1 10 rfl) (by decide) (fun h56 => ?_) (fun h56 => ?_)
  · exfalso; exact bI_0.mp h56 h5
  refine go_aload (at_of tX9_setStyle 1 11 rfl) rfl ?_
  refine go_getr (q := (4 + 10 * pi A.2.1)) fl_X9_131 rfl g1 p1 (at_of tX9_setStyle 1 12 rfl) ?_
  refine go_iconst (at_of tX9_setStyle 1 13 rfl) (by unfold in32; omega) ?_
  refine go_iload (at_of tX9_setStyle 1 14 rfl) rfl rfl ?_
  refine go_cV (r_fact hS hk hR (by omega) (by omega)) lk_X9_168 rfl g2 (at_of tX9_setStyle 1 15 rfl) rfl (by decide) rfl (Nat.le_of_ble_eq_true rfl) rfl (by first | decide | exact ⟨Nat.zero_le _, Nat.zero_le _⟩) ?_
  refine go_iconst (at_of tX9_setStyle 2 0 rfl) (by unfold in32; omega) ?_
  refine go_icmp_ne (tgt := 84) (at_of tX9_setStyle 2 1 rfl) (by decide) (fun h71 => ?_) (fun h71 => ?_)
  · exfalso; omega
  exact go_throw (i := 2) (Or.inl ⟨103, 129, 107, _, (at_of tX9_setStyle 2 2 rfl), (at_of tX9_setStyle 2 3 rfl), (at_of tX9_setStyle 2 4 rfl), (at_of tX9_setStyle 2 5 rfl), (at_of tX9_setStyle 2 6 rfl), cl_X9_103, List.mem_of_getElem? (i := 4) rfl, inL 865 (by decide +kernel) (by decide +kernel)⟩) (by decide) rfl (Nat.le_of_ble_eq_true rfl) ⟨by decide, by decide⟩ rfl
theorem th3_setStyle_e (hS : Str σ.2.1) {pi : Nat → Nat} {A : PastD} (hA : PastR σ pi A) {tr : Bool} (htr : σ.1 0 0 = bI (tr = true)) {a p z : Int} (h1 : 0 ≤ a ∧ a < 4) (h2 : ixEnd (A.1 A.2.1).1.1 (A.1 A.2.1).1.2.1 p ≠ -1) (h3 : 0 ≤ z ∧ z < σ.1 83 3) (h4 : ¬ (tr = true ∧ 60 ≤ (A.1 A.2.1).2.1.1 ∧ (A.1 A.2.1).1.1 4 (ixEnd (A.1 A.2.1).1.1 (A.1 A.2.1).1.2.1 p) = -1)) (h8 : (A.1 A.2.1).1.1 10 (ixEnd (A.1 A.2.1).1.1 (A.1 A.2.1).1.2.1 p) = 1) : Con 5 mX9_setStyle 1 6 [vA 0, vI a, vI p, vI z] σ (vT 23 0, σ) := by
  obtain ⟨hp, hd, hu, hle, hrep⟩ := id hA
  have hk7 := (hp.1 A.2.1 (by omega)).2
  have hk : pi A.2.1 < 8 := by omega
  have hD := hrep A.2.1 (by omega)
  have hR := hD.1
  have hL := hD.2.1.2.2.1
  have hn := hR.1
  obtain ⟨hw1, hw2, hw3⟩ := hR.2.2.2
  have hm := hD.2.1.1
  obtain ⟨l1, l2, l3⟩ := hD.2.1.2.2.2
  obtain ⟨g1, g2, g3, g4, g5, g6, g7, g8, g9, g10⟩ := gamk _ hk
  obtain ⟨p1, p2, p3, p4, p5, p6, p7, p8, p9⟩ := strk hS _ hk
  have hie := ((@ixEnd_le (A.1 A.2.1).1.1 (A.1 A.2.1).1.2.1 p hw1).resolve_left h2)
  cases tr with
  | false =>
    refine con_of_go mfX9_setStyle.1 (Nat.le_of_ble_eq_true rfl) (Nat.le_of_ble_eq_true rfl) rfl (by decide) ?_
    show Go _ _ _ _ 0 [vA _, vI _, vI _, vI _, vT 9 0, vT 9 0, vT 9 0] [] _ _
    refine go_iload_n (at_of tX9_setStyle 0 0 rfl) rfl ?_
    refine go_cS (ok_Author h1) lk_X9_66 rfl (at_of tX9_setStyle 0 1 rfl) rfl (by decide) rfl (Nat.le_of_ble_eq_true rfl) rfl (by first | decide | exact ⟨Nat.zero_le _, Nat.zero_le _⟩) ?_
    refine go_aload_n (at_of tX9_setStyle 0 2 rfl) rfl ?_
    refine go_iload_n (at_of tX9_setStyle 0 3 rfl) rfl ?_
    refine go_cV (ok_End hS hA h2) lk_X9_156 rfl G_0 (at_of tX9_setStyle 0 4 rfl) rfl (by decide) rfl (Nat.le_of_ble_eq_true rfl) rfl (by first | decide | exact ⟨Nat.zero_le _, Nat.zero_le _⟩) ?_
    refine go_istore (at_of tX9_setStyle 0 5 rfl) rfl rfl ?_
    refine go_aload_n (at_of tX9_setStyle 0 6 rfl) rfl ?_
    refine go_getr (q := 83) fl_X9_30 rfl G_0 ((hS _ _ rfl).trans rfl) (at_of tX9_setStyle 0 7 rfl) ?_
    refine go_iload_n (at_of tX9_setStyle 0 8 rfl) rfl ?_
    refine go_cV (con_hasStyle hS) lk_X9_159 rfl G_83 (at_of tX9_setStyle 0 9 rfl) rfl (by decide) rfl (Nat.le_of_ble_eq_true rfl) rfl (by first | decide | exact ⟨Nat.zero_le _, Nat.zero_le _⟩) ?_
    refine go_if_ne (tgt := 32) (at_of tX9_setStyle 0 10 rfl) (by decide) (fun h19 => ?_) (fun h19 => ?_)
    rotate_left
    · exfalso; exact bI_0.mp h19 h3
    refine go_aload_n (at_of tX9_setStyle 1 0 rfl) rfl ?_
    refine go_getr (q := 1) fl_X9_16 rfl G_0 ((hS _ _ rfl).trans rfl) (at_of tX9_setStyle 1 1 rfl) ?_
    refine go_cV (con_now hS hA) lk_X9_114 rfl g1_ (at_of tX9_setStyle 1 2 rfl) rfl (by decide) rfl (Nat.le_of_ble_eq_true rfl) rfl (by first | decide | exact ⟨Nat.zero_le _, Nat.zero_le _⟩) ?_
    refine go_astore (at_of tX9_setStyle 1 3 rfl) rfl rfl ?_
    refine go_aload_n (at_of tX9_setStyle 1 4 rfl) rfl ?_
    refine go_getf fl_X9_7 rfl G_0 (at_of tX9_setStyle 1 5 rfl) ?_
    refine go_if_eq (tgt := 84) (at_of tX9_setStyle 1 6 rfl) (by decide) (fun h45 => ?_) (fun h45 => ?_)
    rotate_left
    · exfalso; rw [htr] at h45; exact h45 (by decide)
    refine go_aload_n (at_of tX9_setStyle 2 7 rfl) rfl ?_
    refine go_iload (at_of tX9_setStyle 2 8 rfl) rfl rfl ?_
    exact go_tV (i := 3) (th_Ung hS hA hie h8) lk_X9_172 rfl G_0 (at_of tX9_setStyle 2 9 rfl) rfl rfl (by decide) rfl (Nat.le_of_ble_eq_true rfl) rfl ⟨by decide, by decide⟩
  | true =>
    by_cases h5 : 60 ≤ (A.1 A.2.1).2.1.1
    · have h6 : ¬ (A.1 A.2.1).1.1 4 (ixEnd (A.1 A.2.1).1.1 (A.1 A.2.1).1.2.1 p) = -1 := fun q => h4 ⟨rfl, h5, q⟩
      refine con_of_go mfX9_setStyle.1 (Nat.le_of_ble_eq_true rfl) (Nat.le_of_ble_eq_true rfl) rfl (by decide) ?_
      show Go _ _ _ _ 0 [vA _, vI _, vI _, vI _, vT 9 0, vT 9 0, vT 9 0] [] _ _
      refine go_iload_n (at_of tX9_setStyle 0 0 rfl) rfl ?_
      refine go_cS (ok_Author h1) lk_X9_66 rfl (at_of tX9_setStyle 0 1 rfl) rfl (by decide) rfl (Nat.le_of_ble_eq_true rfl) rfl (by first | decide | exact ⟨Nat.zero_le _, Nat.zero_le _⟩) ?_
      refine go_aload_n (at_of tX9_setStyle 0 2 rfl) rfl ?_
      refine go_iload_n (at_of tX9_setStyle 0 3 rfl) rfl ?_
      refine go_cV (ok_End hS hA h2) lk_X9_156 rfl G_0 (at_of tX9_setStyle 0 4 rfl) rfl (by decide) rfl (Nat.le_of_ble_eq_true rfl) rfl (by first | decide | exact ⟨Nat.zero_le _, Nat.zero_le _⟩) ?_
      refine go_istore (at_of tX9_setStyle 0 5 rfl) rfl rfl ?_
      refine go_aload_n (at_of tX9_setStyle 0 6 rfl) rfl ?_
      refine go_getr (q := 83) fl_X9_30 rfl G_0 ((hS _ _ rfl).trans rfl) (at_of tX9_setStyle 0 7 rfl) ?_
      refine go_iload_n (at_of tX9_setStyle 0 8 rfl) rfl ?_
      refine go_cV (con_hasStyle hS) lk_X9_159 rfl G_83 (at_of tX9_setStyle 0 9 rfl) rfl (by decide) rfl (Nat.le_of_ble_eq_true rfl) rfl (by first | decide | exact ⟨Nat.zero_le _, Nat.zero_le _⟩) ?_
      refine go_if_ne (tgt := 32) (at_of tX9_setStyle 0 10 rfl) (by decide) (fun h19 => ?_) (fun h19 => ?_)
      rotate_left
      · exfalso; exact bI_0.mp h19 h3
      refine go_aload_n (at_of tX9_setStyle 1 0 rfl) rfl ?_
      refine go_getr (q := 1) fl_X9_16 rfl G_0 ((hS _ _ rfl).trans rfl) (at_of tX9_setStyle 1 1 rfl) ?_
      refine go_cV (con_now hS hA) lk_X9_114 rfl g1_ (at_of tX9_setStyle 1 2 rfl) rfl (by decide) rfl (Nat.le_of_ble_eq_true rfl) rfl (by first | decide | exact ⟨Nat.zero_le _, Nat.zero_le _⟩) ?_
      refine go_astore (at_of tX9_setStyle 1 3 rfl) rfl rfl ?_
      refine go_aload_n (at_of tX9_setStyle 1 4 rfl) rfl ?_
      refine go_getf fl_X9_7 rfl G_0 (at_of tX9_setStyle 1 5 rfl) ?_
      refine go_if_eq (tgt := 84) (at_of tX9_setStyle 1 6 rfl) (by decide) (fun h45 => ?_) (fun h45 => ?_)
      · exfalso; rw [htr] at h45; exact absurd h45 (by decide)
      refine go_aload (at_of tX9_setStyle 1 7 rfl) rfl ?_
      refine go_getr (q := (8 + 10 * pi A.2.1)) fl_X9_118 rfl g1 p2 (at_of tX9_setStyle 1 8 rfl) ?_
      refine go_cV (l_isFull hS hk hD) lk_X9_122 rfl g6 (at_of tX9_setStyle 1 9 rfl) rfl (by decide) rfl (Nat.le_of_ble_eq_true rfl) rfl (by first | decide | exact ⟨Nat.zero_le _, Nat.zero_le _⟩) ?_
      refine go_if_eq (tgt := 84) (at_of tX9_setStyle 1 10 rfl) (by decide) (fun h56 => ?_) (fun h56 => ?_)
      · exfalso; exact bI_0.mp h56 h5
      refine go_aload (at_of tX9_setStyle 1 11 rfl) rfl ?_
      refine go_getr (q := (4 + 10 * pi A.2.1)) fl_X9_131 rfl g1 p1 (at_of tX9_setStyle 1 12 rfl) ?_
      refine go_iconst (at_of tX9_setStyle 1 13 rfl) (by unfold in32; omega) ?_
      refine go_iload (at_of tX9_setStyle 1 14 rfl) rfl rfl ?_
      refine go_cV (r_fact hS hk hR (by omega) (by omega)) lk_X9_168 rfl g2 (at_of tX9_setStyle 1 15 rfl) rfl (by decide) rfl (Nat.le_of_ble_eq_true rfl) rfl (by first | decide | exact ⟨Nat.zero_le _, Nat.zero_le _⟩) ?_
      refine go_iconst (at_of tX9_setStyle 2 0 rfl) (by unfold in32; omega) ?_
      refine go_icmp_ne (tgt := 84) (at_of tX9_setStyle 2 1 rfl) (by decide) (fun h71 => ?_) (fun h71 => ?_)
      rotate_left
      · exfalso; omega
      refine go_aload_n (at_of tX9_setStyle 2 7 rfl) rfl ?_
      refine go_iload (at_of tX9_setStyle 2 8 rfl) rfl rfl ?_
      exact go_tV (i := 3) (th_Ung hS hA hie h8) lk_X9_172 rfl G_0 (at_of tX9_setStyle 2 9 rfl) rfl rfl (by decide) rfl (Nat.le_of_ble_eq_true rfl) rfl ⟨by decide, by decide⟩
    · skip
      refine con_of_go mfX9_setStyle.1 (Nat.le_of_ble_eq_true rfl) (Nat.le_of_ble_eq_true rfl) rfl (by decide) ?_
      show Go _ _ _ _ 0 [vA _, vI _, vI _, vI _, vT 9 0, vT 9 0, vT 9 0] [] _ _
      refine go_iload_n (at_of tX9_setStyle 0 0 rfl) rfl ?_
      refine go_cS (ok_Author h1) lk_X9_66 rfl (at_of tX9_setStyle 0 1 rfl) rfl (by decide) rfl (Nat.le_of_ble_eq_true rfl) rfl (by first | decide | exact ⟨Nat.zero_le _, Nat.zero_le _⟩) ?_
      refine go_aload_n (at_of tX9_setStyle 0 2 rfl) rfl ?_
      refine go_iload_n (at_of tX9_setStyle 0 3 rfl) rfl ?_
      refine go_cV (ok_End hS hA h2) lk_X9_156 rfl G_0 (at_of tX9_setStyle 0 4 rfl) rfl (by decide) rfl (Nat.le_of_ble_eq_true rfl) rfl (by first | decide | exact ⟨Nat.zero_le _, Nat.zero_le _⟩) ?_
      refine go_istore (at_of tX9_setStyle 0 5 rfl) rfl rfl ?_
      refine go_aload_n (at_of tX9_setStyle 0 6 rfl) rfl ?_
      refine go_getr (q := 83) fl_X9_30 rfl G_0 ((hS _ _ rfl).trans rfl) (at_of tX9_setStyle 0 7 rfl) ?_
      refine go_iload_n (at_of tX9_setStyle 0 8 rfl) rfl ?_
      refine go_cV (con_hasStyle hS) lk_X9_159 rfl G_83 (at_of tX9_setStyle 0 9 rfl) rfl (by decide) rfl (Nat.le_of_ble_eq_true rfl) rfl (by first | decide | exact ⟨Nat.zero_le _, Nat.zero_le _⟩) ?_
      refine go_if_ne (tgt := 32) (at_of tX9_setStyle 0 10 rfl) (by decide) (fun h19 => ?_) (fun h19 => ?_)
      rotate_left
      · exfalso; exact bI_0.mp h19 h3
      refine go_aload_n (at_of tX9_setStyle 1 0 rfl) rfl ?_
      refine go_getr (q := 1) fl_X9_16 rfl G_0 ((hS _ _ rfl).trans rfl) (at_of tX9_setStyle 1 1 rfl) ?_
      refine go_cV (con_now hS hA) lk_X9_114 rfl g1_ (at_of tX9_setStyle 1 2 rfl) rfl (by decide) rfl (Nat.le_of_ble_eq_true rfl) rfl (by first | decide | exact ⟨Nat.zero_le _, Nat.zero_le _⟩) ?_
      refine go_astore (at_of tX9_setStyle 1 3 rfl) rfl rfl ?_
      refine go_aload_n (at_of tX9_setStyle 1 4 rfl) rfl ?_
      refine go_getf fl_X9_7 rfl G_0 (at_of tX9_setStyle 1 5 rfl) ?_
      refine go_if_eq (tgt := 84) (at_of tX9_setStyle 1 6 rfl) (by decide) (fun h45 => ?_) (fun h45 => ?_)
      · exfalso; rw [htr] at h45; exact absurd h45 (by decide)
      refine go_aload (at_of tX9_setStyle 1 7 rfl) rfl ?_
      refine go_getr (q := (8 + 10 * pi A.2.1)) fl_X9_118 rfl g1 p2 (at_of tX9_setStyle 1 8 rfl) ?_
      refine go_cV (l_isFull hS hk hD) lk_X9_122 rfl g6 (at_of tX9_setStyle 1 9 rfl) rfl (by decide) rfl (Nat.le_of_ble_eq_true rfl) rfl (by first | decide | exact ⟨Nat.zero_le _, Nat.zero_le _⟩) ?_
      refine go_if_eq (tgt := 84) (at_of tX9_setStyle 1 10 rfl) (by decide) (fun h56 => ?_) (fun h56 => ?_)
      rotate_left
      · exfalso; exact h5 (bI_1.mp h56)
      refine go_aload_n (at_of tX9_setStyle 2 7 rfl) rfl ?_
      refine go_iload (at_of tX9_setStyle 2 8 rfl) rfl rfl ?_
      exact go_tV (i := 3) (th_Ung hS hA hie h8) lk_X9_172 rfl G_0 (at_of tX9_setStyle 2 9 rfl) rfl rfl (by decide) rfl (Nat.le_of_ble_eq_true rfl) rfl ⟨by decide, by decide⟩
theorem ok_setStyle_t (hS : Str σ.2.1) {pi : Nat → Nat} {A : PastD} (hA : PastR σ pi A) {a p z : Int} (htr : σ.1 0 0 = bI (true = true)) (h1 : 0 ≤ a ∧ a < 4) (h2 : ixEnd (A.1 A.2.1).1.1 (A.1 A.2.1).1.2.1 p ≠ -1) (h3 : 0 ≤ z ∧ z < σ.1 83 3) (h4 : ¬ (true = true ∧ 60 ≤ (A.1 A.2.1).2.1.1 ∧ (A.1 A.2.1).1.1 4 (ixEnd (A.1 A.2.1).1.1 (A.1 A.2.1).1.2.1 p) = -1)) (h8 : (A.1 A.2.1).1.1 10 (ixEnd (A.1 A.2.1).1.1 (A.1 A.2.1).1.2.1 p) ≠ 1) : ∃ σ' pi', Con 5 mX9_setStyle 0 0 [vA 0, vI a, vI p, vI z] σ (vI (rstyC (A.1 A.2.1) (ixEnd (A.1 A.2.1).1.1 (A.1 A.2.1).1.2.1 p)), σ') ∧ Ed σ σ' pi' (edA (begA A) (rstyD (A.1 A.2.1) a (ixEnd (A.1 A.2.1).1.1 (A.1 A.2.1).1.2.1 p) z)) := by
  obtain ⟨hp, hd, hu, hle, hrep⟩ := id hA
  have hk7 := (hp.1 A.2.1 (by omega)).2
  have hk : pi A.2.1 < 8 := by omega
  have hD := hrep A.2.1 (by omega)
  have hR := hD.1
  have hL := hD.2.1.2.2.1
  have hn := hR.1
  obtain ⟨hw1, hw2, hw3⟩ := hR.2.2.2
  have hm := hD.2.1.1
  obtain ⟨l1, l2, l3⟩ := hD.2.1.2.2.2
  obtain ⟨g1, g2, g3, g4, g5, g6, g7, g8, g9, g10⟩ := gamk _ hk
  obtain ⟨p1, p2, p3, p4, p5, p6, p7, p8, p9⟩ := strk hS _ hk
  have hie := ((@ixEnd_le (A.1 A.2.1).1.1 (A.1 A.2.1).1.2.1 p hw1).resolve_left h2)
  obtain ⟨σ1, k1, pi1, hkk, b1, b2, b3, hk1, hS1⟩ := beg_ex hS hA
  have e00 : σ1.1 0 0 = σ.1 0 0 := b2.2.2.2 0 (by omega) 0
  obtain ⟨s1, s2, s3, s4, s5, s6, s7, s8, s9, s10⟩ := gamk k1 hk1
  obtain ⟨t1, t2, t3, t4, t5, t6, t7, t8, t9⟩ := strk hS1 k1 hk1
  obtain ⟨σ', c1, c2, c3⟩ := con_restyle hS1 hk1 b3 (a := a) (e := ixEnd (A.1 A.2.1).1.1 (A.1 A.2.1).1.2.1 p) (z := z) hie (fun q => by
    by_cases h5 : 60 ≤ (A.1 A.2.1).2.1.1
    · exact absurd ⟨rfl, h5, q⟩ h4
    · omega)
  refine ⟨σ', pi1, ?_, Ed.pap b2 hkk c2 (c3.mono (by omega) (by omega))⟩
  by_cases h5 : 60 ≤ (A.1 A.2.1).2.1.1
  · have h6 : ¬ (A.1 A.2.1).1.1 4 (ixEnd (A.1 A.2.1).1.1 (A.1 A.2.1).1.2.1 p) = -1 := fun q => h4 ⟨rfl, h5, q⟩
    refine con_of_go mfX9_setStyle.1 trivial (Nat.le_of_ble_eq_true rfl) rfl (by decide) ?_
    show Go _ _ _ _ 0 [vA _, vI _, vI _, vI _, vT 9 0, vT 9 0, vT 9 0] [] _ _
    refine go_iload_n (at_of tX9_setStyle 0 0 rfl) rfl ?_
    refine go_cS (ok_Author h1) lk_X9_66 rfl (at_of tX9_setStyle 0 1 rfl) rfl (by decide) rfl (Nat.le_of_ble_eq_true rfl) rfl (by first | decide | exact ⟨Nat.zero_le _, Nat.zero_le _⟩) ?_
    refine go_aload_n (at_of tX9_setStyle 0 2 rfl) rfl ?_
    refine go_iload_n (at_of tX9_setStyle 0 3 rfl) rfl ?_
    refine go_cV (ok_End hS hA h2) lk_X9_156 rfl G_0 (at_of tX9_setStyle 0 4 rfl) rfl (by decide) rfl (Nat.le_of_ble_eq_true rfl) rfl (by first | decide | exact ⟨Nat.zero_le _, Nat.zero_le _⟩) ?_
    refine go_istore (at_of tX9_setStyle 0 5 rfl) rfl rfl ?_
    refine go_aload_n (at_of tX9_setStyle 0 6 rfl) rfl ?_
    refine go_getr (q := 83) fl_X9_30 rfl G_0 ((hS _ _ rfl).trans rfl) (at_of tX9_setStyle 0 7 rfl) ?_
    refine go_iload_n (at_of tX9_setStyle 0 8 rfl) rfl ?_
    refine go_cV (con_hasStyle hS) lk_X9_159 rfl G_83 (at_of tX9_setStyle 0 9 rfl) rfl (by decide) rfl (Nat.le_of_ble_eq_true rfl) rfl (by first | decide | exact ⟨Nat.zero_le _, Nat.zero_le _⟩) ?_
    refine go_if_ne (tgt := 32) (at_of tX9_setStyle 0 10 rfl) (by decide) (fun h19 => ?_) (fun h19 => ?_)
    rotate_left
    · exfalso; exact bI_0.mp h19 h3
    refine go_aload_n (at_of tX9_setStyle 1 0 rfl) rfl ?_
    refine go_getr (q := 1) fl_X9_16 rfl G_0 ((hS _ _ rfl).trans rfl) (at_of tX9_setStyle 1 1 rfl) ?_
    refine go_cV (con_now hS hA) lk_X9_114 rfl g1_ (at_of tX9_setStyle 1 2 rfl) rfl (by decide) rfl (Nat.le_of_ble_eq_true rfl) rfl (by first | decide | exact ⟨Nat.zero_le _, Nat.zero_le _⟩) ?_
    refine go_astore (at_of tX9_setStyle 1 3 rfl) rfl rfl ?_
    refine go_aload_n (at_of tX9_setStyle 1 4 rfl) rfl ?_
    refine go_getf fl_X9_7 rfl G_0 (at_of tX9_setStyle 1 5 rfl) ?_
    refine go_if_eq (tgt := 84) (at_of tX9_setStyle 1 6 rfl) (by decide) (fun h45 => ?_) (fun h45 => ?_)
    · exfalso; rw [htr] at h45; exact absurd h45 (by decide)
    refine go_aload (at_of tX9_setStyle 1 7 rfl) rfl ?_
    refine go_getr (q := (8 + 10 * pi A.2.1)) fl_X9_118 rfl g1 p2 (at_of tX9_setStyle 1 8 rfl) ?_
    refine go_cV (l_isFull hS hk hD) lk_X9_122 rfl g6 (at_of tX9_setStyle 1 9 rfl) rfl (by decide) rfl (Nat.le_of_ble_eq_true rfl) rfl (by first | decide | exact ⟨Nat.zero_le _, Nat.zero_le _⟩) ?_
    refine go_if_eq (tgt := 84) (at_of tX9_setStyle 1 10 rfl) (by decide) (fun h56 => ?_) (fun h56 => ?_)
    · exfalso; exact bI_0.mp h56 h5
    refine go_aload (at_of tX9_setStyle 1 11 rfl) rfl ?_
    refine go_getr (q := (4 + 10 * pi A.2.1)) fl_X9_131 rfl g1 p1 (at_of tX9_setStyle 1 12 rfl) ?_
    refine go_iconst (at_of tX9_setStyle 1 13 rfl) (by unfold in32; omega) ?_
    refine go_iload (at_of tX9_setStyle 1 14 rfl) rfl rfl ?_
    refine go_cV (r_fact hS hk hR (by omega) (by omega)) lk_X9_168 rfl g2 (at_of tX9_setStyle 1 15 rfl) rfl (by decide) rfl (Nat.le_of_ble_eq_true rfl) rfl (by first | decide | exact ⟨Nat.zero_le _, Nat.zero_le _⟩) ?_
    refine go_iconst (at_of tX9_setStyle 2 0 rfl) (by unfold in32; omega) ?_
    refine go_icmp_ne (tgt := 84) (at_of tX9_setStyle 2 1 rfl) (by decide) (fun h71 => ?_) (fun h71 => ?_)
    rotate_left
    · exfalso; omega
    refine go_aload_n (at_of tX9_setStyle 2 7 rfl) rfl ?_
    refine go_iload (at_of tX9_setStyle 2 8 rfl) rfl rfl ?_
    refine go_cV (ok_Ung hS hA hie h8) lk_X9_172 rfl G_0 (at_of tX9_setStyle 2 9 rfl) rfl (by decide) rfl (Nat.le_of_ble_eq_true rfl) rfl (by first | decide | exact ⟨Nat.zero_le _, Nat.zero_le _⟩) ?_
    refine go_aload_n (at_of tX9_setStyle 2 10 rfl) rfl ?_
    refine go_getr (q := 1) fl_X9_16 rfl G_0 ((hS _ _ rfl).trans rfl) (at_of tX9_setStyle 2 11 rfl) ?_
    refine go_cV (b1) lk_X9_146 rfl g1_ (at_of tX9_setStyle 2 12 rfl) rfl (by decide) rfl (Nat.le_of_ble_eq_true rfl) rfl (by first | decide | exact ⟨Nat.zero_le _, Nat.zero_le _⟩) ?_
    refine go_astore (at_of tX9_setStyle 2 13 rfl) rfl rfl ?_
    refine go_aload_n (at_of tX9_setStyle 2 14 rfl) rfl ?_
    refine go_getf fl_X9_7 rfl G_0 (at_of tX9_setStyle 2 15 rfl) ?_
    refine go_if_eq (tgt := 116) (at_of tX9_setStyle 3 0 rfl) (by decide) (fun h103 => ?_) (fun h103 => ?_)
    · exfalso; rw [e00, htr] at h103; exact absurd h103 (by decide)
    refine go_aload (at_of tX9_setStyle 3 1 rfl) rfl ?_
    refine go_iload_n (at_of tX9_setStyle 3 2 rfl) rfl ?_
    refine go_iload (at_of tX9_setStyle 3 3 rfl) rfl rfl ?_
    refine go_iload_n (at_of tX9_setStyle 3 4 rfl) rfl ?_
    refine go_cV (c1) lk_X9_175 rfl s1 (at_of tX9_setStyle 3 5 rfl) rfl (by decide) rfl (Nat.le_of_ble_eq_true rfl) rfl (by first | decide | exact ⟨Nat.zero_le _, Nat.zero_le _⟩) ?_
    first | exact go_reti (at_of tX9_setStyle 3 6 rfl) rfl | exact go_reti (at_of tX9_setStyle 3 6 rfl) (le_i (by omega)) | exact go_reti (at_of tX9_setStyle 3 6 rfl) (le_i (by first | exact bI_t (by omega) | exact bI_f (by omega)))
  · skip
    refine con_of_go mfX9_setStyle.1 trivial (Nat.le_of_ble_eq_true rfl) rfl (by decide) ?_
    show Go _ _ _ _ 0 [vA _, vI _, vI _, vI _, vT 9 0, vT 9 0, vT 9 0] [] _ _
    refine go_iload_n (at_of tX9_setStyle 0 0 rfl) rfl ?_
    refine go_cS (ok_Author h1) lk_X9_66 rfl (at_of tX9_setStyle 0 1 rfl) rfl (by decide) rfl (Nat.le_of_ble_eq_true rfl) rfl (by first | decide | exact ⟨Nat.zero_le _, Nat.zero_le _⟩) ?_
    refine go_aload_n (at_of tX9_setStyle 0 2 rfl) rfl ?_
    refine go_iload_n (at_of tX9_setStyle 0 3 rfl) rfl ?_
    refine go_cV (ok_End hS hA h2) lk_X9_156 rfl G_0 (at_of tX9_setStyle 0 4 rfl) rfl (by decide) rfl (Nat.le_of_ble_eq_true rfl) rfl (by first | decide | exact ⟨Nat.zero_le _, Nat.zero_le _⟩) ?_
    refine go_istore (at_of tX9_setStyle 0 5 rfl) rfl rfl ?_
    refine go_aload_n (at_of tX9_setStyle 0 6 rfl) rfl ?_
    refine go_getr (q := 83) fl_X9_30 rfl G_0 ((hS _ _ rfl).trans rfl) (at_of tX9_setStyle 0 7 rfl) ?_
    refine go_iload_n (at_of tX9_setStyle 0 8 rfl) rfl ?_
    refine go_cV (con_hasStyle hS) lk_X9_159 rfl G_83 (at_of tX9_setStyle 0 9 rfl) rfl (by decide) rfl (Nat.le_of_ble_eq_true rfl) rfl (by first | decide | exact ⟨Nat.zero_le _, Nat.zero_le _⟩) ?_
    refine go_if_ne (tgt := 32) (at_of tX9_setStyle 0 10 rfl) (by decide) (fun h19 => ?_) (fun h19 => ?_)
    rotate_left
    · exfalso; exact bI_0.mp h19 h3
    refine go_aload_n (at_of tX9_setStyle 1 0 rfl) rfl ?_
    refine go_getr (q := 1) fl_X9_16 rfl G_0 ((hS _ _ rfl).trans rfl) (at_of tX9_setStyle 1 1 rfl) ?_
    refine go_cV (con_now hS hA) lk_X9_114 rfl g1_ (at_of tX9_setStyle 1 2 rfl) rfl (by decide) rfl (Nat.le_of_ble_eq_true rfl) rfl (by first | decide | exact ⟨Nat.zero_le _, Nat.zero_le _⟩) ?_
    refine go_astore (at_of tX9_setStyle 1 3 rfl) rfl rfl ?_
    refine go_aload_n (at_of tX9_setStyle 1 4 rfl) rfl ?_
    refine go_getf fl_X9_7 rfl G_0 (at_of tX9_setStyle 1 5 rfl) ?_
    refine go_if_eq (tgt := 84) (at_of tX9_setStyle 1 6 rfl) (by decide) (fun h45 => ?_) (fun h45 => ?_)
    · exfalso; rw [htr] at h45; exact absurd h45 (by decide)
    refine go_aload (at_of tX9_setStyle 1 7 rfl) rfl ?_
    refine go_getr (q := (8 + 10 * pi A.2.1)) fl_X9_118 rfl g1 p2 (at_of tX9_setStyle 1 8 rfl) ?_
    refine go_cV (l_isFull hS hk hD) lk_X9_122 rfl g6 (at_of tX9_setStyle 1 9 rfl) rfl (by decide) rfl (Nat.le_of_ble_eq_true rfl) rfl (by first | decide | exact ⟨Nat.zero_le _, Nat.zero_le _⟩) ?_
    refine go_if_eq (tgt := 84) (at_of tX9_setStyle 1 10 rfl) (by decide) (fun h56 => ?_) (fun h56 => ?_)
    rotate_left
    · exfalso; exact h5 (bI_1.mp h56)
    refine go_aload_n (at_of tX9_setStyle 2 7 rfl) rfl ?_
    refine go_iload (at_of tX9_setStyle 2 8 rfl) rfl rfl ?_
    refine go_cV (ok_Ung hS hA hie h8) lk_X9_172 rfl G_0 (at_of tX9_setStyle 2 9 rfl) rfl (by decide) rfl (Nat.le_of_ble_eq_true rfl) rfl (by first | decide | exact ⟨Nat.zero_le _, Nat.zero_le _⟩) ?_
    refine go_aload_n (at_of tX9_setStyle 2 10 rfl) rfl ?_
    refine go_getr (q := 1) fl_X9_16 rfl G_0 ((hS _ _ rfl).trans rfl) (at_of tX9_setStyle 2 11 rfl) ?_
    refine go_cV (b1) lk_X9_146 rfl g1_ (at_of tX9_setStyle 2 12 rfl) rfl (by decide) rfl (Nat.le_of_ble_eq_true rfl) rfl (by first | decide | exact ⟨Nat.zero_le _, Nat.zero_le _⟩) ?_
    refine go_astore (at_of tX9_setStyle 2 13 rfl) rfl rfl ?_
    refine go_aload_n (at_of tX9_setStyle 2 14 rfl) rfl ?_
    refine go_getf fl_X9_7 rfl G_0 (at_of tX9_setStyle 2 15 rfl) ?_
    refine go_if_eq (tgt := 116) (at_of tX9_setStyle 3 0 rfl) (by decide) (fun h103 => ?_) (fun h103 => ?_)
    · exfalso; rw [e00, htr] at h103; exact absurd h103 (by decide)
    refine go_aload (at_of tX9_setStyle 3 1 rfl) rfl ?_
    refine go_iload_n (at_of tX9_setStyle 3 2 rfl) rfl ?_
    refine go_iload (at_of tX9_setStyle 3 3 rfl) rfl rfl ?_
    refine go_iload_n (at_of tX9_setStyle 3 4 rfl) rfl ?_
    refine go_cV (c1) lk_X9_175 rfl s1 (at_of tX9_setStyle 3 5 rfl) rfl (by decide) rfl (Nat.le_of_ble_eq_true rfl) rfl (by first | decide | exact ⟨Nat.zero_le _, Nat.zero_le _⟩) ?_
    first | exact go_reti (at_of tX9_setStyle 3 6 rfl) rfl | exact go_reti (at_of tX9_setStyle 3 6 rfl) (le_i (by omega)) | exact go_reti (at_of tX9_setStyle 3 6 rfl) (le_i (by first | exact bI_t (by omega) | exact bI_f (by omega)))
theorem ok_setStyle_f (hS : Str σ.2.1) {pi : Nat → Nat} {A : PastD} (hA : PastR σ pi A) {a p z : Int} (htr : σ.1 0 0 = bI (false = true)) (h1 : 0 ≤ a ∧ a < 4) (h2 : ixEnd (A.1 A.2.1).1.1 (A.1 A.2.1).1.2.1 p ≠ -1) (h3 : 0 ≤ z ∧ z < σ.1 83 3) (h8 : (A.1 A.2.1).1.1 10 (ixEnd (A.1 A.2.1).1.1 (A.1 A.2.1).1.2.1 p) ≠ 1) (hst : (A.1 A.2.1).1.1 4 (ixEnd (A.1 A.2.1).1.1 (A.1 A.2.1).1.2.1 p) = -1 ∨ (0 ≤ (A.1 A.2.1).1.1 4 (ixEnd (A.1 A.2.1).1.1 (A.1 A.2.1).1.2.1 p) ∧ (A.1 A.2.1).1.1 4 (ixEnd (A.1 A.2.1).1.1 (A.1 A.2.1).1.2.1 p) < (A.1 A.2.1).2.1.1 ∧ (A.1 A.2.1).2.1.2.1 ((A.1 A.2.1).1.1 4 (ixEnd (A.1 A.2.1).1.1 (A.1 A.2.1).1.2.1 p)) = 115)) : ∃ σ' pi', Con 5 mX9_setStyle 0 0 [vA 0, vI a, vI p, vI z] σ (vI (-1), σ') ∧ Ed σ σ' pi' (edA (begA A) (rstoD (A.1 A.2.1) (ixEnd (A.1 A.2.1).1.1 (A.1 A.2.1).1.2.1 p) z)) := by
  obtain ⟨hp, hd, hu, hle, hrep⟩ := id hA
  have hk7 := (hp.1 A.2.1 (by omega)).2
  have hk : pi A.2.1 < 8 := by omega
  have hD := hrep A.2.1 (by omega)
  have hR := hD.1
  have hL := hD.2.1.2.2.1
  have hn := hR.1
  obtain ⟨hw1, hw2, hw3⟩ := hR.2.2.2
  have hm := hD.2.1.1
  obtain ⟨l1, l2, l3⟩ := hD.2.1.2.2.2
  obtain ⟨g1, g2, g3, g4, g5, g6, g7, g8, g9, g10⟩ := gamk _ hk
  obtain ⟨p1, p2, p3, p4, p5, p6, p7, p8, p9⟩ := strk hS _ hk
  have hie := ((@ixEnd_le (A.1 A.2.1).1.1 (A.1 A.2.1).1.2.1 p hw1).resolve_left h2)
  obtain ⟨σ1, k1, pi1, hkk, b1, b2, b3, hk1, hS1⟩ := beg_ex hS hA
  have e00 : σ1.1 0 0 = σ.1 0 0 := b2.2.2.2 0 (by omega) 0
  obtain ⟨s1, s2, s3, s4, s5, s6, s7, s8, s9, s10⟩ := gamk k1 hk1
  obtain ⟨t1, t2, t3, t4, t5, t6, t7, t8, t9⟩ := strk hS1 k1 hk1
  obtain ⟨σ', c1, c2, c3⟩ := con_restyleAtOnce hS1 hk1 b3 (e := ixEnd (A.1 A.2.1).1.1 (A.1 A.2.1).1.2.1 p) (z := z) hie hst
  refine ⟨σ', pi1, ?_, Ed.pap b2 hkk c2 (c3.mono (by omega) (by omega))⟩
  refine con_of_go mfX9_setStyle.1 trivial (Nat.le_of_ble_eq_true rfl) rfl (by decide) ?_
  show Go _ _ _ _ 0 [vA _, vI _, vI _, vI _, vT 9 0, vT 9 0, vT 9 0] [] _ _
  refine go_iload_n (at_of tX9_setStyle 0 0 rfl) rfl ?_
  refine go_cS (ok_Author h1) lk_X9_66 rfl (at_of tX9_setStyle 0 1 rfl) rfl (by decide) rfl (Nat.le_of_ble_eq_true rfl) rfl (by first | decide | exact ⟨Nat.zero_le _, Nat.zero_le _⟩) ?_
  refine go_aload_n (at_of tX9_setStyle 0 2 rfl) rfl ?_
  refine go_iload_n (at_of tX9_setStyle 0 3 rfl) rfl ?_
  refine go_cV (ok_End hS hA h2) lk_X9_156 rfl G_0 (at_of tX9_setStyle 0 4 rfl) rfl (by decide) rfl (Nat.le_of_ble_eq_true rfl) rfl (by first | decide | exact ⟨Nat.zero_le _, Nat.zero_le _⟩) ?_
  refine go_istore (at_of tX9_setStyle 0 5 rfl) rfl rfl ?_
  refine go_aload_n (at_of tX9_setStyle 0 6 rfl) rfl ?_
  refine go_getr (q := 83) fl_X9_30 rfl G_0 ((hS _ _ rfl).trans rfl) (at_of tX9_setStyle 0 7 rfl) ?_
  refine go_iload_n (at_of tX9_setStyle 0 8 rfl) rfl ?_
  refine go_cV (con_hasStyle hS) lk_X9_159 rfl G_83 (at_of tX9_setStyle 0 9 rfl) rfl (by decide) rfl (Nat.le_of_ble_eq_true rfl) rfl (by first | decide | exact ⟨Nat.zero_le _, Nat.zero_le _⟩) ?_
  refine go_if_ne (tgt := 32) (at_of tX9_setStyle 0 10 rfl) (by decide) (fun h19 => ?_) (fun h19 => ?_)
  rotate_left
  · exfalso; exact bI_0.mp h19 h3
  refine go_aload_n (at_of tX9_setStyle 1 0 rfl) rfl ?_
  refine go_getr (q := 1) fl_X9_16 rfl G_0 ((hS _ _ rfl).trans rfl) (at_of tX9_setStyle 1 1 rfl) ?_
  refine go_cV (con_now hS hA) lk_X9_114 rfl g1_ (at_of tX9_setStyle 1 2 rfl) rfl (by decide) rfl (Nat.le_of_ble_eq_true rfl) rfl (by first | decide | exact ⟨Nat.zero_le _, Nat.zero_le _⟩) ?_
  refine go_astore (at_of tX9_setStyle 1 3 rfl) rfl rfl ?_
  refine go_aload_n (at_of tX9_setStyle 1 4 rfl) rfl ?_
  refine go_getf fl_X9_7 rfl G_0 (at_of tX9_setStyle 1 5 rfl) ?_
  refine go_if_eq (tgt := 84) (at_of tX9_setStyle 1 6 rfl) (by decide) (fun h45 => ?_) (fun h45 => ?_)
  rotate_left
  · exfalso; rw [htr] at h45; exact h45 (by decide)
  refine go_aload_n (at_of tX9_setStyle 2 7 rfl) rfl ?_
  refine go_iload (at_of tX9_setStyle 2 8 rfl) rfl rfl ?_
  refine go_cV (ok_Ung hS hA hie h8) lk_X9_172 rfl G_0 (at_of tX9_setStyle 2 9 rfl) rfl (by decide) rfl (Nat.le_of_ble_eq_true rfl) rfl (by first | decide | exact ⟨Nat.zero_le _, Nat.zero_le _⟩) ?_
  refine go_aload_n (at_of tX9_setStyle 2 10 rfl) rfl ?_
  refine go_getr (q := 1) fl_X9_16 rfl G_0 ((hS _ _ rfl).trans rfl) (at_of tX9_setStyle 2 11 rfl) ?_
  refine go_cV (b1) lk_X9_146 rfl g1_ (at_of tX9_setStyle 2 12 rfl) rfl (by decide) rfl (Nat.le_of_ble_eq_true rfl) rfl (by first | decide | exact ⟨Nat.zero_le _, Nat.zero_le _⟩) ?_
  refine go_astore (at_of tX9_setStyle 2 13 rfl) rfl rfl ?_
  refine go_aload_n (at_of tX9_setStyle 2 14 rfl) rfl ?_
  refine go_getf fl_X9_7 rfl G_0 (at_of tX9_setStyle 2 15 rfl) ?_
  refine go_if_eq (tgt := 116) (at_of tX9_setStyle 3 0 rfl) (by decide) (fun h103 => ?_) (fun h103 => ?_)
  rotate_left
  · exfalso; rw [e00, htr] at h103; exact h103 (by decide)
  refine go_aload (at_of tX9_setStyle 3 7 rfl) rfl ?_
  refine go_iload (at_of tX9_setStyle 3 8 rfl) rfl rfl ?_
  refine go_iload_n (at_of tX9_setStyle 3 9 rfl) rfl ?_
  refine go_cV (c1) lk_X9_178 rfl s1 (at_of tX9_setStyle 3 10 rfl) rfl (by decide) rfl (Nat.le_of_ble_eq_true rfl) rfl (by first | decide | exact ⟨Nat.zero_le _, Nat.zero_le _⟩) ?_
  refine go_iconst (at_of tX9_setStyle 3 11 rfl) (by unfold in32; omega) ?_
  first | exact go_reti (at_of tX9_setStyle 3 12 rfl) rfl | exact go_reti (at_of tX9_setStyle 3 12 rfl) (le_i (by omega)) | exact go_reti (at_of tX9_setStyle 3 12 rfl) (le_i (by first | exact bI_t (by omega) | exact bI_f (by omega)))
end Writes
