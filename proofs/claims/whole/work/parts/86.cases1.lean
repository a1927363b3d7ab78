/-! The law's cases, from 0 on. -/
section Cases0
variable {xs : Nat → Int} {z i : Int} {σ : St} {n : Nat}
theorem lc_0 (hi : 0 ≤ i) (hz : i + 5 ≤ z) (hz2 : z ≤ 2560) (h : Sim σ) : ∃ σ2, Sim σ2 ∧ ∀ σf, NxtK xs z n (i + 5) σ2 σf → CurK xs z n i 268 σ σf := by
  obtain ⟨pi, A, ns, nf, hp⟩ := h
  by_cases hbl : xs (i + 1).toNat = 0
  · obtain ⟨v, σ1, σ2, k1, k2, k5⟩ := st_setTracking hp (z := 0) (Or.inl rfl)
    refine ⟨σ2, k5, fun σf K b v6 v7 v8 v9 hb => ?_⟩
    refine go_aload_n (at_of tL_law 1 12 rfl) rfl ?_
    refine go_aload_s (at_of tL_law 1 13 rfl) rfl ?_
    refine go_iload (at_of tL_law 1 14 rfl) rfl rfl ?_
    refine go_iconst (at_of tL_law 1 15 rfl) (by unfold in32; omega) ?_
    refine go_iadd (at_of tL_law 2 0 rfl) (by unfold in32; omega) ?_
    refine go_sld (by omega) (by omega) (at_of tL_law 2 1 rfl) ?_
    refine go_if_eq (tgt := 282) (at_of tL_law 2 2 rfl) (by decide) (fun h275 => ?_) (fun h275 => ?_)
    rotate_left
    · exfalso; omega
    refine go_iconst (at_of tL_law 2 5 rfl) (by unfold in32; omega) ?_
    refine go_cV (k1) lk_L_164 rfl G_0 (at_of tL_law 2 6 rfl) rfl (by decide) rfl (Nat.le_of_ble_eq_true rfl) rfl (by first | decide | exact ⟨Nat.zero_le _, Nat.zero_le _⟩ | omega) ?_
    refine go_aload_n (at_of tL_law 2 7 rfl) rfl ?_
    refine go_aload_s (at_of tL_law 2 8 rfl) rfl ?_
    refine go_iload (at_of tL_law 2 9 rfl) rfl rfl ?_
    refine go_iconst (at_of tL_law 2 10 rfl) (by unfold in32; omega) ?_
    refine go_iadd (at_of tL_law 2 11 rfl) (by unfold in32; omega) ?_
    refine go_sld (by omega) (by omega) (at_of tL_law 2 12 rfl) ?_
    refine go_if_eq (tgt := 300) (at_of tL_law 2 13 rfl) (by decide) (fun h293 => ?_) (fun h293 => ?_)
    rotate_left
    · exfalso; omega
    refine go_iconst (at_of tL_law 3 0 rfl) (by unfold in32; omega) ?_
    refine go_cV (k2) lk_L_168 rfl G_109 (at_of tL_law 3 1 rfl) rfl (by decide) rfl (Nat.le_of_ble_eq_true rfl) rfl (by first | decide | exact ⟨Nat.zero_le _, Nat.zero_le _⟩ | omega) ?_
    refine go_icmp_eq (tgt := 3207) (at_of tL_law 3 2 rfl) (by decide) (fun h304 => ?_) (fun h304 => ?_)
    rotate_left
    · exfalso; omega
    exact law_next ⟨hi, by omega⟩ K (by dsimp only; omega)
  · obtain ⟨v, σ1, σ2, k1, k2, k5⟩ := st_setTracking hp (z := 1) (Or.inr rfl)
    refine ⟨σ2, k5, fun σf K b v6 v7 v8 v9 hb => ?_⟩
    refine go_aload_n (at_of tL_law 1 12 rfl) rfl ?_
    refine go_aload_s (at_of tL_law 1 13 rfl) rfl ?_
    refine go_iload (at_of tL_law 1 14 rfl) rfl rfl ?_
    refine go_iconst (at_of tL_law 1 15 rfl) (by unfold in32; omega) ?_
    refine go_iadd (at_of tL_law 2 0 rfl) (by unfold in32; omega) ?_
    refine go_sld (by omega) (by omega) (at_of tL_law 2 1 rfl) ?_
    refine go_if_eq (tgt := 282) (at_of tL_law 2 2 rfl) (by decide) (fun h275 => ?_) (fun h275 => ?_)
    · exfalso; omega
    refine go_iconst (at_of tL_law 2 3 rfl) (by unfold in32; omega) ?_
    refine go_goto (tgt := 283) (at_of tL_law 2 4 rfl) (by decide) ?_
    refine go_cV (k1) lk_L_164 rfl G_0 (at_of tL_law 2 6 rfl) rfl (by decide) rfl (Nat.le_of_ble_eq_true rfl) rfl (by first | decide | exact ⟨Nat.zero_le _, Nat.zero_le _⟩ | omega) ?_
    refine go_aload_n (at_of tL_law 2 7 rfl) rfl ?_
    refine go_aload_s (at_of tL_law 2 8 rfl) rfl ?_
    refine go_iload (at_of tL_law 2 9 rfl) rfl rfl ?_
    refine go_iconst (at_of tL_law 2 10 rfl) (by unfold in32; omega) ?_
    refine go_iadd (at_of tL_law 2 11 rfl) (by unfold in32; omega) ?_
    refine go_sld (by omega) (by omega) (at_of tL_law 2 12 rfl) ?_
    refine go_if_eq (tgt := 300) (at_of tL_law 2 13 rfl) (by decide) (fun h293 => ?_) (fun h293 => ?_)
    · exfalso; omega
    refine go_iconst (at_of tL_law 2 14 rfl) (by unfold in32; omega) ?_
    refine go_goto (tgt := 301) (at_of tL_law 2 15 rfl) (by decide) ?_
    refine go_cV (k2) lk_L_168 rfl G_109 (at_of tL_law 3 1 rfl) rfl (by decide) rfl (Nat.le_of_ble_eq_true rfl) rfl (by first | decide | exact ⟨Nat.zero_le _, Nat.zero_le _⟩ | omega) ?_
    refine go_icmp_eq (tgt := 3207) (at_of tL_law 3 2 rfl) (by decide) (fun h304 => ?_) (fun h304 => ?_)
    rotate_left
    · exfalso; omega
    exact law_next ⟨hi, by omega⟩ K (by dsimp only; omega)
theorem lc_1 (hi : 0 ≤ i) (hz : i + 5 ≤ z) (hz2 : z ≤ 2560) (h : Sim σ) : ∃ σ2, Sim σ2 ∧ ∀ σf, NxtK xs z n (i + 5) σ2 σf → CurK xs z n i 309 σ σf := by
  obtain ⟨pi, A, ns, nf, hp⟩ := h
  obtain ⟨k, v, σ1, σ2, k1, k2, k3, k4, k5⟩ := st_insert hp (a := xs (i + 1).toNat) (p := xs (i + 2).toNat) (l := xs (i + 3).toNat % 65536) 
  refine ⟨σ2, k5, fun σf K b v6 v7 v8 v9 hb => ?_⟩
  refine go_aload_n (at_of tL_law 3 5 rfl) rfl ?_
  refine go_aload_s (at_of tL_law 3 6 rfl) rfl ?_
  refine go_iload (at_of tL_law 3 7 rfl) rfl rfl ?_
  refine go_iconst (at_of tL_law 3 8 rfl) (by unfold in32; omega) ?_
  refine go_iadd (at_of tL_law 3 9 rfl) (by unfold in32; omega) ?_
  refine go_sld (by omega) (by omega) (at_of tL_law 3 10 rfl) ?_
  refine go_aload_s (at_of tL_law 3 11 rfl) rfl ?_
  refine go_iload (at_of tL_law 3 12 rfl) rfl rfl ?_
  refine go_iconst (at_of tL_law 3 13 rfl) (by unfold in32; omega) ?_
  refine go_iadd (at_of tL_law 3 14 rfl) (by unfold in32; omega) ?_
  refine go_sld (by omega) (by omega) (at_of tL_law 3 15 rfl) ?_
  refine go_aload_s (at_of tL_law 4 0 rfl) rfl ?_
  refine go_iload (at_of tL_law 4 1 rfl) rfl rfl ?_
  refine go_iconst (at_of tL_law 4 2 rfl) (by unfold in32; omega) ?_
  refine go_iadd (at_of tL_law 4 3 rfl) (by unfold in32; omega) ?_
  refine go_sld (by omega) (by omega) (at_of tL_law 4 4 rfl) ?_
  refine go_i2c (at_of tL_law 4 5 rfl) ?_
  refine go_aload_n (at_of tL_law 4 6 rfl) rfl ?_
  refine go_cX (k1) lk_L_169 rfl (at_of tL_law 4 7 rfl) rfl (by decide) rfl (Nat.le_of_ble_eq_true rfl) rfl (by first | decide | exact ⟨Nat.zero_le _, Nat.zero_le _⟩ | omega) ?_
  refine go_istore (at_of tL_law 4 8 rfl) rfl rfl ?_
  refine go_aload_n (at_of tL_law 4 9 rfl) rfl ?_
  refine go_aload_s (at_of tL_law 4 10 rfl) rfl ?_
  refine go_iload (at_of tL_law 4 11 rfl) rfl rfl ?_
  refine go_iconst (at_of tL_law 4 12 rfl) (by unfold in32; omega) ?_
  refine go_iadd (at_of tL_law 4 13 rfl) (by unfold in32; omega) ?_
  refine go_sld (by omega) (by omega) (at_of tL_law 4 14 rfl) ?_
  refine go_aload_s (at_of tL_law 4 15 rfl) rfl ?_
  refine go_iload (at_of tL_law 5 0 rfl) rfl rfl ?_
  refine go_iconst (at_of tL_law 5 1 rfl) (by unfold in32; omega) ?_
  refine go_iadd (at_of tL_law 5 2 rfl) (by unfold in32; omega) ?_
  refine go_sld (by omega) (by omega) (at_of tL_law 5 3 rfl) ?_
  refine go_aload_s (at_of tL_law 5 4 rfl) rfl ?_
  refine go_iload (at_of tL_law 5 5 rfl) rfl rfl ?_
  refine go_iconst (at_of tL_law 5 6 rfl) (by unfold in32; omega) ?_
  refine go_iadd (at_of tL_law 5 7 rfl) (by unfold in32; omega) ?_
  refine go_sld (by omega) (by omega) (at_of tL_law 5 8 rfl) ?_
  refine go_i2c (at_of tL_law 5 9 rfl) ?_
  refine go_cV (k2) lk_L_174 rfl G_109 (at_of tL_law 5 10 rfl) rfl (by decide) rfl (Nat.le_of_ble_eq_true rfl) rfl (by first | decide | exact ⟨Nat.zero_le _, Nat.zero_le _⟩ | omega) ?_
  refine go_istore (at_of tL_law 5 11 rfl) rfl rfl ?_
  refine go_aload_n (at_of tL_law 5 12 rfl) rfl ?_
  refine go_cV (m_thrown) lk_L_175 rfl G_109 (at_of tL_law 5 13 rfl) rfl (by decide) rfl (Nat.le_of_ble_eq_true rfl) rfl (by first | decide | exact ⟨Nat.zero_le _, Nat.zero_le _⟩ | omega) ?_
  refine go_iload (at_of tL_law 5 14 rfl) rfl rfl ?_
  refine go_icmp_eq (tgt := 371) (at_of tL_law 5 15 rfl) (by decide) (fun h366 => ?_) (fun h366 => ?_)
  rotate_left
  · exfalso; omega
  refine go_iload (at_of tL_law 6 2 rfl) rfl rfl ?_
  refine go_if_ne (tgt := 388) (at_of tL_law 6 3 rfl) (by decide) (fun h373 => ?_) (fun h373 => ?_)
  · first
    | exfalso; omega
    | refine go_goto (tgt := 3207) (at_of tL_law 6 13 rfl) (by decide) ?_
      exact law_next ⟨hi, by omega⟩ K (by dsimp only; omega)
  · first
    | exfalso; omega
    | refine go_aload_n (at_of tL_law 6 4 rfl) rfl ?_
      refine go_iconst (at_of tL_law 6 5 rfl) (by unfold in32; omega) ?_
      refine go_lald G_133 (by omega) (by omega) (at_of tL_law 6 6 rfl) ?_
      refine go_iload (at_of tL_law 6 7 rfl) rfl rfl ?_
      refine go_i2l (at_of tL_law 6 8 rfl) ?_
      refine go_lcmp (at_of tL_law 6 9 rfl) ?_
      refine go_if_eq (tgt := 388) (at_of tL_law 6 10 rfl) (by decide) (fun h383 => ?_) (fun h383 => ?_)
      rotate_left
      · exfalso; exact h383 (cmpZ_eq (k4 (by omega)))
      refine go_goto (tgt := 3207) (at_of tL_law 6 13 rfl) (by decide) ?_
      exact law_next ⟨hi, by omega⟩ K (by dsimp only; omega)
theorem lc_2 (hi : 0 ≤ i) (hz : i + 5 ≤ z) (hz2 : z ≤ 2560) (h : Sim σ) : ∃ σ2, Sim σ2 ∧ ∀ σf, NxtK xs z n (i + 5) σ2 σf → CurK xs z n i 391 σ σf := by
  obtain ⟨pi, A, ns, nf, hp⟩ := h
  obtain ⟨k, v, σ1, σ2, k1, k2, k3, k4, k5⟩ := st_addField hp (a := xs (i + 1).toNat) (p := xs (i + 2).toNat) (d := xs (i + 3).toNat % 65536) (f := xs (i + 4).toNat) (by omega)
  refine ⟨σ2, k5, fun σf K b v6 v7 v8 v9 hb => ?_⟩
  refine go_aload_n (at_of tL_law 6 14 rfl) rfl ?_
  refine go_aload_s (at_of tL_law 6 15 rfl) rfl ?_
  refine go_iload (at_of tL_law 7 0 rfl) rfl rfl ?_
  refine go_iconst (at_of tL_law 7 1 rfl) (by unfold in32; omega) ?_
  refine go_iadd (at_of tL_law 7 2 rfl) (by unfold in32; omega) ?_
  refine go_sld (by omega) (by omega) (at_of tL_law 7 3 rfl) ?_
  refine go_aload_s (at_of tL_law 7 4 rfl) rfl ?_
  refine go_iload (at_of tL_law 7 5 rfl) rfl rfl ?_
  refine go_iconst (at_of tL_law 7 6 rfl) (by unfold in32; omega) ?_
  refine go_iadd (at_of tL_law 7 7 rfl) (by unfold in32; omega) ?_
  refine go_sld (by omega) (by omega) (at_of tL_law 7 8 rfl) ?_
  refine go_aload_s (at_of tL_law 7 9 rfl) rfl ?_
  refine go_iload (at_of tL_law 7 10 rfl) rfl rfl ?_
  refine go_iconst (at_of tL_law 7 11 rfl) (by unfold in32; omega) ?_
  refine go_iadd (at_of tL_law 7 12 rfl) (by unfold in32; omega) ?_
  refine go_sld (by omega) (by omega) (at_of tL_law 7 13 rfl) ?_
  refine go_i2c (at_of tL_law 7 14 rfl) ?_
  refine go_aload_s (at_of tL_law 7 15 rfl) rfl ?_
  refine go_iload (at_of tL_law 8 0 rfl) rfl rfl ?_
  refine go_iconst (at_of tL_law 8 1 rfl) (by unfold in32; omega) ?_
  refine go_iadd (at_of tL_law 8 2 rfl) (by unfold in32; omega) ?_
  refine go_sld (by omega) (by omega) (at_of tL_law 8 3 rfl) ?_
  refine go_aload_n (at_of tL_law 8 4 rfl) rfl ?_
  refine go_cX (k1) lk_L_178 rfl (at_of tL_law 8 5 rfl) rfl (by decide) rfl (Nat.le_of_ble_eq_true rfl) rfl (by first | decide | exact ⟨Nat.zero_le _, Nat.zero_le _⟩ | omega) ?_
  refine go_istore (at_of tL_law 8 6 rfl) rfl rfl ?_
  refine go_aload_n (at_of tL_law 8 7 rfl) rfl ?_
  refine go_aload_s (at_of tL_law 8 8 rfl) rfl ?_
  refine go_iload (at_of tL_law 8 9 rfl) rfl rfl ?_
  refine go_iconst (at_of tL_law 8 10 rfl) (by unfold in32; omega) ?_
  refine go_iadd (at_of tL_law 8 11 rfl) (by unfold in32; omega) ?_
  refine go_sld (by omega) (by omega) (at_of tL_law 8 12 rfl) ?_
  refine go_aload_s (at_of tL_law 8 13 rfl) rfl ?_
  refine go_iload (at_of tL_law 8 14 rfl) rfl rfl ?_
  refine go_iconst (at_of tL_law 8 15 rfl) (by unfold in32; omega) ?_
  refine go_iadd (at_of tL_law 9 0 rfl) (by unfold in32; omega) ?_
  refine go_sld (by omega) (by omega) (at_of tL_law 9 1 rfl) ?_
  refine go_aload_s (at_of tL_law 9 2 rfl) rfl ?_
  refine go_iload (at_of tL_law 9 3 rfl) rfl rfl ?_
  refine go_iconst (at_of tL_law 9 4 rfl) (by unfold in32; omega) ?_
  refine go_iadd (at_of tL_law 9 5 rfl) (by unfold in32; omega) ?_
  refine go_sld (by omega) (by omega) (at_of tL_law 9 6 rfl) ?_
  refine go_i2c (at_of tL_law 9 7 rfl) ?_
  refine go_aload_s (at_of tL_law 9 8 rfl) rfl ?_
  refine go_iload (at_of tL_law 9 9 rfl) rfl rfl ?_
  refine go_iconst (at_of tL_law 9 10 rfl) (by unfold in32; omega) ?_
  refine go_iadd (at_of tL_law 9 11 rfl) (by unfold in32; omega) ?_
  refine go_sld (by omega) (by omega) (at_of tL_law 9 12 rfl) ?_
  refine go_cV (k2) lk_L_181 rfl G_109 (at_of tL_law 9 13 rfl) rfl (by decide) rfl (Nat.le_of_ble_eq_true rfl) rfl (by first | decide | exact ⟨Nat.zero_le _, Nat.zero_le _⟩ | omega) ?_
  refine go_istore (at_of tL_law 9 14 rfl) rfl rfl ?_
  refine go_aload_n (at_of tL_law 9 15 rfl) rfl ?_
  refine go_cV (m_thrown) lk_L_175 rfl G_109 (at_of tL_law 10 0 rfl) rfl (by decide) rfl (Nat.le_of_ble_eq_true rfl) rfl (by first | decide | exact ⟨Nat.zero_le _, Nat.zero_le _⟩ | omega) ?_
  refine go_iload (at_of tL_law 10 1 rfl) rfl rfl ?_
  refine go_icmp_eq (tgt := 465) (at_of tL_law 10 2 rfl) (by decide) (fun h460 => ?_) (fun h460 => ?_)
  rotate_left
  · exfalso; omega
  refine go_iload (at_of tL_law 10 5 rfl) rfl rfl ?_
  refine go_if_ne (tgt := 482) (at_of tL_law 10 6 rfl) (by decide) (fun h467 => ?_) (fun h467 => ?_)
  · first
    | exfalso; omega
    | refine go_goto (tgt := 3207) (at_of tL_law 11 0 rfl) (by decide) ?_
      exact law_next ⟨hi, by omega⟩ K (by dsimp only; omega)
  · first
    | exfalso; omega
    | refine go_aload_n (at_of tL_law 10 7 rfl) rfl ?_
      refine go_iconst (at_of tL_law 10 8 rfl) (by unfold in32; omega) ?_
      refine go_lald G_133 (by omega) (by omega) (at_of tL_law 10 9 rfl) ?_
      refine go_iload (at_of tL_law 10 10 rfl) rfl rfl ?_
      refine go_i2l (at_of tL_law 10 11 rfl) ?_
      refine go_lcmp (at_of tL_law 10 12 rfl) ?_
      refine go_if_eq (tgt := 482) (at_of tL_law 10 13 rfl) (by decide) (fun h477 => ?_) (fun h477 => ?_)
      rotate_left
      · exfalso; exact h477 (cmpZ_eq (k4 (by omega)))
      refine go_goto (tgt := 3207) (at_of tL_law 11 0 rfl) (by decide) ?_
      exact law_next ⟨hi, by omega⟩ K (by dsimp only; omega)
theorem lc_3 (hi : 0 ≤ i) (hz : i + 5 ≤ z) (hz2 : z ≤ 2560) (h : Sim σ) : ∃ σ2, Sim σ2 ∧ ∀ σf, NxtK xs z n (i + 5) σ2 σf → CurK xs z n i 485 σ σf := by
  obtain ⟨pi, A, ns, nf, hp⟩ := h
  obtain ⟨k, v, σ1, σ2, k1, k2, k3, k4, k5⟩ := st_erase hp (a := xs (i + 1).toNat) (p := xs (i + 2).toNat) (z := xs (i + 3).toNat) 
  refine ⟨σ2, k5, fun σf K b v6 v7 v8 v9 hb => ?_⟩
  refine go_aload_n (at_of tL_law 11 1 rfl) rfl ?_
  refine go_aload_s (at_of tL_law 11 2 rfl) rfl ?_
  refine go_iload (at_of tL_law 11 3 rfl) rfl rfl ?_
  refine go_iconst (at_of tL_law 11 4 rfl) (by unfold in32; omega) ?_
  refine go_iadd (at_of tL_law 11 5 rfl) (by unfold in32; omega) ?_
  refine go_sld (by omega) (by omega) (at_of tL_law 11 6 rfl) ?_
  refine go_aload_s (at_of tL_law 11 7 rfl) rfl ?_
  refine go_iload (at_of tL_law 11 8 rfl) rfl rfl ?_
  refine go_iconst (at_of tL_law 11 9 rfl) (by unfold in32; omega) ?_
  refine go_iadd (at_of tL_law 11 10 rfl) (by unfold in32; omega) ?_
  refine go_sld (by omega) (by omega) (at_of tL_law 11 11 rfl) ?_
  refine go_aload_s (at_of tL_law 11 12 rfl) rfl ?_
  refine go_iload (at_of tL_law 11 13 rfl) rfl rfl ?_
  refine go_iconst (at_of tL_law 11 14 rfl) (by unfold in32; omega) ?_
  refine go_iadd (at_of tL_law 11 15 rfl) (by unfold in32; omega) ?_
  refine go_sld (by omega) (by omega) (at_of tL_law 12 0 rfl) ?_
  refine go_aload_n (at_of tL_law 12 1 rfl) rfl ?_
  refine go_cX (k1) lk_L_182 rfl (at_of tL_law 12 2 rfl) rfl (by decide) rfl (Nat.le_of_ble_eq_true rfl) rfl (by first | decide | exact ⟨Nat.zero_le _, Nat.zero_le _⟩ | omega) ?_
  refine go_istore (at_of tL_law 12 3 rfl) rfl rfl ?_
  refine go_aload_n (at_of tL_law 12 4 rfl) rfl ?_
  refine go_aload_s (at_of tL_law 12 5 rfl) rfl ?_
  refine go_iload (at_of tL_law 12 6 rfl) rfl rfl ?_
  refine go_iconst (at_of tL_law 12 7 rfl) (by unfold in32; omega) ?_
  refine go_iadd (at_of tL_law 12 8 rfl) (by unfold in32; omega) ?_
  refine go_sld (by omega) (by omega) (at_of tL_law 12 9 rfl) ?_
  refine go_aload_s (at_of tL_law 12 10 rfl) rfl ?_
  refine go_iload (at_of tL_law 12 11 rfl) rfl rfl ?_
  refine go_iconst (at_of tL_law 12 12 rfl) (by unfold in32; omega) ?_
  refine go_iadd (at_of tL_law 12 13 rfl) (by unfold in32; omega) ?_
  refine go_sld (by omega) (by omega) (at_of tL_law 12 14 rfl) ?_
  refine go_aload_s (at_of tL_law 12 15 rfl) rfl ?_
  refine go_iload (at_of tL_law 13 0 rfl) rfl rfl ?_
  refine go_iconst (at_of tL_law 13 1 rfl) (by unfold in32; omega) ?_
  refine go_iadd (at_of tL_law 13 2 rfl) (by unfold in32; omega) ?_
  refine go_sld (by omega) (by omega) (at_of tL_law 13 3 rfl) ?_
  refine go_cV (k2) lk_L_185 rfl G_109 (at_of tL_law 13 4 rfl) rfl (by decide) rfl (Nat.le_of_ble_eq_true rfl) rfl (by first | decide | exact ⟨Nat.zero_le _, Nat.zero_le _⟩ | omega) ?_
  refine go_istore (at_of tL_law 13 5 rfl) rfl rfl ?_
  refine go_aload_n (at_of tL_law 13 6 rfl) rfl ?_
  refine go_cV (m_thrown) lk_L_175 rfl G_109 (at_of tL_law 13 7 rfl) rfl (by decide) rfl (Nat.le_of_ble_eq_true rfl) rfl (by first | decide | exact ⟨Nat.zero_le _, Nat.zero_le _⟩ | omega) ?_
  refine go_iload (at_of tL_law 13 8 rfl) rfl rfl ?_
  refine go_icmp_eq (tgt := 545) (at_of tL_law 13 9 rfl) (by decide) (fun h540 => ?_) (fun h540 => ?_)
  rotate_left
  · exfalso; omega
  refine go_iload (at_of tL_law 13 12 rfl) rfl rfl ?_
  refine go_if_ne (tgt := 562) (at_of tL_law 13 13 rfl) (by decide) (fun h547 => ?_) (fun h547 => ?_)
  · first
    | exfalso; omega
    | refine go_goto (tgt := 3207) (at_of tL_law 14 7 rfl) (by decide) ?_
      exact law_next ⟨hi, by omega⟩ K (by dsimp only; omega)
  · first
    | exfalso; omega
    | refine go_aload_n (at_of tL_law 13 14 rfl) rfl ?_
      refine go_iconst (at_of tL_law 13 15 rfl) (by unfold in32; omega) ?_
      refine go_lald G_133 (by omega) (by omega) (at_of tL_law 14 0 rfl) ?_
      refine go_iload (at_of tL_law 14 1 rfl) rfl rfl ?_
      refine go_i2l (at_of tL_law 14 2 rfl) ?_
      refine go_lcmp (at_of tL_law 14 3 rfl) ?_
      refine go_if_eq (tgt := 562) (at_of tL_law 14 4 rfl) (by decide) (fun h557 => ?_) (fun h557 => ?_)
      rotate_left
      · exfalso; exact h557 (cmpZ_eq (k4 (by omega)))
      refine go_goto (tgt := 3207) (at_of tL_law 14 7 rfl) (by decide) ?_
      exact law_next ⟨hi, by omega⟩ K (by dsimp only; omega)
theorem lc_4 (hi : 0 ≤ i) (hz : i + 5 ≤ z) (hz2 : z ≤ 2560) (h : Sim σ) : ∃ σ2, Sim σ2 ∧ ∀ σf, NxtK xs z n (i + 5) σ2 σf → CurK xs z n i 565 σ σf := by
  obtain ⟨pi, A, ns, nf, hp⟩ := h
  obtain ⟨k, v, σ1, σ2, k1, k2, k3, k4, k5⟩ := st_setStyle hp (a := xs (i + 1).toNat) (p := xs (i + 2).toNat) (z := xs (i + 3).toNat) 
  refine ⟨σ2, k5, fun σf K b v6 v7 v8 v9 hb => ?_⟩
  refine go_aload_n (at_of tL_law 14 8 rfl) rfl ?_
  refine go_aload_s (at_of tL_law 14 9 rfl) rfl ?_
  refine go_iload (at_of tL_law 14 10 rfl) rfl rfl ?_
  refine go_iconst (at_of tL_law 14 11 rfl) (by unfold in32; omega) ?_
  refine go_iadd (at_of tL_law 14 12 rfl) (by unfold in32; omega) ?_
  refine go_sld (by omega) (by omega) (at_of tL_law 14 13 rfl) ?_
  refine go_aload_s (at_of tL_law 14 14 rfl) rfl ?_
  refine go_iload (at_of tL_law 14 15 rfl) rfl rfl ?_
  refine go_iconst (at_of tL_law 15 0 rfl) (by unfold in32; omega) ?_
  refine go_iadd (at_of tL_law 15 1 rfl) (by unfold in32; omega) ?_
  refine go_sld (by omega) (by omega) (at_of tL_law 15 2 rfl) ?_
  refine go_aload_s (at_of tL_law 15 3 rfl) rfl ?_
  refine go_iload (at_of tL_law 15 4 rfl) rfl rfl ?_
  refine go_iconst (at_of tL_law 15 5 rfl) (by unfold in32; omega) ?_
  refine go_iadd (at_of tL_law 15 6 rfl) (by unfold in32; omega) ?_
  refine go_sld (by omega) (by omega) (at_of tL_law 15 7 rfl) ?_
  refine go_aload_n (at_of tL_law 15 8 rfl) rfl ?_
  refine go_cX (k1) lk_L_186 rfl (at_of tL_law 15 9 rfl) rfl (by decide) rfl (Nat.le_of_ble_eq_true rfl) rfl (by first | decide | exact ⟨Nat.zero_le _, Nat.zero_le _⟩ | omega) ?_
  refine go_istore (at_of tL_law 15 10 rfl) rfl rfl ?_
  refine go_aload_n (at_of tL_law 15 11 rfl) rfl ?_
  refine go_aload_s (at_of tL_law 15 12 rfl) rfl ?_
  refine go_iload (at_of tL_law 15 13 rfl) rfl rfl ?_
  refine go_iconst (at_of tL_law 15 14 rfl) (by unfold in32; omega) ?_
  refine go_iadd (at_of tL_law 15 15 rfl) (by unfold in32; omega) ?_
  refine go_sld (by omega) (by omega) (at_of tL_law 16 0 rfl) ?_
  refine go_aload_s (at_of tL_law 16 1 rfl) rfl ?_
  refine go_iload (at_of tL_law 16 2 rfl) rfl rfl ?_
  refine go_iconst (at_of tL_law 16 3 rfl) (by unfold in32; omega) ?_
  refine go_iadd (at_of tL_law 16 4 rfl) (by unfold in32; omega) ?_
  refine go_sld (by omega) (by omega) (at_of tL_law 16 5 rfl) ?_
  refine go_aload_s (at_of tL_law 16 6 rfl) rfl ?_
  refine go_iload (at_of tL_law 16 7 rfl) rfl rfl ?_
  refine go_iconst (at_of tL_law 16 8 rfl) (by unfold in32; omega) ?_
  refine go_iadd (at_of tL_law 16 9 rfl) (by unfold in32; omega) ?_
  refine go_sld (by omega) (by omega) (at_of tL_law 16 10 rfl) ?_
  refine go_cV (k2) lk_L_188 rfl G_109 (at_of tL_law 16 11 rfl) rfl (by decide) rfl (Nat.le_of_ble_eq_true rfl) rfl (by first | decide | exact ⟨Nat.zero_le _, Nat.zero_le _⟩ | omega) ?_
  refine go_istore (at_of tL_law 16 12 rfl) rfl rfl ?_
  refine go_aload_n (at_of tL_law 16 13 rfl) rfl ?_
  refine go_cV (m_thrown) lk_L_175 rfl G_109 (at_of tL_law 16 14 rfl) rfl (by decide) rfl (Nat.le_of_ble_eq_true rfl) rfl (by first | decide | exact ⟨Nat.zero_le _, Nat.zero_le _⟩ | omega) ?_
  refine go_iload (at_of tL_law 16 15 rfl) rfl rfl ?_
  refine go_icmp_eq (tgt := 625) (at_of tL_law 17 0 rfl) (by decide) (fun h620 => ?_) (fun h620 => ?_)
  rotate_left
  · exfalso; omega
  refine go_iload (at_of tL_law 17 3 rfl) rfl rfl ?_
  refine go_if_ne (tgt := 642) (at_of tL_law 17 4 rfl) (by decide) (fun h627 => ?_) (fun h627 => ?_)
  · first
    | exfalso; omega
    | refine go_goto (tgt := 3207) (at_of tL_law 17 14 rfl) (by decide) ?_
      exact law_next ⟨hi, by omega⟩ K (by dsimp only; omega)
  · first
    | exfalso; omega
    | refine go_aload_n (at_of tL_law 17 5 rfl) rfl ?_
      refine go_iconst (at_of tL_law 17 6 rfl) (by unfold in32; omega) ?_
      refine go_lald G_133 (by omega) (by omega) (at_of tL_law 17 7 rfl) ?_
      refine go_iload (at_of tL_law 17 8 rfl) rfl rfl ?_
      refine go_i2l (at_of tL_law 17 9 rfl) ?_
      refine go_lcmp (at_of tL_law 17 10 rfl) ?_
      refine go_if_eq (tgt := 642) (at_of tL_law 17 11 rfl) (by decide) (fun h637 => ?_) (fun h637 => ?_)
      rotate_left
      · exfalso; exact h637 (cmpZ_eq (k4 (by omega)))
      refine go_goto (tgt := 3207) (at_of tL_law 17 14 rfl) (by decide) ?_
      exact law_next ⟨hi, by omega⟩ K (by dsimp only; omega)
theorem lc_5 (hi : 0 ≤ i) (hz : i + 5 ≤ z) (hz2 : z ≤ 2560) (h : Sim σ) : ∃ σ2, Sim σ2 ∧ ∀ σf, NxtK xs z n (i + 5) σ2 σf → CurK xs z n i 645 σ σf := by
  obtain ⟨pi, A, ns, nf, hp⟩ := h
  by_cases hbl : xs (i + 2).toNat = 0
  · obtain ⟨k, v, σ1, σ2, k1, k2, k3, k4, k5, k6⟩ := st_protectB hp (p := xs (i + 1).toNat) (is := false) 
    refine ⟨σ2, k5, fun σf K b v6 v7 v8 v9 hb => ?_⟩
    refine go_aload_n (at_of tL_law 17 15 rfl) rfl ?_
    refine go_aload_s (at_of tL_law 18 0 rfl) rfl ?_
    refine go_iload (at_of tL_law 18 1 rfl) rfl rfl ?_
    refine go_iconst (at_of tL_law 18 2 rfl) (by unfold in32; omega) ?_
    refine go_iadd (at_of tL_law 18 3 rfl) (by unfold in32; omega) ?_
    refine go_sld (by omega) (by omega) (at_of tL_law 18 4 rfl) ?_
    refine go_aload_s (at_of tL_law 18 5 rfl) rfl ?_
    refine go_iload (at_of tL_law 18 6 rfl) rfl rfl ?_
    refine go_iconst (at_of tL_law 18 7 rfl) (by unfold in32; omega) ?_
    refine go_iadd (at_of tL_law 18 8 rfl) (by unfold in32; omega) ?_
    refine go_sld (by omega) (by omega) (at_of tL_law 18 9 rfl) ?_
    refine go_if_eq (tgt := 665) (at_of tL_law 18 10 rfl) (by decide) (fun h658 => ?_) (fun h658 => ?_)
    rotate_left
    · exfalso; omega
    refine go_iconst (at_of tL_law 18 13 rfl) (by unfold in32; omega) ?_
    refine go_aload_n (at_of tL_law 18 14 rfl) rfl ?_
    refine go_cX (k1) lk_L_189 rfl (at_of tL_law 18 15 rfl) rfl (by decide) rfl (Nat.le_of_ble_eq_true rfl) rfl (by first | decide | exact ⟨Nat.zero_le _, Nat.zero_le _⟩ | omega) ?_
    refine go_istore (at_of tL_law 19 0 rfl) rfl rfl ?_
    refine go_aload_n (at_of tL_law 19 1 rfl) rfl ?_
    refine go_aload_s (at_of tL_law 19 2 rfl) rfl ?_
    refine go_iload (at_of tL_law 19 3 rfl) rfl rfl ?_
    refine go_iconst (at_of tL_law 19 4 rfl) (by unfold in32; omega) ?_
    refine go_iadd (at_of tL_law 19 5 rfl) (by unfold in32; omega) ?_
    refine go_sld (by omega) (by omega) (at_of tL_law 19 6 rfl) ?_
    refine go_aload_s (at_of tL_law 19 7 rfl) rfl ?_
    refine go_iload (at_of tL_law 19 8 rfl) rfl rfl ?_
    refine go_iconst (at_of tL_law 19 9 rfl) (by unfold in32; omega) ?_
    refine go_iadd (at_of tL_law 19 10 rfl) (by unfold in32; omega) ?_
    refine go_sld (by omega) (by omega) (at_of tL_law 19 11 rfl) ?_
    refine go_if_eq (tgt := 692) (at_of tL_law 19 12 rfl) (by decide) (fun h685 => ?_) (fun h685 => ?_)
    rotate_left
    · exfalso; omega
    refine go_iconst (at_of tL_law 19 15 rfl) (by unfold in32; omega) ?_
    refine go_cV (k2) lk_L_192 rfl G_109 (at_of tL_law 20 0 rfl) rfl (by decide) rfl (Nat.le_of_ble_eq_true rfl) rfl (by first | decide | exact ⟨Nat.zero_le _, Nat.zero_le _⟩ | omega) ?_
    refine go_istore (at_of tL_law 20 1 rfl) rfl rfl ?_
    refine go_aload_n (at_of tL_law 20 2 rfl) rfl ?_
    refine go_cV (m_thrown) lk_L_175 rfl G_109 (at_of tL_law 20 3 rfl) rfl (by decide) rfl (Nat.le_of_ble_eq_true rfl) rfl (by first | decide | exact ⟨Nat.zero_le _, Nat.zero_le _⟩ | omega) ?_
    refine go_iload (at_of tL_law 20 4 rfl) rfl rfl ?_
    refine go_icmp_eq (tgt := 709) (at_of tL_law 20 5 rfl) (by decide) (fun h704 => ?_) (fun h704 => ?_)
    rotate_left
    · exfalso; omega
    refine go_iload (at_of tL_law 20 8 rfl) rfl rfl ?_
    refine go_if_ne (tgt := 733) (at_of tL_law 20 9 rfl) (by decide) (fun h711 => ?_) (fun h711 => ?_)
    · first
      | exfalso; omega
      | refine go_goto (tgt := 3207) (at_of tL_law 21 6 rfl) (by decide) ?_
        exact law_next ⟨hi, by omega⟩ K (by dsimp only; omega)
    · first
      | exfalso; omega
      | refine go_aload_n (at_of tL_law 20 10 rfl) rfl ?_
        refine go_iconst (at_of tL_law 20 11 rfl) (by unfold in32; omega) ?_
        refine go_lald G_133 (by omega) (by omega) (at_of tL_law 20 12 rfl) ?_
        refine go_iload (at_of tL_law 20 13 rfl) rfl rfl ?_
        refine go_if_eq (tgt := 726) (at_of tL_law 20 14 rfl) (by decide) (fun h719 => ?_) (fun h719 => ?_)
        · first
          | exfalso; omega
          | refine go_lconst (at_of tL_law 21 1 rfl) ?_
            refine go_lcmp (at_of tL_law 21 2 rfl) ?_
            refine go_if_eq (tgt := 733) (at_of tL_law 21 3 rfl) (by decide) (fun h728 => ?_) (fun h728 => ?_)
            rotate_left
            · exfalso; exact h728 (cmpZ_eq (show σ2.1 133 0 = _ by have := k4 (by omega); have := k6 (by omega); omega))
            refine go_goto (tgt := 3207) (at_of tL_law 21 6 rfl) (by decide) ?_
            exact law_next ⟨hi, by omega⟩ K (by dsimp only; omega)
        · first
          | exfalso; omega
          | refine go_lconst (at_of tL_law 20 15 rfl) ?_
            refine go_goto (tgt := 727) (at_of tL_law 21 0 rfl) (by decide) ?_
            refine go_lcmp (at_of tL_law 21 2 rfl) ?_
            refine go_if_eq (tgt := 733) (at_of tL_law 21 3 rfl) (by decide) (fun h728 => ?_) (fun h728 => ?_)
            rotate_left
            · exfalso; exact h728 (cmpZ_eq (show σ2.1 133 0 = _ by have := k4 (by omega); have := k6 (by omega); omega))
            refine go_goto (tgt := 3207) (at_of tL_law 21 6 rfl) (by decide) ?_
            exact law_next ⟨hi, by omega⟩ K (by dsimp only; omega)
  · obtain ⟨k, v, σ1, σ2, k1, k2, k3, k4, k5, k6⟩ := st_protectB hp (p := xs (i + 1).toNat) (is := true) 
    refine ⟨σ2, k5, fun σf K b v6 v7 v8 v9 hb => ?_⟩
    refine go_aload_n (at_of tL_law 17 15 rfl) rfl ?_
    refine go_aload_s (at_of tL_law 18 0 rfl) rfl ?_
    refine go_iload (at_of tL_law 18 1 rfl) rfl rfl ?_
    refine go_iconst (at_of tL_law 18 2 rfl) (by unfold in32; omega) ?_
    refine go_iadd (at_of tL_law 18 3 rfl) (by unfold in32; omega) ?_
    refine go_sld (by omega) (by omega) (at_of tL_law 18 4 rfl) ?_
    refine go_aload_s (at_of tL_law 18 5 rfl) rfl ?_
    refine go_iload (at_of tL_law 18 6 rfl) rfl rfl ?_
    refine go_iconst (at_of tL_law 18 7 rfl) (by unfold in32; omega) ?_
    refine go_iadd (at_of tL_law 18 8 rfl) (by unfold in32; omega) ?_
    refine go_sld (by omega) (by omega) (at_of tL_law 18 9 rfl) ?_
    refine go_if_eq (tgt := 665) (at_of tL_law 18 10 rfl) (by decide) (fun h658 => ?_) (fun h658 => ?_)
    · exfalso; omega
    refine go_iconst (at_of tL_law 18 11 rfl) (by unfold in32; omega) ?_
    refine go_goto (tgt := 666) (at_of tL_law 18 12 rfl) (by decide) ?_
    refine go_aload_n (at_of tL_law 18 14 rfl) rfl ?_
    refine go_cX (k1) lk_L_189 rfl (at_of tL_law 18 15 rfl) rfl (by decide) rfl (Nat.le_of_ble_eq_true rfl) rfl (by first | decide | exact ⟨Nat.zero_le _, Nat.zero_le _⟩ | omega) ?_
    refine go_istore (at_of tL_law 19 0 rfl) rfl rfl ?_
    refine go_aload_n (at_of tL_law 19 1 rfl) rfl ?_
    refine go_aload_s (at_of tL_law 19 2 rfl) rfl ?_
    refine go_iload (at_of tL_law 19 3 rfl) rfl rfl ?_
    refine go_iconst (at_of tL_law 19 4 rfl) (by unfold in32; omega) ?_
    refine go_iadd (at_of tL_law 19 5 rfl) (by unfold in32; omega) ?_
    refine go_sld (by omega) (by omega) (at_of tL_law 19 6 rfl) ?_
    refine go_aload_s (at_of tL_law 19 7 rfl) rfl ?_
    refine go_iload (at_of tL_law 19 8 rfl) rfl rfl ?_
    refine go_iconst (at_of tL_law 19 9 rfl) (by unfold in32; omega) ?_
    refine go_iadd (at_of tL_law 19 10 rfl) (by unfold in32; omega) ?_
    refine go_sld (by omega) (by omega) (at_of tL_law 19 11 rfl) ?_
    refine go_if_eq (tgt := 692) (at_of tL_law 19 12 rfl) (by decide) (fun h685 => ?_) (fun h685 => ?_)
    · exfalso; omega
    refine go_iconst (at_of tL_law 19 13 rfl) (by unfold in32; omega) ?_
    refine go_goto (tgt := 693) (at_of tL_law 19 14 rfl) (by decide) ?_
    refine go_cV (k2) lk_L_192 rfl G_109 (at_of tL_law 20 0 rfl) rfl (by decide) rfl (Nat.le_of_ble_eq_true rfl) rfl (by first | decide | exact ⟨Nat.zero_le _, Nat.zero_le _⟩ | omega) ?_
    refine go_istore (at_of tL_law 20 1 rfl) rfl rfl ?_
    refine go_aload_n (at_of tL_law 20 2 rfl) rfl ?_
    refine go_cV (m_thrown) lk_L_175 rfl G_109 (at_of tL_law 20 3 rfl) rfl (by decide) rfl (Nat.le_of_ble_eq_true rfl) rfl (by first | decide | exact ⟨Nat.zero_le _, Nat.zero_le _⟩ | omega) ?_
    refine go_iload (at_of tL_law 20 4 rfl) rfl rfl ?_
    refine go_icmp_eq (tgt := 709) (at_of tL_law 20 5 rfl) (by decide) (fun h704 => ?_) (fun h704 => ?_)
    rotate_left
    · exfalso; omega
    refine go_iload (at_of tL_law 20 8 rfl) rfl rfl ?_
    refine go_if_ne (tgt := 733) (at_of tL_law 20 9 rfl) (by decide) (fun h711 => ?_) (fun h711 => ?_)
    · first
      | exfalso; omega
      | refine go_goto (tgt := 3207) (at_of tL_law 21 6 rfl) (by decide) ?_
        exact law_next ⟨hi, by omega⟩ K (by dsimp only; omega)
    · first
      | exfalso; omega
      | refine go_aload_n (at_of tL_law 20 10 rfl) rfl ?_
        refine go_iconst (at_of tL_law 20 11 rfl) (by unfold in32; omega) ?_
        refine go_lald G_133 (by omega) (by omega) (at_of tL_law 20 12 rfl) ?_
        refine go_iload (at_of tL_law 20 13 rfl) rfl rfl ?_
        refine go_if_eq (tgt := 726) (at_of tL_law 20 14 rfl) (by decide) (fun h719 => ?_) (fun h719 => ?_)
        · first
          | exfalso; omega
          | refine go_lconst (at_of tL_law 21 1 rfl) ?_
            refine go_lcmp (at_of tL_law 21 2 rfl) ?_
            refine go_if_eq (tgt := 733) (at_of tL_law 21 3 rfl) (by decide) (fun h728 => ?_) (fun h728 => ?_)
            rotate_left
            · exfalso; exact h728 (cmpZ_eq (show σ2.1 133 0 = _ by have := k4 (by omega); have := k6 (by omega); omega))
            refine go_goto (tgt := 3207) (at_of tL_law 21 6 rfl) (by decide) ?_
            exact law_next ⟨hi, by omega⟩ K (by dsimp only; omega)
        · first
          | exfalso; omega
          | refine go_lconst (at_of tL_law 20 15 rfl) ?_
            refine go_goto (tgt := 727) (at_of tL_law 21 0 rfl) (by decide) ?_
            refine go_lcmp (at_of tL_law 21 2 rfl) ?_
            refine go_if_eq (tgt := 733) (at_of tL_law 21 3 rfl) (by decide) (fun h728 => ?_) (fun h728 => ?_)
            rotate_left
            · exfalso; exact h728 (cmpZ_eq (show σ2.1 133 0 = _ by have := k4 (by omega); have := k6 (by omega); omega))
            refine go_goto (tgt := 3207) (at_of tL_law 21 6 rfl) (by decide) ?_
            exact law_next ⟨hi, by omega⟩ K (by dsimp only; omega)
theorem lc_6 (hi : 0 ≤ i) (hz : i + 5 ≤ z) (hz2 : z ≤ 2560) (h : Sim σ) : ∃ σ2, Sim σ2 ∧ ∀ σf, NxtK xs z n (i + 5) σ2 σf → CurK xs z n i 736 σ σf := by
  obtain ⟨pi, A, ns, nf, hp⟩ := h
  obtain ⟨k, v, σ1, σ2, k1, k2, k3, k4, k5⟩ := st_undo hp  
  refine ⟨σ2, k5, fun σf K b v6 v7 v8 v9 hb => ?_⟩
  refine go_aload_n (at_of tL_law 21 7 rfl) rfl ?_
  refine go_aload_n (at_of tL_law 21 8 rfl) rfl ?_
  refine go_cX (k1) lk_L_193 rfl (at_of tL_law 21 9 rfl) rfl (by decide) rfl (Nat.le_of_ble_eq_true rfl) rfl (by first | decide | exact ⟨Nat.zero_le _, Nat.zero_le _⟩ | omega) ?_
  refine go_istore (at_of tL_law 21 10 rfl) rfl rfl ?_
  refine go_aload_n (at_of tL_law 21 11 rfl) rfl ?_
  refine go_cV (k2) lk_L_196 rfl G_109 (at_of tL_law 21 12 rfl) rfl (by decide) rfl (Nat.le_of_ble_eq_true rfl) rfl (by first | decide | exact ⟨Nat.zero_le _, Nat.zero_le _⟩ | omega) ?_
  refine go_istore (at_of tL_law 21 13 rfl) rfl rfl ?_
  refine go_aload_n (at_of tL_law 21 14 rfl) rfl ?_
  refine go_cV (m_thrown) lk_L_175 rfl G_109 (at_of tL_law 21 15 rfl) rfl (by decide) rfl (Nat.le_of_ble_eq_true rfl) rfl (by first | decide | exact ⟨Nat.zero_le _, Nat.zero_le _⟩ | omega) ?_
  refine go_iload (at_of tL_law 22 0 rfl) rfl rfl ?_
  refine go_icmp_eq (tgt := 760) (at_of tL_law 22 1 rfl) (by decide) (fun h755 => ?_) (fun h755 => ?_)
  rotate_left
  · exfalso; omega
  refine go_iload (at_of tL_law 22 4 rfl) rfl rfl ?_
  refine go_if_ne (tgt := 777) (at_of tL_law 22 5 rfl) (by decide) (fun h762 => ?_) (fun h762 => ?_)
  · first
    | exfalso; omega
    | refine go_goto (tgt := 3207) (at_of tL_law 22 15 rfl) (by decide) ?_
      exact law_next ⟨hi, by omega⟩ K (by dsimp only; omega)
  · first
    | exfalso; omega
    | refine go_aload_n (at_of tL_law 22 6 rfl) rfl ?_
      refine go_iconst (at_of tL_law 22 7 rfl) (by unfold in32; omega) ?_
      refine go_lald G_133 (by omega) (by omega) (at_of tL_law 22 8 rfl) ?_
      refine go_iload (at_of tL_law 22 9 rfl) rfl rfl ?_
      refine go_i2l (at_of tL_law 22 10 rfl) ?_
      refine go_lcmp (at_of tL_law 22 11 rfl) ?_
      refine go_if_eq (tgt := 777) (at_of tL_law 22 12 rfl) (by decide) (fun h772 => ?_) (fun h772 => ?_)
      rotate_left
      · exfalso; exact h772 (cmpZ_eq (k4 (by omega)))
      refine go_goto (tgt := 3207) (at_of tL_law 22 15 rfl) (by decide) ?_
      exact law_next ⟨hi, by omega⟩ K (by dsimp only; omega)
theorem lc_7 (hi : 0 ≤ i) (hz : i + 5 ≤ z) (hz2 : z ≤ 2560) (h : Sim σ) : ∃ σ2, Sim σ2 ∧ ∀ σf, NxtK xs z n (i + 5) σ2 σf → CurK xs z n i 780 σ σf := by
  obtain ⟨pi, A, ns, nf, hp⟩ := h
  obtain ⟨k, v, σ1, σ2, k1, k2, k3, k4, k5⟩ := st_redo hp  
  refine ⟨σ2, k5, fun σf K b v6 v7 v8 v9 hb => ?_⟩
  refine go_aload_n (at_of tL_law 23 0 rfl) rfl ?_
  refine go_aload_n (at_of tL_law 23 1 rfl) rfl ?_
  refine go_cX (k1) lk_L_197 rfl (at_of tL_law 23 2 rfl) rfl (by decide) rfl (Nat.le_of_ble_eq_true rfl) rfl (by first | decide | exact ⟨Nat.zero_le _, Nat.zero_le _⟩ | omega) ?_
  refine go_istore (at_of tL_law 23 3 rfl) rfl rfl ?_
  refine go_aload_n (at_of tL_law 23 4 rfl) rfl ?_
  refine go_cV (k2) lk_L_199 rfl G_109 (at_of tL_law 23 5 rfl) rfl (by decide) rfl (Nat.le_of_ble_eq_true rfl) rfl (by first | decide | exact ⟨Nat.zero_le _, Nat.zero_le _⟩ | omega) ?_
  refine go_istore (at_of tL_law 23 6 rfl) rfl rfl ?_
  refine go_aload_n (at_of tL_law 23 7 rfl) rfl ?_
  refine go_cV (m_thrown) lk_L_175 rfl G_109 (at_of tL_law 23 8 rfl) rfl (by decide) rfl (Nat.le_of_ble_eq_true rfl) rfl (by first | decide | exact ⟨Nat.zero_le _, Nat.zero_le _⟩ | omega) ?_
  refine go_iload (at_of tL_law 23 9 rfl) rfl rfl ?_
  refine go_icmp_eq (tgt := 804) (at_of tL_law 23 10 rfl) (by decide) (fun h799 => ?_) (fun h799 => ?_)
  rotate_left
  · exfalso; omega
  refine go_iload (at_of tL_law 23 13 rfl) rfl rfl ?_
  refine go_if_ne (tgt := 821) (at_of tL_law 23 14 rfl) (by decide) (fun h806 => ?_) (fun h806 => ?_)
  · first
    | exfalso; omega
    | refine go_goto (tgt := 3207) (at_of tL_law 24 8 rfl) (by decide) ?_
      exact law_next ⟨hi, by omega⟩ K (by dsimp only; omega)
  · first
    | exfalso; omega
    | refine go_aload_n (at_of tL_law 23 15 rfl) rfl ?_
      refine go_iconst (at_of tL_law 24 0 rfl) (by unfold in32; omega) ?_
      refine go_lald G_133 (by omega) (by omega) (at_of tL_law 24 1 rfl) ?_
      refine go_iload (at_of tL_law 24 2 rfl) rfl rfl ?_
      refine go_i2l (at_of tL_law 24 3 rfl) ?_
      refine go_lcmp (at_of tL_law 24 4 rfl) ?_
      refine go_if_eq (tgt := 821) (at_of tL_law 24 5 rfl) (by decide) (fun h816 => ?_) (fun h816 => ?_)
      rotate_left
      · exfalso; exact h816 (cmpZ_eq (k4 (by omega)))
      refine go_goto (tgt := 3207) (at_of tL_law 24 8 rfl) (by decide) ?_
      exact law_next ⟨hi, by omega⟩ K (by dsimp only; omega)
theorem lc_8 (hi : 0 ≤ i) (hz : i + 5 ≤ z) (hz2 : z ≤ 2560) (h : Sim σ) : ∃ σ2, Sim σ2 ∧ ∀ σf, NxtK xs z n (i + 5) σ2 σf → CurK xs z n i 824 σ σf := by
  obtain ⟨pi, A, ns, nf, hp⟩ := h
  obtain ⟨v, σ1, σ2, k1, k2, k5⟩ := st_length hp  
  refine ⟨σ2, k5, fun σf K b v6 v7 v8 v9 hb => ?_⟩
  refine go_aload_n (at_of tL_law 24 9 rfl) rfl ?_
  refine go_cV (k1) lk_L_200 rfl G_0 (at_of tL_law 24 10 rfl) rfl (by decide) rfl (Nat.le_of_ble_eq_true rfl) rfl (by first | decide | exact ⟨Nat.zero_le _, Nat.zero_le _⟩ | omega) ?_
  refine go_aload_n (at_of tL_law 24 11 rfl) rfl ?_
  refine go_cV (k2) lk_L_203 rfl G_109 (at_of tL_law 24 12 rfl) rfl (by decide) rfl (Nat.le_of_ble_eq_true rfl) rfl (by first | decide | exact ⟨Nat.zero_le _, Nat.zero_le _⟩ | omega) ?_
  refine go_icmp_eq (tgt := 3207) (at_of tL_law 24 13 rfl) (by decide) (fun h832 => ?_) (fun h832 => ?_)
  rotate_left
  · exfalso; omega
  exact law_next ⟨hi, by omega⟩ K (by dsimp only; omega)
theorem lc_9 (hi : 0 ≤ i) (hz : i + 5 ≤ z) (hz2 : z ≤ 2560) (h : Sim σ) : ∃ σ2, Sim σ2 ∧ ∀ σf, NxtK xs z n (i + 5) σ2 σf → CurK xs z n i 837 σ σf := by
  obtain ⟨pi, A, ns, nf, hp⟩ := h
  obtain ⟨k, v, σ1, σ2, k1, k2, k3, k4, k5⟩ := st_unitAt hp (p := xs (i + 1).toNat) 
  refine ⟨σ2, k5, fun σf K b v6 v7 v8 v9 hb => ?_⟩
  refine go_aload_n (at_of tL_law 25 0 rfl) rfl ?_
  refine go_aload_s (at_of tL_law 25 1 rfl) rfl ?_
  refine go_iload (at_of tL_law 25 2 rfl) rfl rfl ?_
  refine go_iconst (at_of tL_law 25 3 rfl) (by unfold in32; omega) ?_
  refine go_iadd (at_of tL_law 25 4 rfl) (by unfold in32; omega) ?_
  refine go_sld (by omega) (by omega) (at_of tL_law 25 5 rfl) ?_
  refine go_aload_n (at_of tL_law 25 6 rfl) rfl ?_
  refine go_cX (k1) lk_L_204 rfl (at_of tL_law 25 7 rfl) rfl (by decide) rfl (Nat.le_of_ble_eq_true rfl) rfl (by first | decide | exact ⟨Nat.zero_le _, Nat.zero_le _⟩ | omega) ?_
  refine go_istore (at_of tL_law 25 8 rfl) rfl rfl ?_
  refine go_aload_n (at_of tL_law 25 9 rfl) rfl ?_
  refine go_aload_s (at_of tL_law 25 10 rfl) rfl ?_
  refine go_iload (at_of tL_law 25 11 rfl) rfl rfl ?_
  refine go_iconst (at_of tL_law 25 12 rfl) (by unfold in32; omega) ?_
  refine go_iadd (at_of tL_law 25 13 rfl) (by unfold in32; omega) ?_
  refine go_sld (by omega) (by omega) (at_of tL_law 25 14 rfl) ?_
  refine go_cV (k2) lk_L_207 rfl G_109 (at_of tL_law 25 15 rfl) rfl (by decide) rfl (Nat.le_of_ble_eq_true rfl) rfl (by first | decide | exact ⟨Nat.zero_le _, Nat.zero_le _⟩ | omega) ?_
  refine go_istore (at_of tL_law 26 0 rfl) rfl rfl ?_
  refine go_aload_n (at_of tL_law 26 1 rfl) rfl ?_
  refine go_cV (m_thrown) lk_L_175 rfl G_109 (at_of tL_law 26 2 rfl) rfl (by decide) rfl (Nat.le_of_ble_eq_true rfl) rfl (by first | decide | exact ⟨Nat.zero_le _, Nat.zero_le _⟩ | omega) ?_
  refine go_iload (at_of tL_law 26 3 rfl) rfl rfl ?_
  refine go_icmp_eq (tgt := 873) (at_of tL_law 26 4 rfl) (by decide) (fun h868 => ?_) (fun h868 => ?_)
  rotate_left
  · exfalso; omega
  refine go_iload (at_of tL_law 26 7 rfl) rfl rfl ?_
  refine go_if_ne (tgt := 890) (at_of tL_law 26 8 rfl) (by decide) (fun h875 => ?_) (fun h875 => ?_)
  · first
    | exfalso; omega
    | refine go_goto (tgt := 3207) (at_of tL_law 27 2 rfl) (by decide) ?_
      exact law_next ⟨hi, by omega⟩ K (by dsimp only; omega)
  · first
    | exfalso; omega
    | refine go_aload_n (at_of tL_law 26 9 rfl) rfl ?_
      refine go_iconst (at_of tL_law 26 10 rfl) (by unfold in32; omega) ?_
      refine go_lald G_133 (by omega) (by omega) (at_of tL_law 26 11 rfl) ?_
      refine go_iload (at_of tL_law 26 12 rfl) rfl rfl ?_
      refine go_i2l (at_of tL_law 26 13 rfl) ?_
      refine go_lcmp (at_of tL_law 26 14 rfl) ?_
      refine go_if_eq (tgt := 890) (at_of tL_law 26 15 rfl) (by decide) (fun h885 => ?_) (fun h885 => ?_)
      rotate_left
      · exfalso; exact h885 (cmpZ_eq (k4 (by omega)))
      refine go_goto (tgt := 3207) (at_of tL_law 27 2 rfl) (by decide) ?_
      exact law_next ⟨hi, by omega⟩ K (by dsimp only; omega)
theorem lc_10 (hi : 0 ≤ i) (hz : i + 5 ≤ z) (hz2 : z ≤ 2560) (h : Sim σ) : ∃ σ2, Sim σ2 ∧ ∀ σf, NxtK xs z n (i + 5) σ2 σf → CurK xs z n i 893 σ σf := by
  obtain ⟨pi, A, ns, nf, hp⟩ := h
  obtain ⟨v, σ1, σ2, k1, k2, k5⟩ := st_oldLength hp  
  refine ⟨σ2, k5, fun σf K b v6 v7 v8 v9 hb => ?_⟩
  refine go_aload_n (at_of tL_law 27 3 rfl) rfl ?_
  refine go_cV (k1) lk_L_208 rfl G_0 (at_of tL_law 27 4 rfl) rfl (by decide) rfl (Nat.le_of_ble_eq_true rfl) rfl (by first | decide | exact ⟨Nat.zero_le _, Nat.zero_le _⟩ | omega) ?_
  refine go_aload_n (at_of tL_law 27 5 rfl) rfl ?_
  refine go_cV (k2) lk_L_211 rfl G_109 (at_of tL_law 27 6 rfl) rfl (by decide) rfl (Nat.le_of_ble_eq_true rfl) rfl (by first | decide | exact ⟨Nat.zero_le _, Nat.zero_le _⟩ | omega) ?_
  refine go_icmp_eq (tgt := 3207) (at_of tL_law 27 7 rfl) (by decide) (fun h901 => ?_) (fun h901 => ?_)
  rotate_left
  · exfalso; omega
  exact law_next ⟨hi, by omega⟩ K (by dsimp only; omega)
theorem lc_11 (hi : 0 ≤ i) (hz : i + 5 ≤ z) (hz2 : z ≤ 2560) (h : Sim σ) : ∃ σ2, Sim σ2 ∧ ∀ σf, NxtK xs z n (i + 5) σ2 σf → CurK xs z n i 906 σ σf := by
  obtain ⟨pi, A, ns, nf, hp⟩ := h
  obtain ⟨k, v, σ1, σ2, k1, k2, k3, k4, k5⟩ := st_oldAt hp (p := xs (i + 1).toNat) 
  refine ⟨σ2, k5, fun σf K b v6 v7 v8 v9 hb => ?_⟩
  refine go_aload_n (at_of tL_law 27 10 rfl) rfl ?_
  refine go_aload_s (at_of tL_law 27 11 rfl) rfl ?_
  refine go_iload (at_of tL_law 27 12 rfl) rfl rfl ?_
  refine go_iconst (at_of tL_law 27 13 rfl) (by unfold in32; omega) ?_
  refine go_iadd (at_of tL_law 27 14 rfl) (by unfold in32; omega) ?_
  refine go_sld (by omega) (by omega) (at_of tL_law 27 15 rfl) ?_
  refine go_aload_n (at_of tL_law 28 0 rfl) rfl ?_
  refine go_cX (k1) lk_L_212 rfl (at_of tL_law 28 1 rfl) rfl (by decide) rfl (Nat.le_of_ble_eq_true rfl) rfl (by first | decide | exact ⟨Nat.zero_le _, Nat.zero_le _⟩ | omega) ?_
  refine go_istore (at_of tL_law 28 2 rfl) rfl rfl ?_
  refine go_aload_n (at_of tL_law 28 3 rfl) rfl ?_
  refine go_aload_s (at_of tL_law 28 4 rfl) rfl ?_
  refine go_iload (at_of tL_law 28 5 rfl) rfl rfl ?_
  refine go_iconst (at_of tL_law 28 6 rfl) (by unfold in32; omega) ?_
  refine go_iadd (at_of tL_law 28 7 rfl) (by unfold in32; omega) ?_
  refine go_sld (by omega) (by omega) (at_of tL_law 28 8 rfl) ?_
  refine go_cV (k2) lk_L_214 rfl G_109 (at_of tL_law 28 9 rfl) rfl (by decide) rfl (Nat.le_of_ble_eq_true rfl) rfl (by first | decide | exact ⟨Nat.zero_le _, Nat.zero_le _⟩ | omega) ?_
  refine go_istore (at_of tL_law 28 10 rfl) rfl rfl ?_
  refine go_aload_n (at_of tL_law 28 11 rfl) rfl ?_
  refine go_cV (m_thrown) lk_L_175 rfl G_109 (at_of tL_law 28 12 rfl) rfl (by decide) rfl (Nat.le_of_ble_eq_true rfl) rfl (by first | decide | exact ⟨Nat.zero_le _, Nat.zero_le _⟩ | omega) ?_
  refine go_iload (at_of tL_law 28 13 rfl) rfl rfl ?_
  refine go_icmp_eq (tgt := 942) (at_of tL_law 28 14 rfl) (by decide) (fun h937 => ?_) (fun h937 => ?_)
  rotate_left
  · exfalso; omega
  refine go_iload (at_of tL_law 29 1 rfl) rfl rfl ?_
  refine go_if_ne (tgt := 959) (at_of tL_law 29 2 rfl) (by decide) (fun h944 => ?_) (fun h944 => ?_)
  · first
    | exfalso; omega
    | refine go_goto (tgt := 3207) (at_of tL_law 29 12 rfl) (by decide) ?_
      exact law_next ⟨hi, by omega⟩ K (by dsimp only; omega)
  · first
    | exfalso; omega
    | refine go_aload_n (at_of tL_law 29 3 rfl) rfl ?_
      refine go_iconst (at_of tL_law 29 4 rfl) (by unfold in32; omega) ?_
      refine go_lald G_133 (by omega) (by omega) (at_of tL_law 29 5 rfl) ?_
      refine go_iload (at_of tL_law 29 6 rfl) rfl rfl ?_
      refine go_i2l (at_of tL_law 29 7 rfl) ?_
      refine go_lcmp (at_of tL_law 29 8 rfl) ?_
      refine go_if_eq (tgt := 959) (at_of tL_law 29 9 rfl) (by decide) (fun h954 => ?_) (fun h954 => ?_)
      rotate_left
      · exfalso; exact h954 (cmpZ_eq (k4 (by omega)))
      refine go_goto (tgt := 3207) (at_of tL_law 29 12 rfl) (by decide) ?_
      exact law_next ⟨hi, by omega⟩ K (by dsimp only; omega)
theorem lc_12 (hi : 0 ≤ i) (hz : i + 5 ≤ z) (hz2 : z ≤ 2560) (h : Sim σ) : ∃ σ2, Sim σ2 ∧ ∀ σf, NxtK xs z n (i + 5) σ2 σf → CurK xs z n i 962 σ σf := by
  obtain ⟨pi, A, ns, nf, hp⟩ := h
  obtain ⟨v, σ1, σ2, k1, k2, k5⟩ := st_paragraphs hp  
  refine ⟨σ2, k5, fun σf K b v6 v7 v8 v9 hb => ?_⟩
  refine go_aload_n (at_of tL_law 29 13 rfl) rfl ?_
  refine go_cV (k1) lk_L_215 rfl G_0 (at_of tL_law 29 14 rfl) rfl (by decide) rfl (Nat.le_of_ble_eq_true rfl) rfl (by first | decide | exact ⟨Nat.zero_le _, Nat.zero_le _⟩ | omega) ?_
  refine go_aload_n (at_of tL_law 29 15 rfl) rfl ?_
  refine go_cV (k2) lk_L_218 rfl G_109 (at_of tL_law 30 0 rfl) rfl (by decide) rfl (Nat.le_of_ble_eq_true rfl) rfl (by first | decide | exact ⟨Nat.zero_le _, Nat.zero_le _⟩ | omega) ?_
  refine go_icmp_eq (tgt := 3207) (at_of tL_law 30 1 rfl) (by decide) (fun h970 => ?_) (fun h970 => ?_)
  rotate_left
  · exfalso; omega
  exact law_next ⟨hi, by omega⟩ K (by dsimp only; omega)
theorem lc_13 (hi : 0 ≤ i) (hz : i + 5 ≤ z) (hz2 : z ≤ 2560) (h : Sim σ) : ∃ σ2, Sim σ2 ∧ ∀ σf, NxtK xs z n (i + 5) σ2 σf → CurK xs z n i 975 σ σf := by
  obtain ⟨pi, A, ns, nf, hp⟩ := h
  obtain ⟨k, v, σ1, σ2, k1, k2, k3, k4, k5⟩ := st_paragraphOf hp (p := xs (i + 1).toNat) 
  refine ⟨σ2, k5, fun σf K b v6 v7 v8 v9 hb => ?_⟩
  refine go_aload_n (at_of tL_law 30 4 rfl) rfl ?_
  refine go_aload_s (at_of tL_law 30 5 rfl) rfl ?_
  refine go_iload (at_of tL_law 30 6 rfl) rfl rfl ?_
  refine go_iconst (at_of tL_law 30 7 rfl) (by unfold in32; omega) ?_
  refine go_iadd (at_of tL_law 30 8 rfl) (by unfold in32; omega) ?_
  refine go_sld (by omega) (by omega) (at_of tL_law 30 9 rfl) ?_
  refine go_aload_n (at_of tL_law 30 10 rfl) rfl ?_
  refine go_cX (k1) lk_L_219 rfl (at_of tL_law 30 11 rfl) rfl (by decide) rfl (Nat.le_of_ble_eq_true rfl) rfl (by first | decide | exact ⟨Nat.zero_le _, Nat.zero_le _⟩ | omega) ?_
  refine go_istore (at_of tL_law 30 12 rfl) rfl rfl ?_
  refine go_aload_n (at_of tL_law 30 13 rfl) rfl ?_
  refine go_aload_s (at_of tL_law 30 14 rfl) rfl ?_
  refine go_iload (at_of tL_law 30 15 rfl) rfl rfl ?_
  refine go_iconst (at_of tL_law 31 0 rfl) (by unfold in32; omega) ?_
  refine go_iadd (at_of tL_law 31 1 rfl) (by unfold in32; omega) ?_
  refine go_sld (by omega) (by omega) (at_of tL_law 31 2 rfl) ?_
  refine go_cV (k2) lk_L_221 rfl G_109 (at_of tL_law 31 3 rfl) rfl (by decide) rfl (Nat.le_of_ble_eq_true rfl) rfl (by first | decide | exact ⟨Nat.zero_le _, Nat.zero_le _⟩ | omega) ?_
  refine go_istore (at_of tL_law 31 4 rfl) rfl rfl ?_
  refine go_aload_n (at_of tL_law 31 5 rfl) rfl ?_
  refine go_cV (m_thrown) lk_L_175 rfl G_109 (at_of tL_law 31 6 rfl) rfl (by decide) rfl (Nat.le_of_ble_eq_true rfl) rfl (by first | decide | exact ⟨Nat.zero_le _, Nat.zero_le _⟩ | omega) ?_
  refine go_iload (at_of tL_law 31 7 rfl) rfl rfl ?_
  refine go_icmp_eq (tgt := 1011) (at_of tL_law 31 8 rfl) (by decide) (fun h1006 => ?_) (fun h1006 => ?_)
  rotate_left
  · exfalso; omega
  refine go_iload (at_of tL_law 31 11 rfl) rfl rfl ?_
  refine go_if_ne (tgt := 1028) (at_of tL_law 31 12 rfl) (by decide) (fun h1013 => ?_) (fun h1013 => ?_)
  · first
    | exfalso; omega
    | refine go_goto (tgt := 3207) (at_of tL_law 32 6 rfl) (by decide) ?_
      exact law_next ⟨hi, by omega⟩ K (by dsimp only; omega)
  · first
    | exfalso; omega
    | refine go_aload_n (at_of tL_law 31 13 rfl) rfl ?_
      refine go_iconst (at_of tL_law 31 14 rfl) (by unfold in32; omega) ?_
      refine go_lald G_133 (by omega) (by omega) (at_of tL_law 31 15 rfl) ?_
      refine go_iload (at_of tL_law 32 0 rfl) rfl rfl ?_
      refine go_i2l (at_of tL_law 32 1 rfl) ?_
      refine go_lcmp (at_of tL_law 32 2 rfl) ?_
      refine go_if_eq (tgt := 1028) (at_of tL_law 32 3 rfl) (by decide) (fun h1023 => ?_) (fun h1023 => ?_)
      rotate_left
      · exfalso; exact h1023 (cmpZ_eq (k4 (by omega)))
      refine go_goto (tgt := 3207) (at_of tL_law 32 6 rfl) (by decide) ?_
      exact law_next ⟨hi, by omega⟩ K (by dsimp only; omega)
theorem lc_14 (hi : 0 ≤ i) (hz : i + 5 ≤ z) (hz2 : z ≤ 2560) (h : Sim σ) : ∃ σ2, Sim σ2 ∧ ∀ σf, NxtK xs z n (i + 5) σ2 σf → CurK xs z n i 1031 σ σf := by
  obtain ⟨pi, A, ns, nf, hp⟩ := h
  obtain ⟨k, v, σ1, σ2, k1, k2, k3, k4, k5⟩ := st_startOf hp (p := xs (i + 1).toNat) 
  refine ⟨σ2, k5, fun σf K b v6 v7 v8 v9 hb => ?_⟩
  refine go_aload_n (at_of tL_law 32 7 rfl) rfl ?_
  refine go_aload_s (at_of tL_law 32 8 rfl) rfl ?_
  refine go_iload (at_of tL_law 32 9 rfl) rfl rfl ?_
  refine go_iconst (at_of tL_law 32 10 rfl) (by unfold in32; omega) ?_
  refine go_iadd (at_of tL_law 32 11 rfl) (by unfold in32; omega) ?_
  refine go_sld (by omega) (by omega) (at_of tL_law 32 12 rfl) ?_
  refine go_aload_n (at_of tL_law 32 13 rfl) rfl ?_
  refine go_cX (k1) lk_L_222 rfl (at_of tL_law 32 14 rfl) rfl (by decide) rfl (Nat.le_of_ble_eq_true rfl) rfl (by first | decide | exact ⟨Nat.zero_le _, Nat.zero_le _⟩ | omega) ?_
  refine go_istore (at_of tL_law 32 15 rfl) rfl rfl ?_
  refine go_aload_n (at_of tL_law 33 0 rfl) rfl ?_
  refine go_aload_s (at_of tL_law 33 1 rfl) rfl ?_
  refine go_iload (at_of tL_law 33 2 rfl) rfl rfl ?_
  refine go_iconst (at_of tL_law 33 3 rfl) (by unfold in32; omega) ?_
  refine go_iadd (at_of tL_law 33 4 rfl) (by unfold in32; omega) ?_
  refine go_sld (by omega) (by omega) (at_of tL_law 33 5 rfl) ?_
  refine go_cV (k2) lk_L_224 rfl G_109 (at_of tL_law 33 6 rfl) rfl (by decide) rfl (Nat.le_of_ble_eq_true rfl) rfl (by first | decide | exact ⟨Nat.zero_le _, Nat.zero_le _⟩ | omega) ?_
  refine go_istore (at_of tL_law 33 7 rfl) rfl rfl ?_
  refine go_aload_n (at_of tL_law 33 8 rfl) rfl ?_
  refine go_cV (m_thrown) lk_L_175 rfl G_109 (at_of tL_law 33 9 rfl) rfl (by decide) rfl (Nat.le_of_ble_eq_true rfl) rfl (by first | decide | exact ⟨Nat.zero_le _, Nat.zero_le _⟩ | omega) ?_
  refine go_iload (at_of tL_law 33 10 rfl) rfl rfl ?_
  refine go_icmp_eq (tgt := 1067) (at_of tL_law 33 11 rfl) (by decide) (fun h1062 => ?_) (fun h1062 => ?_)
  rotate_left
  · exfalso; omega
  refine go_iload (at_of tL_law 33 14 rfl) rfl rfl ?_
  refine go_if_ne (tgt := 1084) (at_of tL_law 33 15 rfl) (by decide) (fun h1069 => ?_) (fun h1069 => ?_)
  · first
    | exfalso; omega
    | refine go_goto (tgt := 3207) (at_of tL_law 34 9 rfl) (by decide) ?_
      exact law_next ⟨hi, by omega⟩ K (by dsimp only; omega)
  · first
    | exfalso; omega
    | refine go_aload_n (at_of tL_law 34 0 rfl) rfl ?_
      refine go_iconst (at_of tL_law 34 1 rfl) (by unfold in32; omega) ?_
      refine go_lald G_133 (by omega) (by omega) (at_of tL_law 34 2 rfl) ?_
      refine go_iload (at_of tL_law 34 3 rfl) rfl rfl ?_
      refine go_i2l (at_of tL_law 34 4 rfl) ?_
      refine go_lcmp (at_of tL_law 34 5 rfl) ?_
      refine go_if_eq (tgt := 1084) (at_of tL_law 34 6 rfl) (by decide) (fun h1079 => ?_) (fun h1079 => ?_)
      rotate_left
      · exfalso; exact h1079 (cmpZ_eq (k4 (by omega)))
      refine go_goto (tgt := 3207) (at_of tL_law 34 9 rfl) (by decide) ?_
      exact law_next ⟨hi, by omega⟩ K (by dsimp only; omega)
theorem lc_15 (hi : 0 ≤ i) (hz : i + 5 ≤ z) (hz2 : z ≤ 2560) (h : Sim σ) : ∃ σ2, Sim σ2 ∧ ∀ σf, NxtK xs z n (i + 5) σ2 σf → CurK xs z n i 1087 σ σf := by
  obtain ⟨pi, A, ns, nf, hp⟩ := h
  obtain ⟨v, σ1, σ2, k1, k2, k5⟩ := st_changes hp  
  refine ⟨σ2, k5, fun σf K b v6 v7 v8 v9 hb => ?_⟩
  refine go_aload_n (at_of tL_law 34 10 rfl) rfl ?_
  refine go_cV (k1) lk_L_225 rfl G_0 (at_of tL_law 34 11 rfl) rfl (by decide) rfl (Nat.le_of_ble_eq_true rfl) rfl (by first | decide | exact ⟨Nat.zero_le _, Nat.zero_le _⟩ | omega) ?_
  refine go_aload_n (at_of tL_law 34 12 rfl) rfl ?_
  refine go_cV (k2) lk_L_228 rfl G_109 (at_of tL_law 34 13 rfl) rfl (by decide) rfl (Nat.le_of_ble_eq_true rfl) rfl (by first | decide | exact ⟨Nat.zero_le _, Nat.zero_le _⟩ | omega) ?_
  refine go_icmp_eq (tgt := 3207) (at_of tL_law 34 14 rfl) (by decide) (fun h1095 => ?_) (fun h1095 => ?_)
  rotate_left
  · exfalso; omega
  exact law_next ⟨hi, by omega⟩ K (by dsimp only; omega)
theorem lc_16 (hi : 0 ≤ i) (hz : i + 5 ≤ z) (hz2 : z ≤ 2560) (h : Sim σ) : ∃ σ2, Sim σ2 ∧ ∀ σf, NxtK xs z n (i + 5) σ2 σf → CurK xs z n i 1100 σ σf := by
  obtain ⟨pi, A, ns, nf, hp⟩ := h
  obtain ⟨k, v, σ1, σ2, k1, k2, k3, k4, k5⟩ := st_kindOf hp (c := xs (i + 1).toNat) 
  refine ⟨σ2, k5, fun σf K b v6 v7 v8 v9 hb => ?_⟩
  refine go_aload_n (at_of tL_law 35 1 rfl) rfl ?_
  refine go_aload_s (at_of tL_law 35 2 rfl) rfl ?_
  refine go_iload (at_of tL_law 35 3 rfl) rfl rfl ?_
  refine go_iconst (at_of tL_law 35 4 rfl) (by unfold in32; omega) ?_
  refine go_iadd (at_of tL_law 35 5 rfl) (by unfold in32; omega) ?_
  refine go_sld (by omega) (by omega) (at_of tL_law 35 6 rfl) ?_
  refine go_aload_n (at_of tL_law 35 7 rfl) rfl ?_
  refine go_cX (k1) lk_L_229 rfl (at_of tL_law 35 8 rfl) rfl (by decide) rfl (Nat.le_of_ble_eq_true rfl) rfl (by first | decide | exact ⟨Nat.zero_le _, Nat.zero_le _⟩ | omega) ?_
  refine go_istore (at_of tL_law 35 9 rfl) rfl rfl ?_
  refine go_aload_n (at_of tL_law 35 10 rfl) rfl ?_
  refine go_aload_s (at_of tL_law 35 11 rfl) rfl ?_
  refine go_iload (at_of tL_law 35 12 rfl) rfl rfl ?_
  refine go_iconst (at_of tL_law 35 13 rfl) (by unfold in32; omega) ?_
  refine go_iadd (at_of tL_law 35 14 rfl) (by unfold in32; omega) ?_
  refine go_sld (by omega) (by omega) (at_of tL_law 35 15 rfl) ?_
  refine go_cV (k2) lk_L_231 rfl G_109 (at_of tL_law 36 0 rfl) rfl (by decide) rfl (Nat.le_of_ble_eq_true rfl) rfl (by first | decide | exact ⟨Nat.zero_le _, Nat.zero_le _⟩ | omega) ?_
  refine go_istore (at_of tL_law 36 1 rfl) rfl rfl ?_
  refine go_aload_n (at_of tL_law 36 2 rfl) rfl ?_
  refine go_cV (m_thrown) lk_L_175 rfl G_109 (at_of tL_law 36 3 rfl) rfl (by decide) rfl (Nat.le_of_ble_eq_true rfl) rfl (by first | decide | exact ⟨Nat.zero_le _, Nat.zero_le _⟩ | omega) ?_
  refine go_iload (at_of tL_law 36 4 rfl) rfl rfl ?_
  refine go_icmp_eq (tgt := 1136) (at_of tL_law 36 5 rfl) (by decide) (fun h1131 => ?_) (fun h1131 => ?_)
  rotate_left
  · exfalso; omega
  refine go_iload (at_of tL_law 36 8 rfl) rfl rfl ?_
  refine go_if_ne (tgt := 1153) (at_of tL_law 36 9 rfl) (by decide) (fun h1138 => ?_) (fun h1138 => ?_)
  · first
    | exfalso; omega
    | refine go_goto (tgt := 3207) (at_of tL_law 37 3 rfl) (by decide) ?_
      exact law_next ⟨hi, by omega⟩ K (by dsimp only; omega)
  · first
    | exfalso; omega
    | refine go_aload_n (at_of tL_law 36 10 rfl) rfl ?_
      refine go_iconst (at_of tL_law 36 11 rfl) (by unfold in32; omega) ?_
      refine go_lald G_133 (by omega) (by omega) (at_of tL_law 36 12 rfl) ?_
      refine go_iload (at_of tL_law 36 13 rfl) rfl rfl ?_
      refine go_i2l (at_of tL_law 36 14 rfl) ?_
      refine go_lcmp (at_of tL_law 36 15 rfl) ?_
      refine go_if_eq (tgt := 1153) (at_of tL_law 37 0 rfl) (by decide) (fun h1148 => ?_) (fun h1148 => ?_)
      rotate_left
      · exfalso; exact h1148 (cmpZ_eq (k4 (by omega)))
      refine go_goto (tgt := 3207) (at_of tL_law 37 3 rfl) (by decide) ?_
      exact law_next ⟨hi, by omega⟩ K (by dsimp only; omega)
theorem lc_17 (hi : 0 ≤ i) (hz : i + 5 ≤ z) (hz2 : z ≤ 2560) (h : Sim σ) : ∃ σ2, Sim σ2 ∧ ∀ σf, NxtK xs z n (i + 5) σ2 σf → CurK xs z n i 1156 σ σf := by
  obtain ⟨pi, A, ns, nf, hp⟩ := h
  obtain ⟨k, v, σ1, σ2, k1, k2, k3, k4, k5⟩ := st_authorOf hp (c := xs (i + 1).toNat) 
  refine ⟨σ2, k5, fun σf K b v6 v7 v8 v9 hb => ?_⟩
  refine go_aload_n (at_of tL_law 37 4 rfl) rfl ?_
  refine go_aload_s (at_of tL_law 37 5 rfl) rfl ?_
  refine go_iload (at_of tL_law 37 6 rfl) rfl rfl ?_
  refine go_iconst (at_of tL_law 37 7 rfl) (by unfold in32; omega) ?_
  refine go_iadd (at_of tL_law 37 8 rfl) (by unfold in32; omega) ?_
  refine go_sld (by omega) (by omega) (at_of tL_law 37 9 rfl) ?_
  refine go_aload_n (at_of tL_law 37 10 rfl) rfl ?_
  refine go_cX (k1) lk_L_232 rfl (at_of tL_law 37 11 rfl) rfl (by decide) rfl (Nat.le_of_ble_eq_true rfl) rfl (by first | decide | exact ⟨Nat.zero_le _, Nat.zero_le _⟩ | omega) ?_
  refine go_istore (at_of tL_law 37 12 rfl) rfl rfl ?_
  refine go_aload_n (at_of tL_law 37 13 rfl) rfl ?_
  refine go_aload_s (at_of tL_law 37 14 rfl) rfl ?_
  refine go_iload (at_of tL_law 37 15 rfl) rfl rfl ?_
  refine go_iconst (at_of tL_law 38 0 rfl) (by unfold in32; omega) ?_
  refine go_iadd (at_of tL_law 38 1 rfl) (by unfold in32; omega) ?_
  refine go_sld (by omega) (by omega) (at_of tL_law 38 2 rfl) ?_
  refine go_cV (k2) lk_L_234 rfl G_109 (at_of tL_law 38 3 rfl) rfl (by decide) rfl (Nat.le_of_ble_eq_true rfl) rfl (by first | decide | exact ⟨Nat.zero_le _, Nat.zero_le _⟩ | omega) ?_
  refine go_istore (at_of tL_law 38 4 rfl) rfl rfl ?_
  refine go_aload_n (at_of tL_law 38 5 rfl) rfl ?_
  refine go_cV (m_thrown) lk_L_175 rfl G_109 (at_of tL_law 38 6 rfl) rfl (by decide) rfl (Nat.le_of_ble_eq_true rfl) rfl (by first | decide | exact ⟨Nat.zero_le _, Nat.zero_le _⟩ | omega) ?_
  refine go_iload (at_of tL_law 38 7 rfl) rfl rfl ?_
  refine go_icmp_eq (tgt := 1192) (at_of tL_law 38 8 rfl) (by decide) (fun h1187 => ?_) (fun h1187 => ?_)
  rotate_left
  · exfalso; omega
  refine go_iload (at_of tL_law 38 11 rfl) rfl rfl ?_
  refine go_if_ne (tgt := 1209) (at_of tL_law 38 12 rfl) (by decide) (fun h1194 => ?_) (fun h1194 => ?_)
  · first
    | exfalso; omega
    | refine go_goto (tgt := 3207) (at_of tL_law 39 6 rfl) (by decide) ?_
      exact law_next ⟨hi, by omega⟩ K (by dsimp only; omega)
  · first
    | exfalso; omega
    | refine go_aload_n (at_of tL_law 38 13 rfl) rfl ?_
      refine go_iconst (at_of tL_law 38 14 rfl) (by unfold in32; omega) ?_
      refine go_lald G_133 (by omega) (by omega) (at_of tL_law 38 15 rfl) ?_
      refine go_iload (at_of tL_law 39 0 rfl) rfl rfl ?_
      refine go_i2l (at_of tL_law 39 1 rfl) ?_
      refine go_lcmp (at_of tL_law 39 2 rfl) ?_
      refine go_if_eq (tgt := 1209) (at_of tL_law 39 3 rfl) (by decide) (fun h1204 => ?_) (fun h1204 => ?_)
      rotate_left
      · exfalso; exact h1204 (cmpZ_eq (k4 (by omega)))
      refine go_goto (tgt := 3207) (at_of tL_law 39 6 rfl) (by decide) ?_
      exact law_next ⟨hi, by omega⟩ K (by dsimp only; omega)
end Cases0
