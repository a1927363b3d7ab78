/-! The law's cases, from 36 on. -/
section Cases36
variable {xs : Nat → Int} {z i : Int} {σ : St} {n : Nat}
theorem lc_36 (hi : 0 ≤ i) (hz : i + 5 ≤ z) (hz2 : z ≤ 2560) (h : Sim σ) : ∃ σ2, Sim σ2 ∧ ∀ σf, NxtK xs z n (i + 5) σ2 σf → CurK xs z n i 2416 σ σf := by
  obtain ⟨pi, A, ns, nf, hp⟩ := h
  obtain ⟨k, v, σ1, σ2, k1, k2, k3, k4, k5⟩ := st_bookmarkTo hp (b := xs (i + 1).toNat) 
  refine ⟨σ2, k5, fun σf K b v6 v7 v8 v9 hb => ?_⟩
  refine go_aload_n (at_of tL_law 87 11 rfl) rfl ?_
  refine go_aload_s (at_of tL_law 87 12 rfl) rfl ?_
  refine go_iload (at_of tL_law 87 13 rfl) rfl rfl ?_
  refine go_iconst (at_of tL_law 87 14 rfl) (by unfold in32; omega) ?_
  refine go_iadd (at_of tL_law 87 15 rfl) (by unfold in32; omega) ?_
  refine go_sld (by omega) (by omega) (at_of tL_law 88 0 rfl) ?_
  refine go_aload_n (at_of tL_law 88 1 rfl) rfl ?_
  refine go_cX (k1) lk_L_291 rfl (at_of tL_law 88 2 rfl) rfl (by decide) rfl (Nat.le_of_ble_eq_true rfl) rfl (by first | decide | exact ⟨Nat.zero_le _, Nat.zero_le _⟩ | omega) ?_
  refine go_istore (at_of tL_law 88 3 rfl) rfl rfl ?_
  refine go_aload_n (at_of tL_law 88 4 rfl) rfl ?_
  refine go_aload_s (at_of tL_law 88 5 rfl) rfl ?_
  refine go_iload (at_of tL_law 88 6 rfl) rfl rfl ?_
  refine go_iconst (at_of tL_law 88 7 rfl) (by unfold in32; omega) ?_
  refine go_iadd (at_of tL_law 88 8 rfl) (by unfold in32; omega) ?_
  refine go_sld (by omega) (by omega) (at_of tL_law 88 9 rfl) ?_
  refine go_cV (k2) lk_L_293 rfl G_109 (at_of tL_law 88 10 rfl) rfl (by decide) rfl (Nat.le_of_ble_eq_true rfl) rfl (by first | decide | exact ⟨Nat.zero_le _, Nat.zero_le _⟩ | omega) ?_
  refine go_istore (at_of tL_law 88 11 rfl) rfl rfl ?_
  refine go_aload_n (at_of tL_law 88 12 rfl) rfl ?_
  refine go_cV (m_thrown) lk_L_175 rfl G_109 (at_of tL_law 88 13 rfl) rfl (by decide) rfl (Nat.le_of_ble_eq_true rfl) rfl (by first | decide | exact ⟨Nat.zero_le _, Nat.zero_le _⟩ | omega) ?_
  refine go_iload (at_of tL_law 88 14 rfl) rfl rfl ?_
  refine go_icmp_eq (tgt := 2452) (at_of tL_law 88 15 rfl) (by decide) (fun h2447 => ?_) (fun h2447 => ?_)
  rotate_left
  · exfalso; omega
  refine go_iload (at_of tL_law 89 2 rfl) rfl rfl ?_
  refine go_if_ne (tgt := 2469) (at_of tL_law 89 3 rfl) (by decide) (fun h2454 => ?_) (fun h2454 => ?_)
  · first
    | exfalso; omega
    | refine go_goto (tgt := 3207) (at_of tL_law 89 13 rfl) (by decide) ?_
      exact law_next ⟨hi, by omega⟩ K (by dsimp only; omega)
  · first
    | exfalso; omega
    | refine go_aload_n (at_of tL_law 89 4 rfl) rfl ?_
      refine go_iconst (at_of tL_law 89 5 rfl) (by unfold in32; omega) ?_
      refine go_lald G_133 (by omega) (by omega) (at_of tL_law 89 6 rfl) ?_
      refine go_iload (at_of tL_law 89 7 rfl) rfl rfl ?_
      refine go_i2l (at_of tL_law 89 8 rfl) ?_
      refine go_lcmp (at_of tL_law 89 9 rfl) ?_
      refine go_if_eq (tgt := 2469) (at_of tL_law 89 10 rfl) (by decide) (fun h2464 => ?_) (fun h2464 => ?_)
      rotate_left
      · exfalso; exact h2464 (cmpZ_eq (k4 (by omega)))
      refine go_goto (tgt := 3207) (at_of tL_law 89 13 rfl) (by decide) ?_
      exact law_next ⟨hi, by omega⟩ K (by dsimp only; omega)
theorem lc_37 (hi : 0 ≤ i) (hz : i + 5 ≤ z) (hz2 : z ≤ 2560) (h : Sim σ) : ∃ σ2, Sim σ2 ∧ ∀ σf, NxtK xs z n (i + 5) σ2 σf → CurK xs z n i 2472 σ σf := by
  obtain ⟨pi, A, ns, nf, hp⟩ := h
  by_cases hbl : xs (i + 2).toNat = 0
  · obtain ⟨k, v, σ1, σ2, k1, k2, k3, k4, k5, k6⟩ := st_lockB hp (f := xs (i + 1).toNat) (z := 0) (Or.inl rfl)
    refine ⟨σ2, k5, fun σf K b v6 v7 v8 v9 hb => ?_⟩
    refine go_aload_n (at_of tL_law 89 14 rfl) rfl ?_
    refine go_aload_s (at_of tL_law 89 15 rfl) rfl ?_
    refine go_iload (at_of tL_law 90 0 rfl) rfl rfl ?_
    refine go_iconst (at_of tL_law 90 1 rfl) (by unfold in32; omega) ?_
    refine go_iadd (at_of tL_law 90 2 rfl) (by unfold in32; omega) ?_
    refine go_sld (by omega) (by omega) (at_of tL_law 90 3 rfl) ?_
    refine go_aload_s (at_of tL_law 90 4 rfl) rfl ?_
    refine go_iload (at_of tL_law 90 5 rfl) rfl rfl ?_
    refine go_iconst (at_of tL_law 90 6 rfl) (by unfold in32; omega) ?_
    refine go_iadd (at_of tL_law 90 7 rfl) (by unfold in32; omega) ?_
    refine go_sld (by omega) (by omega) (at_of tL_law 90 8 rfl) ?_
    refine go_if_eq (tgt := 2492) (at_of tL_law 90 9 rfl) (by decide) (fun h2485 => ?_) (fun h2485 => ?_)
    rotate_left
    · exfalso; omega
    refine go_iconst (at_of tL_law 90 12 rfl) (by unfold in32; omega) ?_
    refine go_aload_n (at_of tL_law 90 13 rfl) rfl ?_
    refine go_cX (k1) lk_L_294 rfl (at_of tL_law 90 14 rfl) rfl (by decide) rfl (Nat.le_of_ble_eq_true rfl) rfl (by first | decide | exact ⟨Nat.zero_le _, Nat.zero_le _⟩ | omega) ?_
    refine go_istore (at_of tL_law 90 15 rfl) rfl rfl ?_
    refine go_aload_n (at_of tL_law 91 0 rfl) rfl ?_
    refine go_aload_s (at_of tL_law 91 1 rfl) rfl ?_
    refine go_iload (at_of tL_law 91 2 rfl) rfl rfl ?_
    refine go_iconst (at_of tL_law 91 3 rfl) (by unfold in32; omega) ?_
    refine go_iadd (at_of tL_law 91 4 rfl) (by unfold in32; omega) ?_
    refine go_sld (by omega) (by omega) (at_of tL_law 91 5 rfl) ?_
    refine go_aload_s (at_of tL_law 91 6 rfl) rfl ?_
    refine go_iload (at_of tL_law 91 7 rfl) rfl rfl ?_
    refine go_iconst (at_of tL_law 91 8 rfl) (by unfold in32; omega) ?_
    refine go_iadd (at_of tL_law 91 9 rfl) (by unfold in32; omega) ?_
    refine go_sld (by omega) (by omega) (at_of tL_law 91 10 rfl) ?_
    refine go_if_eq (tgt := 2519) (at_of tL_law 91 11 rfl) (by decide) (fun h2512 => ?_) (fun h2512 => ?_)
    rotate_left
    · exfalso; omega
    refine go_iconst (at_of tL_law 91 14 rfl) (by unfold in32; omega) ?_
    refine go_cV (k2) lk_L_296 rfl G_109 (at_of tL_law 91 15 rfl) rfl (by decide) rfl (Nat.le_of_ble_eq_true rfl) rfl (by first | decide | exact ⟨Nat.zero_le _, Nat.zero_le _⟩ | omega) ?_
    refine go_istore (at_of tL_law 92 0 rfl) rfl rfl ?_
    refine go_aload_n (at_of tL_law 92 1 rfl) rfl ?_
    refine go_cV (m_thrown) lk_L_175 rfl G_109 (at_of tL_law 92 2 rfl) rfl (by decide) rfl (Nat.le_of_ble_eq_true rfl) rfl (by first | decide | exact ⟨Nat.zero_le _, Nat.zero_le _⟩ | omega) ?_
    refine go_iload (at_of tL_law 92 3 rfl) rfl rfl ?_
    refine go_icmp_eq (tgt := 2536) (at_of tL_law 92 4 rfl) (by decide) (fun h2531 => ?_) (fun h2531 => ?_)
    rotate_left
    · exfalso; omega
    refine go_iload (at_of tL_law 92 7 rfl) rfl rfl ?_
    refine go_if_ne (tgt := 2560) (at_of tL_law 92 8 rfl) (by decide) (fun h2538 => ?_) (fun h2538 => ?_)
    · first
      | exfalso; omega
      | refine go_goto (tgt := 3207) (at_of tL_law 93 5 rfl) (by decide) ?_
        exact law_next ⟨hi, by omega⟩ K (by dsimp only; omega)
    · first
      | exfalso; omega
      | refine go_aload_n (at_of tL_law 92 9 rfl) rfl ?_
        refine go_iconst (at_of tL_law 92 10 rfl) (by unfold in32; omega) ?_
        refine go_lald G_133 (by omega) (by omega) (at_of tL_law 92 11 rfl) ?_
        refine go_iload (at_of tL_law 92 12 rfl) rfl rfl ?_
        refine go_if_eq (tgt := 2553) (at_of tL_law 92 13 rfl) (by decide) (fun h2546 => ?_) (fun h2546 => ?_)
        · first
          | exfalso; omega
          | refine go_lconst (at_of tL_law 93 0 rfl) ?_
            refine go_lcmp (at_of tL_law 93 1 rfl) ?_
            refine go_if_eq (tgt := 2560) (at_of tL_law 93 2 rfl) (by decide) (fun h2555 => ?_) (fun h2555 => ?_)
            rotate_left
            · exfalso; exact h2555 (cmpZ_eq (show σ2.1 133 0 = _ by have := k4 (by omega); have := k6 (by omega); omega))
            refine go_goto (tgt := 3207) (at_of tL_law 93 5 rfl) (by decide) ?_
            exact law_next ⟨hi, by omega⟩ K (by dsimp only; omega)
        · first
          | exfalso; omega
          | refine go_lconst (at_of tL_law 92 14 rfl) ?_
            refine go_goto (tgt := 2554) (at_of tL_law 92 15 rfl) (by decide) ?_
            refine go_lcmp (at_of tL_law 93 1 rfl) ?_
            refine go_if_eq (tgt := 2560) (at_of tL_law 93 2 rfl) (by decide) (fun h2555 => ?_) (fun h2555 => ?_)
            rotate_left
            · exfalso; exact h2555 (cmpZ_eq (show σ2.1 133 0 = _ by have := k4 (by omega); have := k6 (by omega); omega))
            refine go_goto (tgt := 3207) (at_of tL_law 93 5 rfl) (by decide) ?_
            exact law_next ⟨hi, by omega⟩ K (by dsimp only; omega)
  · obtain ⟨k, v, σ1, σ2, k1, k2, k3, k4, k5, k6⟩ := st_lockB hp (f := xs (i + 1).toNat) (z := 1) (Or.inr rfl)
    refine ⟨σ2, k5, fun σf K b v6 v7 v8 v9 hb => ?_⟩
    refine go_aload_n (at_of tL_law 89 14 rfl) rfl ?_
    refine go_aload_s (at_of tL_law 89 15 rfl) rfl ?_
    refine go_iload (at_of tL_law 90 0 rfl) rfl rfl ?_
    refine go_iconst (at_of tL_law 90 1 rfl) (by unfold in32; omega) ?_
    refine go_iadd (at_of tL_law 90 2 rfl) (by unfold in32; omega) ?_
    refine go_sld (by omega) (by omega) (at_of tL_law 90 3 rfl) ?_
    refine go_aload_s (at_of tL_law 90 4 rfl) rfl ?_
    refine go_iload (at_of tL_law 90 5 rfl) rfl rfl ?_
    refine go_iconst (at_of tL_law 90 6 rfl) (by unfold in32; omega) ?_
    refine go_iadd (at_of tL_law 90 7 rfl) (by unfold in32; omega) ?_
    refine go_sld (by omega) (by omega) (at_of tL_law 90 8 rfl) ?_
    refine go_if_eq (tgt := 2492) (at_of tL_law 90 9 rfl) (by decide) (fun h2485 => ?_) (fun h2485 => ?_)
    · exfalso; omega
    refine go_iconst (at_of tL_law 90 10 rfl) (by unfold in32; omega) ?_
    refine go_goto (tgt := 2493) (at_of tL_law 90 11 rfl) (by decide) ?_
    refine go_aload_n (at_of tL_law 90 13 rfl) rfl ?_
    refine go_cX (k1) lk_L_294 rfl (at_of tL_law 90 14 rfl) rfl (by decide) rfl (Nat.le_of_ble_eq_true rfl) rfl (by first | decide | exact ⟨Nat.zero_le _, Nat.zero_le _⟩ | omega) ?_
    refine go_istore (at_of tL_law 90 15 rfl) rfl rfl ?_
    refine go_aload_n (at_of tL_law 91 0 rfl) rfl ?_
    refine go_aload_s (at_of tL_law 91 1 rfl) rfl ?_
    refine go_iload (at_of tL_law 91 2 rfl) rfl rfl ?_
    refine go_iconst (at_of tL_law 91 3 rfl) (by unfold in32; omega) ?_
    refine go_iadd (at_of tL_law 91 4 rfl) (by unfold in32; omega) ?_
    refine go_sld (by omega) (by omega) (at_of tL_law 91 5 rfl) ?_
    refine go_aload_s (at_of tL_law 91 6 rfl) rfl ?_
    refine go_iload (at_of tL_law 91 7 rfl) rfl rfl ?_
    refine go_iconst (at_of tL_law 91 8 rfl) (by unfold in32; omega) ?_
    refine go_iadd (at_of tL_law 91 9 rfl) (by unfold in32; omega) ?_
    refine go_sld (by omega) (by omega) (at_of tL_law 91 10 rfl) ?_
    refine go_if_eq (tgt := 2519) (at_of tL_law 91 11 rfl) (by decide) (fun h2512 => ?_) (fun h2512 => ?_)
    · exfalso; omega
    refine go_iconst (at_of tL_law 91 12 rfl) (by unfold in32; omega) ?_
    refine go_goto (tgt := 2520) (at_of tL_law 91 13 rfl) (by decide) ?_
    refine go_cV (k2) lk_L_296 rfl G_109 (at_of tL_law 91 15 rfl) rfl (by decide) rfl (Nat.le_of_ble_eq_true rfl) rfl (by first | decide | exact ⟨Nat.zero_le _, Nat.zero_le _⟩ | omega) ?_
    refine go_istore (at_of tL_law 92 0 rfl) rfl rfl ?_
    refine go_aload_n (at_of tL_law 92 1 rfl) rfl ?_
    refine go_cV (m_thrown) lk_L_175 rfl G_109 (at_of tL_law 92 2 rfl) rfl (by decide) rfl (Nat.le_of_ble_eq_true rfl) rfl (by first | decide | exact ⟨Nat.zero_le _, Nat.zero_le _⟩ | omega) ?_
    refine go_iload (at_of tL_law 92 3 rfl) rfl rfl ?_
    refine go_icmp_eq (tgt := 2536) (at_of tL_law 92 4 rfl) (by decide) (fun h2531 => ?_) (fun h2531 => ?_)
    rotate_left
    · exfalso; omega
    refine go_iload (at_of tL_law 92 7 rfl) rfl rfl ?_
    refine go_if_ne (tgt := 2560) (at_of tL_law 92 8 rfl) (by decide) (fun h2538 => ?_) (fun h2538 => ?_)
    · first
      | exfalso; omega
      | refine go_goto (tgt := 3207) (at_of tL_law 93 5 rfl) (by decide) ?_
        exact law_next ⟨hi, by omega⟩ K (by dsimp only; omega)
    · first
      | exfalso; omega
      | refine go_aload_n (at_of tL_law 92 9 rfl) rfl ?_
        refine go_iconst (at_of tL_law 92 10 rfl) (by unfold in32; omega) ?_
        refine go_lald G_133 (by omega) (by omega) (at_of tL_law 92 11 rfl) ?_
        refine go_iload (at_of tL_law 92 12 rfl) rfl rfl ?_
        refine go_if_eq (tgt := 2553) (at_of tL_law 92 13 rfl) (by decide) (fun h2546 => ?_) (fun h2546 => ?_)
        · first
          | exfalso; omega
          | refine go_lconst (at_of tL_law 93 0 rfl) ?_
            refine go_lcmp (at_of tL_law 93 1 rfl) ?_
            refine go_if_eq (tgt := 2560) (at_of tL_law 93 2 rfl) (by decide) (fun h2555 => ?_) (fun h2555 => ?_)
            rotate_left
            · exfalso; exact h2555 (cmpZ_eq (show σ2.1 133 0 = _ by have := k4 (by omega); have := k6 (by omega); omega))
            refine go_goto (tgt := 3207) (at_of tL_law 93 5 rfl) (by decide) ?_
            exact law_next ⟨hi, by omega⟩ K (by dsimp only; omega)
        · first
          | exfalso; omega
          | refine go_lconst (at_of tL_law 92 14 rfl) ?_
            refine go_goto (tgt := 2554) (at_of tL_law 92 15 rfl) (by decide) ?_
            refine go_lcmp (at_of tL_law 93 1 rfl) ?_
            refine go_if_eq (tgt := 2560) (at_of tL_law 93 2 rfl) (by decide) (fun h2555 => ?_) (fun h2555 => ?_)
            rotate_left
            · exfalso; exact h2555 (cmpZ_eq (show σ2.1 133 0 = _ by have := k4 (by omega); have := k6 (by omega); omega))
            refine go_goto (tgt := 3207) (at_of tL_law 93 5 rfl) (by decide) ?_
            exact law_next ⟨hi, by omega⟩ K (by dsimp only; omega)
theorem lc_38 (hi : 0 ≤ i) (hz : i + 5 ≤ z) (hz2 : z ≤ 2560) (h : Sim σ) : ∃ σ2, Sim σ2 ∧ ∀ σf, NxtK xs z n (i + 5) σ2 σf → CurK xs z n i 2563 σ σf := by
  obtain ⟨pi, A, ns, nf, hp⟩ := h
  obtain ⟨k, v, σ1, σ2, k1, k2, k3, k4, k5⟩ := st_result hp (f := xs (i + 1).toNat) 
  refine ⟨σ2, k5, fun σf K b v6 v7 v8 v9 hb => ?_⟩
  refine go_aload_n (at_of tL_law 93 6 rfl) rfl ?_
  refine go_aload_s (at_of tL_law 93 7 rfl) rfl ?_
  refine go_iload (at_of tL_law 93 8 rfl) rfl rfl ?_
  refine go_iconst (at_of tL_law 93 9 rfl) (by unfold in32; omega) ?_
  refine go_iadd (at_of tL_law 93 10 rfl) (by unfold in32; omega) ?_
  refine go_sld (by omega) (by omega) (at_of tL_law 93 11 rfl) ?_
  refine go_aload_n (at_of tL_law 93 12 rfl) rfl ?_
  refine go_cX (k1) lk_L_297 rfl (at_of tL_law 93 13 rfl) rfl (by decide) rfl (Nat.le_of_ble_eq_true rfl) rfl (by first | decide | exact ⟨Nat.zero_le _, Nat.zero_le _⟩ | omega) ?_
  refine go_istore (at_of tL_law 93 14 rfl) rfl rfl ?_
  refine go_aload_n (at_of tL_law 93 15 rfl) rfl ?_
  refine go_aload_s (at_of tL_law 94 0 rfl) rfl ?_
  refine go_iload (at_of tL_law 94 1 rfl) rfl rfl ?_
  refine go_iconst (at_of tL_law 94 2 rfl) (by unfold in32; omega) ?_
  refine go_iadd (at_of tL_law 94 3 rfl) (by unfold in32; omega) ?_
  refine go_sld (by omega) (by omega) (at_of tL_law 94 4 rfl) ?_
  refine go_cV (k2) lk_L_299 rfl G_109 (at_of tL_law 94 5 rfl) rfl (by decide) rfl (Nat.le_of_ble_eq_true rfl) rfl (by first | decide | exact ⟨Nat.zero_le _, Nat.zero_le _⟩ | omega) ?_
  refine go_istore (at_of tL_law 94 6 rfl) rfl rfl ?_
  refine go_aload_n (at_of tL_law 94 7 rfl) rfl ?_
  refine go_cV (m_thrown) lk_L_175 rfl G_109 (at_of tL_law 94 8 rfl) rfl (by decide) rfl (Nat.le_of_ble_eq_true rfl) rfl (by first | decide | exact ⟨Nat.zero_le _, Nat.zero_le _⟩ | omega) ?_
  refine go_iload (at_of tL_law 94 9 rfl) rfl rfl ?_
  refine go_icmp_eq (tgt := 2599) (at_of tL_law 94 10 rfl) (by decide) (fun h2594 => ?_) (fun h2594 => ?_)
  rotate_left
  · exfalso; omega
  refine go_iload (at_of tL_law 94 13 rfl) rfl rfl ?_
  refine go_if_ne (tgt := 2616) (at_of tL_law 94 14 rfl) (by decide) (fun h2601 => ?_) (fun h2601 => ?_)
  · first
    | exfalso; omega
    | refine go_goto (tgt := 3207) (at_of tL_law 95 8 rfl) (by decide) ?_
      exact law_next ⟨hi, by omega⟩ K (by dsimp only; omega)
  · first
    | exfalso; omega
    | refine go_aload_n (at_of tL_law 94 15 rfl) rfl ?_
      refine go_iconst (at_of tL_law 95 0 rfl) (by unfold in32; omega) ?_
      refine go_lald G_133 (by omega) (by omega) (at_of tL_law 95 1 rfl) ?_
      refine go_iload (at_of tL_law 95 2 rfl) rfl rfl ?_
      refine go_i2l (at_of tL_law 95 3 rfl) ?_
      refine go_lcmp (at_of tL_law 95 4 rfl) ?_
      refine go_if_eq (tgt := 2616) (at_of tL_law 95 5 rfl) (by decide) (fun h2611 => ?_) (fun h2611 => ?_)
      rotate_left
      · exfalso; exact h2611 (cmpZ_eq (k4 (by omega)))
      refine go_goto (tgt := 3207) (at_of tL_law 95 8 rfl) (by decide) ?_
      exact law_next ⟨hi, by omega⟩ K (by dsimp only; omega)
theorem lc_39 (hi : 0 ≤ i) (hz : i + 5 ≤ z) (hz2 : z ≤ 2560) (h : Sim σ) : ∃ σ2, Sim σ2 ∧ ∀ σf, NxtK xs z n (i + 5) σ2 σf → CurK xs z n i 2619 σ σf := by
  obtain ⟨pi, A, ns, nf, hp⟩ := h
  obtain ⟨v, σ1, σ2, k1, k2, k5⟩ := st_update hp  
  refine ⟨σ2, k5, fun σf K b v6 v7 v8 v9 hb => ?_⟩
  refine go_aload_n (at_of tL_law 95 9 rfl) rfl ?_
  refine go_cV (k1) lk_L_300 rfl G_0 (at_of tL_law 95 10 rfl) rfl (by decide) rfl (Nat.le_of_ble_eq_true rfl) rfl (by first | decide | exact ⟨Nat.zero_le _, Nat.zero_le _⟩ | omega) ?_
  refine go_aload_n (at_of tL_law 95 11 rfl) rfl ?_
  refine go_cV (k2) lk_L_303 rfl G_109 (at_of tL_law 95 12 rfl) rfl (by decide) rfl (Nat.le_of_ble_eq_true rfl) rfl (by first | decide | exact ⟨Nat.zero_le _, Nat.zero_le _⟩ | omega) ?_
  refine go_icmp_eq (tgt := 3207) (at_of tL_law 95 13 rfl) (by decide) (fun h2627 => ?_) (fun h2627 => ?_)
  rotate_left
  · exfalso; omega
  exact law_next ⟨hi, by omega⟩ K (by dsimp only; omega)
theorem lc_40 (hi : 0 ≤ i) (hz : i + 5 ≤ z) (hz2 : z ≤ 2560) (h : Sim σ) : ∃ σ2, Sim σ2 ∧ ∀ σf, NxtK xs z n (i + 5) σ2 σf → CurK xs z n i 2632 σ σf := by
  obtain ⟨pi, A, ns, nf, hp⟩ := h
  obtain ⟨k, v, σ1, σ2, k1, k2, k3, k4, k5⟩ := st_setRecord hp (r := xs (i + 1).toNat) (c := xs (i + 2).toNat) (z := xs (i + 3).toNat) 
  refine ⟨σ2, k5, fun σf K b v6 v7 v8 v9 hb => ?_⟩
  refine go_aload_n (at_of tL_law 96 0 rfl) rfl ?_
  refine go_aload_s (at_of tL_law 96 1 rfl) rfl ?_
  refine go_iload (at_of tL_law 96 2 rfl) rfl rfl ?_
  refine go_iconst (at_of tL_law 96 3 rfl) (by unfold in32; omega) ?_
  refine go_iadd (at_of tL_law 96 4 rfl) (by unfold in32; omega) ?_
  refine go_sld (by omega) (by omega) (at_of tL_law 96 5 rfl) ?_
  refine go_aload_s (at_of tL_law 96 6 rfl) rfl ?_
  refine go_iload (at_of tL_law 96 7 rfl) rfl rfl ?_
  refine go_iconst (at_of tL_law 96 8 rfl) (by unfold in32; omega) ?_
  refine go_iadd (at_of tL_law 96 9 rfl) (by unfold in32; omega) ?_
  refine go_sld (by omega) (by omega) (at_of tL_law 96 10 rfl) ?_
  refine go_aload_s (at_of tL_law 96 11 rfl) rfl ?_
  refine go_iload (at_of tL_law 96 12 rfl) rfl rfl ?_
  refine go_iconst (at_of tL_law 96 13 rfl) (by unfold in32; omega) ?_
  refine go_iadd (at_of tL_law 96 14 rfl) (by unfold in32; omega) ?_
  refine go_sld (by omega) (by omega) (at_of tL_law 96 15 rfl) ?_
  refine go_aload_n (at_of tL_law 97 0 rfl) rfl ?_
  refine go_cX (k1) lk_L_304 rfl (at_of tL_law 97 1 rfl) rfl (by decide) rfl (Nat.le_of_ble_eq_true rfl) rfl (by first | decide | exact ⟨Nat.zero_le _, Nat.zero_le _⟩ | omega) ?_
  refine go_istore (at_of tL_law 97 2 rfl) rfl rfl ?_
  refine go_aload_n (at_of tL_law 97 3 rfl) rfl ?_
  refine go_aload_s (at_of tL_law 97 4 rfl) rfl ?_
  refine go_iload (at_of tL_law 97 5 rfl) rfl rfl ?_
  refine go_iconst (at_of tL_law 97 6 rfl) (by unfold in32; omega) ?_
  refine go_iadd (at_of tL_law 97 7 rfl) (by unfold in32; omega) ?_
  refine go_sld (by omega) (by omega) (at_of tL_law 97 8 rfl) ?_
  refine go_aload_s (at_of tL_law 97 9 rfl) rfl ?_
  refine go_iload (at_of tL_law 97 10 rfl) rfl rfl ?_
  refine go_iconst (at_of tL_law 97 11 rfl) (by unfold in32; omega) ?_
  refine go_iadd (at_of tL_law 97 12 rfl) (by unfold in32; omega) ?_
  refine go_sld (by omega) (by omega) (at_of tL_law 97 13 rfl) ?_
  refine go_aload_s (at_of tL_law 97 14 rfl) rfl ?_
  refine go_iload (at_of tL_law 97 15 rfl) rfl rfl ?_
  refine go_iconst (at_of tL_law 98 0 rfl) (by unfold in32; omega) ?_
  refine go_iadd (at_of tL_law 98 1 rfl) (by unfold in32; omega) ?_
  refine go_sld (by omega) (by omega) (at_of tL_law 98 2 rfl) ?_
  refine go_cV (k2) lk_L_306 rfl G_109 (at_of tL_law 98 3 rfl) rfl (by decide) rfl (Nat.le_of_ble_eq_true rfl) rfl (by first | decide | exact ⟨Nat.zero_le _, Nat.zero_le _⟩ | omega) ?_
  refine go_istore (at_of tL_law 98 4 rfl) rfl rfl ?_
  refine go_aload_n (at_of tL_law 98 5 rfl) rfl ?_
  refine go_cV (m_thrown) lk_L_175 rfl G_109 (at_of tL_law 98 6 rfl) rfl (by decide) rfl (Nat.le_of_ble_eq_true rfl) rfl (by first | decide | exact ⟨Nat.zero_le _, Nat.zero_le _⟩ | omega) ?_
  refine go_iload (at_of tL_law 98 7 rfl) rfl rfl ?_
  refine go_icmp_eq (tgt := 2692) (at_of tL_law 98 8 rfl) (by decide) (fun h2687 => ?_) (fun h2687 => ?_)
  rotate_left
  · exfalso; omega
  refine go_iload (at_of tL_law 98 11 rfl) rfl rfl ?_
  refine go_if_ne (tgt := 2709) (at_of tL_law 98 12 rfl) (by decide) (fun h2694 => ?_) (fun h2694 => ?_)
  · first
    | exfalso; omega
    | refine go_goto (tgt := 3207) (at_of tL_law 99 6 rfl) (by decide) ?_
      exact law_next ⟨hi, by omega⟩ K (by dsimp only; omega)
  · first
    | exfalso; omega
    | refine go_aload_n (at_of tL_law 98 13 rfl) rfl ?_
      refine go_iconst (at_of tL_law 98 14 rfl) (by unfold in32; omega) ?_
      refine go_lald G_133 (by omega) (by omega) (at_of tL_law 98 15 rfl) ?_
      refine go_iload (at_of tL_law 99 0 rfl) rfl rfl ?_
      refine go_i2l (at_of tL_law 99 1 rfl) ?_
      refine go_lcmp (at_of tL_law 99 2 rfl) ?_
      refine go_if_eq (tgt := 2709) (at_of tL_law 99 3 rfl) (by decide) (fun h2704 => ?_) (fun h2704 => ?_)
      rotate_left
      · exfalso; exact h2704 (cmpZ_eq (k4 (by omega)))
      refine go_goto (tgt := 3207) (at_of tL_law 99 6 rfl) (by decide) ?_
      exact law_next ⟨hi, by omega⟩ K (by dsimp only; omega)
theorem lc_41 (hi : 0 ≤ i) (hz : i + 5 ≤ z) (hz2 : z ≤ 2560) (h : Sim σ) : ∃ σ2, Sim σ2 ∧ ∀ σf, NxtK xs z n (i + 5) σ2 σf → CurK xs z n i 2712 σ σf := by
  obtain ⟨pi, A, ns, nf, hp⟩ := h
  obtain ⟨k, v, σ1, σ2, k1, k2, k3, k4, k5⟩ := st_choose hp (r := xs (i + 1).toNat) 
  refine ⟨σ2, k5, fun σf K b v6 v7 v8 v9 hb => ?_⟩
  refine go_aload_n (at_of tL_law 99 7 rfl) rfl ?_
  refine go_aload_s (at_of tL_law 99 8 rfl) rfl ?_
  refine go_iload (at_of tL_law 99 9 rfl) rfl rfl ?_
  refine go_iconst (at_of tL_law 99 10 rfl) (by unfold in32; omega) ?_
  refine go_iadd (at_of tL_law 99 11 rfl) (by unfold in32; omega) ?_
  refine go_sld (by omega) (by omega) (at_of tL_law 99 12 rfl) ?_
  refine go_aload_n (at_of tL_law 99 13 rfl) rfl ?_
  refine go_cX (k1) lk_L_307 rfl (at_of tL_law 99 14 rfl) rfl (by decide) rfl (Nat.le_of_ble_eq_true rfl) rfl (by first | decide | exact ⟨Nat.zero_le _, Nat.zero_le _⟩ | omega) ?_
  refine go_istore (at_of tL_law 99 15 rfl) rfl rfl ?_
  refine go_aload_n (at_of tL_law 100 0 rfl) rfl ?_
  refine go_aload_s (at_of tL_law 100 1 rfl) rfl ?_
  refine go_iload (at_of tL_law 100 2 rfl) rfl rfl ?_
  refine go_iconst (at_of tL_law 100 3 rfl) (by unfold in32; omega) ?_
  refine go_iadd (at_of tL_law 100 4 rfl) (by unfold in32; omega) ?_
  refine go_sld (by omega) (by omega) (at_of tL_law 100 5 rfl) ?_
  refine go_cV (k2) lk_L_309 rfl G_109 (at_of tL_law 100 6 rfl) rfl (by decide) rfl (Nat.le_of_ble_eq_true rfl) rfl (by first | decide | exact ⟨Nat.zero_le _, Nat.zero_le _⟩ | omega) ?_
  refine go_istore (at_of tL_law 100 7 rfl) rfl rfl ?_
  refine go_aload_n (at_of tL_law 100 8 rfl) rfl ?_
  refine go_cV (m_thrown) lk_L_175 rfl G_109 (at_of tL_law 100 9 rfl) rfl (by decide) rfl (Nat.le_of_ble_eq_true rfl) rfl (by first | decide | exact ⟨Nat.zero_le _, Nat.zero_le _⟩ | omega) ?_
  refine go_iload (at_of tL_law 100 10 rfl) rfl rfl ?_
  refine go_icmp_eq (tgt := 2748) (at_of tL_law 100 11 rfl) (by decide) (fun h2743 => ?_) (fun h2743 => ?_)
  rotate_left
  · exfalso; omega
  refine go_iload (at_of tL_law 100 14 rfl) rfl rfl ?_
  refine go_if_ne (tgt := 2765) (at_of tL_law 100 15 rfl) (by decide) (fun h2750 => ?_) (fun h2750 => ?_)
  · first
    | exfalso; omega
    | refine go_goto (tgt := 3207) (at_of tL_law 101 9 rfl) (by decide) ?_
      exact law_next ⟨hi, by omega⟩ K (by dsimp only; omega)
  · first
    | exfalso; omega
    | refine go_aload_n (at_of tL_law 101 0 rfl) rfl ?_
      refine go_iconst (at_of tL_law 101 1 rfl) (by unfold in32; omega) ?_
      refine go_lald G_133 (by omega) (by omega) (at_of tL_law 101 2 rfl) ?_
      refine go_iload (at_of tL_law 101 3 rfl) rfl rfl ?_
      refine go_i2l (at_of tL_law 101 4 rfl) ?_
      refine go_lcmp (at_of tL_law 101 5 rfl) ?_
      refine go_if_eq (tgt := 2765) (at_of tL_law 101 6 rfl) (by decide) (fun h2760 => ?_) (fun h2760 => ?_)
      rotate_left
      · exfalso; exact h2760 (cmpZ_eq (k4 (by omega)))
      refine go_goto (tgt := 3207) (at_of tL_law 101 9 rfl) (by decide) ?_
      exact law_next ⟨hi, by omega⟩ K (by dsimp only; omega)
theorem lc_42 (hi : 0 ≤ i) (hz : i + 5 ≤ z) (hz2 : z ≤ 2560) (h : Sim σ) : ∃ σ2, Sim σ2 ∧ ∀ σf, NxtK xs z n (i + 5) σ2 σf → CurK xs z n i 2768 σ σf := by
  obtain ⟨pi, A, ns, nf, hp⟩ := h
  obtain ⟨k, v, σ1, σ2, k1, k2, k3, k4, k5⟩ := st_merge hp (c := xs (i + 1).toNat) (z := xs (i + 2).toNat) 
  refine ⟨σ2, k5, fun σf K b v6 v7 v8 v9 hb => ?_⟩
  refine go_aload_n (at_of tL_law 101 10 rfl) rfl ?_
  refine go_aload_s (at_of tL_law 101 11 rfl) rfl ?_
  refine go_iload (at_of tL_law 101 12 rfl) rfl rfl ?_
  refine go_iconst (at_of tL_law 101 13 rfl) (by unfold in32; omega) ?_
  refine go_iadd (at_of tL_law 101 14 rfl) (by unfold in32; omega) ?_
  refine go_sld (by omega) (by omega) (at_of tL_law 101 15 rfl) ?_
  refine go_aload_s (at_of tL_law 102 0 rfl) rfl ?_
  refine go_iload (at_of tL_law 102 1 rfl) rfl rfl ?_
  refine go_iconst (at_of tL_law 102 2 rfl) (by unfold in32; omega) ?_
  refine go_iadd (at_of tL_law 102 3 rfl) (by unfold in32; omega) ?_
  refine go_sld (by omega) (by omega) (at_of tL_law 102 4 rfl) ?_
  refine go_aload_n (at_of tL_law 102 5 rfl) rfl ?_
  refine go_cX (k1) lk_L_310 rfl (at_of tL_law 102 6 rfl) rfl (by decide) rfl (Nat.le_of_ble_eq_true rfl) rfl (by first | decide | exact ⟨Nat.zero_le _, Nat.zero_le _⟩ | omega) ?_
  refine go_istore (at_of tL_law 102 7 rfl) rfl rfl ?_
  refine go_aload_n (at_of tL_law 102 8 rfl) rfl ?_
  refine go_aload_s (at_of tL_law 102 9 rfl) rfl ?_
  refine go_iload (at_of tL_law 102 10 rfl) rfl rfl ?_
  refine go_iconst (at_of tL_law 102 11 rfl) (by unfold in32; omega) ?_
  refine go_iadd (at_of tL_law 102 12 rfl) (by unfold in32; omega) ?_
  refine go_sld (by omega) (by omega) (at_of tL_law 102 13 rfl) ?_
  refine go_aload_s (at_of tL_law 102 14 rfl) rfl ?_
  refine go_iload (at_of tL_law 102 15 rfl) rfl rfl ?_
  refine go_iconst (at_of tL_law 103 0 rfl) (by unfold in32; omega) ?_
  refine go_iadd (at_of tL_law 103 1 rfl) (by unfold in32; omega) ?_
  refine go_sld (by omega) (by omega) (at_of tL_law 103 2 rfl) ?_
  refine go_cV (k2) lk_L_312 rfl G_109 (at_of tL_law 103 3 rfl) rfl (by decide) rfl (Nat.le_of_ble_eq_true rfl) rfl (by first | decide | exact ⟨Nat.zero_le _, Nat.zero_le _⟩ | omega) ?_
  refine go_istore (at_of tL_law 103 4 rfl) rfl rfl ?_
  refine go_aload_n (at_of tL_law 103 5 rfl) rfl ?_
  refine go_cV (m_thrown) lk_L_175 rfl G_109 (at_of tL_law 103 6 rfl) rfl (by decide) rfl (Nat.le_of_ble_eq_true rfl) rfl (by first | decide | exact ⟨Nat.zero_le _, Nat.zero_le _⟩ | omega) ?_
  refine go_iload (at_of tL_law 103 7 rfl) rfl rfl ?_
  refine go_icmp_eq (tgt := 2816) (at_of tL_law 103 8 rfl) (by decide) (fun h2811 => ?_) (fun h2811 => ?_)
  rotate_left
  · exfalso; omega
  refine go_iload (at_of tL_law 103 11 rfl) rfl rfl ?_
  refine go_if_ne (tgt := 2833) (at_of tL_law 103 12 rfl) (by decide) (fun h2818 => ?_) (fun h2818 => ?_)
  · first
    | exfalso; omega
    | refine go_goto (tgt := 3207) (at_of tL_law 104 6 rfl) (by decide) ?_
      exact law_next ⟨hi, by omega⟩ K (by dsimp only; omega)
  · first
    | exfalso; omega
    | refine go_aload_n (at_of tL_law 103 13 rfl) rfl ?_
      refine go_iconst (at_of tL_law 103 14 rfl) (by unfold in32; omega) ?_
      refine go_lald G_133 (by omega) (by omega) (at_of tL_law 103 15 rfl) ?_
      refine go_iload (at_of tL_law 104 0 rfl) rfl rfl ?_
      refine go_i2l (at_of tL_law 104 1 rfl) ?_
      refine go_lcmp (at_of tL_law 104 2 rfl) ?_
      refine go_if_eq (tgt := 2833) (at_of tL_law 104 3 rfl) (by decide) (fun h2828 => ?_) (fun h2828 => ?_)
      rotate_left
      · exfalso; exact h2828 (cmpZ_eq (k4 (by omega)))
      refine go_goto (tgt := 3207) (at_of tL_law 104 6 rfl) (by decide) ?_
      exact law_next ⟨hi, by omega⟩ K (by dsimp only; omega)
theorem lc_43 (hi : 0 ≤ i) (hz : i + 5 ≤ z) (hz2 : z ≤ 2560) (h : Sim σ) : ∃ σ2, Sim σ2 ∧ ∀ σf, NxtK xs z n (i + 5) σ2 σf → CurK xs z n i 2836 σ σf := by
  obtain ⟨pi, A, ns, nf, hp⟩ := h
  obtain ⟨k, v, σ1, σ2, k1, k2, k3, k4, k5⟩ := st_setPage hp (w := xs (i + 1).toNat) (z := xs (i + 2).toNat) 
  refine ⟨σ2, k5, fun σf K b v6 v7 v8 v9 hb => ?_⟩
  refine go_aload_n (at_of tL_law 104 7 rfl) rfl ?_
  refine go_aload_s (at_of tL_law 104 8 rfl) rfl ?_
  refine go_iload (at_of tL_law 104 9 rfl) rfl rfl ?_
  refine go_iconst (at_of tL_law 104 10 rfl) (by unfold in32; omega) ?_
  refine go_iadd (at_of tL_law 104 11 rfl) (by unfold in32; omega) ?_
  refine go_sld (by omega) (by omega) (at_of tL_law 104 12 rfl) ?_
  refine go_aload_s (at_of tL_law 104 13 rfl) rfl ?_
  refine go_iload (at_of tL_law 104 14 rfl) rfl rfl ?_
  refine go_iconst (at_of tL_law 104 15 rfl) (by unfold in32; omega) ?_
  refine go_iadd (at_of tL_law 105 0 rfl) (by unfold in32; omega) ?_
  refine go_sld (by omega) (by omega) (at_of tL_law 105 1 rfl) ?_
  refine go_aload_n (at_of tL_law 105 2 rfl) rfl ?_
  refine go_cX (k1) lk_L_313 rfl (at_of tL_law 105 3 rfl) rfl (by decide) rfl (Nat.le_of_ble_eq_true rfl) rfl (by first | decide | exact ⟨Nat.zero_le _, Nat.zero_le _⟩ | omega) ?_
  refine go_istore (at_of tL_law 105 4 rfl) rfl rfl ?_
  refine go_aload_n (at_of tL_law 105 5 rfl) rfl ?_
  refine go_aload_s (at_of tL_law 105 6 rfl) rfl ?_
  refine go_iload (at_of tL_law 105 7 rfl) rfl rfl ?_
  refine go_iconst (at_of tL_law 105 8 rfl) (by unfold in32; omega) ?_
  refine go_iadd (at_of tL_law 105 9 rfl) (by unfold in32; omega) ?_
  refine go_sld (by omega) (by omega) (at_of tL_law 105 10 rfl) ?_
  refine go_aload_s (at_of tL_law 105 11 rfl) rfl ?_
  refine go_iload (at_of tL_law 105 12 rfl) rfl rfl ?_
  refine go_iconst (at_of tL_law 105 13 rfl) (by unfold in32; omega) ?_
  refine go_iadd (at_of tL_law 105 14 rfl) (by unfold in32; omega) ?_
  refine go_sld (by omega) (by omega) (at_of tL_law 105 15 rfl) ?_
  refine go_cV (k2) lk_L_315 rfl G_109 (at_of tL_law 106 0 rfl) rfl (by decide) rfl (Nat.le_of_ble_eq_true rfl) rfl (by first | decide | exact ⟨Nat.zero_le _, Nat.zero_le _⟩ | omega) ?_
  refine go_istore (at_of tL_law 106 1 rfl) rfl rfl ?_
  refine go_aload_n (at_of tL_law 106 2 rfl) rfl ?_
  refine go_cV (m_thrown) lk_L_175 rfl G_109 (at_of tL_law 106 3 rfl) rfl (by decide) rfl (Nat.le_of_ble_eq_true rfl) rfl (by first | decide | exact ⟨Nat.zero_le _, Nat.zero_le _⟩ | omega) ?_
  refine go_iload (at_of tL_law 106 4 rfl) rfl rfl ?_
  refine go_icmp_eq (tgt := 2884) (at_of tL_law 106 5 rfl) (by decide) (fun h2879 => ?_) (fun h2879 => ?_)
  rotate_left
  · exfalso; omega
  refine go_iload (at_of tL_law 106 8 rfl) rfl rfl ?_
  refine go_if_ne (tgt := 2901) (at_of tL_law 106 9 rfl) (by decide) (fun h2886 => ?_) (fun h2886 => ?_)
  · first
    | exfalso; omega
    | refine go_goto (tgt := 3207) (at_of tL_law 107 3 rfl) (by decide) ?_
      exact law_next ⟨hi, by omega⟩ K (by dsimp only; omega)
  · first
    | exfalso; omega
    | refine go_aload_n (at_of tL_law 106 10 rfl) rfl ?_
      refine go_iconst (at_of tL_law 106 11 rfl) (by unfold in32; omega) ?_
      refine go_lald G_133 (by omega) (by omega) (at_of tL_law 106 12 rfl) ?_
      refine go_iload (at_of tL_law 106 13 rfl) rfl rfl ?_
      refine go_i2l (at_of tL_law 106 14 rfl) ?_
      refine go_lcmp (at_of tL_law 106 15 rfl) ?_
      refine go_if_eq (tgt := 2901) (at_of tL_law 107 0 rfl) (by decide) (fun h2896 => ?_) (fun h2896 => ?_)
      rotate_left
      · exfalso; exact h2896 (cmpZ_eq (k4 (by omega)))
      refine go_goto (tgt := 3207) (at_of tL_law 107 3 rfl) (by decide) ?_
      exact law_next ⟨hi, by omega⟩ K (by dsimp only; omega)
theorem lc_44 (hi : 0 ≤ i) (hz : i + 5 ≤ z) (hz2 : z ≤ 2560) (h : Sim σ) : ∃ σ2, Sim σ2 ∧ ∀ σf, NxtK xs z n (i + 5) σ2 σf → CurK xs z n i 2904 σ σf := by
  obtain ⟨pi, A, ns, nf, hp⟩ := h
  obtain ⟨v, σ1, σ2, k1, k2, k5⟩ := st_pages hp  
  refine ⟨σ2, k5, fun σf K b v6 v7 v8 v9 hb => ?_⟩
  refine go_aload_n (at_of tL_law 107 4 rfl) rfl ?_
  refine go_cV (k1) lk_L_316 rfl G_0 (at_of tL_law 107 5 rfl) rfl (by decide) rfl (Nat.le_of_ble_eq_true rfl) rfl (by first | decide | exact ⟨Nat.zero_le _, Nat.zero_le _⟩ | omega) ?_
  refine go_aload_n (at_of tL_law 107 6 rfl) rfl ?_
  refine go_cV (k2) lk_L_319 rfl G_109 (at_of tL_law 107 7 rfl) rfl (by decide) rfl (Nat.le_of_ble_eq_true rfl) rfl (by first | decide | exact ⟨Nat.zero_le _, Nat.zero_le _⟩ | omega) ?_
  refine go_icmp_eq (tgt := 3207) (at_of tL_law 107 8 rfl) (by decide) (fun h2912 => ?_) (fun h2912 => ?_)
  rotate_left
  · exfalso; omega
  exact law_next ⟨hi, by omega⟩ K (by dsimp only; omega)
theorem lc_45 (hi : 0 ≤ i) (hz : i + 5 ≤ z) (hz2 : z ≤ 2560) (h : Sim σ) : ∃ σ2, Sim σ2 ∧ ∀ σf, NxtK xs z n (i + 5) σ2 σf → CurK xs z n i 2917 σ σf := by
  obtain ⟨pi, A, ns, nf, hp⟩ := h
  obtain ⟨k, v, σ1, σ2, k1, k2, k3, k4, k5⟩ := st_pageOf hp (p := xs (i + 1).toNat) 
  refine ⟨σ2, k5, fun σf K b v6 v7 v8 v9 hb => ?_⟩
  refine go_aload_n (at_of tL_law 107 11 rfl) rfl ?_
  refine go_aload_s (at_of tL_law 107 12 rfl) rfl ?_
  refine go_iload (at_of tL_law 107 13 rfl) rfl rfl ?_
  refine go_iconst (at_of tL_law 107 14 rfl) (by unfold in32; omega) ?_
  refine go_iadd (at_of tL_law 107 15 rfl) (by unfold in32; omega) ?_
  refine go_sld (by omega) (by omega) (at_of tL_law 108 0 rfl) ?_
  refine go_aload_n (at_of tL_law 108 1 rfl) rfl ?_
  refine go_cX (k1) lk_L_320 rfl (at_of tL_law 108 2 rfl) rfl (by decide) rfl (Nat.le_of_ble_eq_true rfl) rfl (by first | decide | exact ⟨Nat.zero_le _, Nat.zero_le _⟩ | omega) ?_
  refine go_istore (at_of tL_law 108 3 rfl) rfl rfl ?_
  refine go_aload_n (at_of tL_law 108 4 rfl) rfl ?_
  refine go_aload_s (at_of tL_law 108 5 rfl) rfl ?_
  refine go_iload (at_of tL_law 108 6 rfl) rfl rfl ?_
  refine go_iconst (at_of tL_law 108 7 rfl) (by unfold in32; omega) ?_
  refine go_iadd (at_of tL_law 108 8 rfl) (by unfold in32; omega) ?_
  refine go_sld (by omega) (by omega) (at_of tL_law 108 9 rfl) ?_
  refine go_cV (k2) lk_L_322 rfl G_109 (at_of tL_law 108 10 rfl) rfl (by decide) rfl (Nat.le_of_ble_eq_true rfl) rfl (by first | decide | exact ⟨Nat.zero_le _, Nat.zero_le _⟩ | omega) ?_
  refine go_istore (at_of tL_law 108 11 rfl) rfl rfl ?_
  refine go_aload_n (at_of tL_law 108 12 rfl) rfl ?_
  refine go_cV (m_thrown) lk_L_175 rfl G_109 (at_of tL_law 108 13 rfl) rfl (by decide) rfl (Nat.le_of_ble_eq_true rfl) rfl (by first | decide | exact ⟨Nat.zero_le _, Nat.zero_le _⟩ | omega) ?_
  refine go_iload (at_of tL_law 108 14 rfl) rfl rfl ?_
  refine go_icmp_eq (tgt := 2953) (at_of tL_law 108 15 rfl) (by decide) (fun h2948 => ?_) (fun h2948 => ?_)
  rotate_left
  · exfalso; omega
  refine go_iload (at_of tL_law 109 2 rfl) rfl rfl ?_
  refine go_if_ne (tgt := 2970) (at_of tL_law 109 3 rfl) (by decide) (fun h2955 => ?_) (fun h2955 => ?_)
  · first
    | exfalso; omega
    | refine go_goto (tgt := 3207) (at_of tL_law 109 13 rfl) (by decide) ?_
      exact law_next ⟨hi, by omega⟩ K (by dsimp only; omega)
  · first
    | exfalso; omega
    | refine go_aload_n (at_of tL_law 109 4 rfl) rfl ?_
      refine go_iconst (at_of tL_law 109 5 rfl) (by unfold in32; omega) ?_
      refine go_lald G_133 (by omega) (by omega) (at_of tL_law 109 6 rfl) ?_
      refine go_iload (at_of tL_law 109 7 rfl) rfl rfl ?_
      refine go_i2l (at_of tL_law 109 8 rfl) ?_
      refine go_lcmp (at_of tL_law 109 9 rfl) ?_
      refine go_if_eq (tgt := 2970) (at_of tL_law 109 10 rfl) (by decide) (fun h2965 => ?_) (fun h2965 => ?_)
      rotate_left
      · exfalso; exact h2965 (cmpZ_eq (k4 (by omega)))
      refine go_goto (tgt := 3207) (at_of tL_law 109 13 rfl) (by decide) ?_
      exact law_next ⟨hi, by omega⟩ K (by dsimp only; omega)
theorem lc_46 (hi : 0 ≤ i) (hz : i + 5 ≤ z) (hz2 : z ≤ 2560) (h : Sim σ) : ∃ σ2, Sim σ2 ∧ ∀ σf, NxtK xs z n (i + 5) σ2 σf → CurK xs z n i 2973 σ σf := by
  obtain ⟨pi, A, ns, nf, hp⟩ := h
  obtain ⟨k, v, σ1, σ2, k1, k2, k3, k4, k5⟩ := st_lineOf hp (p := xs (i + 1).toNat) 
  refine ⟨σ2, k5, fun σf K b v6 v7 v8 v9 hb => ?_⟩
  refine go_aload_n (at_of tL_law 109 14 rfl) rfl ?_
  refine go_aload_s (at_of tL_law 109 15 rfl) rfl ?_
  refine go_iload (at_of tL_law 110 0 rfl) rfl rfl ?_
  refine go_iconst (at_of tL_law 110 1 rfl) (by unfold in32; omega) ?_
  refine go_iadd (at_of tL_law 110 2 rfl) (by unfold in32; omega) ?_
  refine go_sld (by omega) (by omega) (at_of tL_law 110 3 rfl) ?_
  refine go_aload_n (at_of tL_law 110 4 rfl) rfl ?_
  refine go_cX (k1) lk_L_323 rfl (at_of tL_law 110 5 rfl) rfl (by decide) rfl (Nat.le_of_ble_eq_true rfl) rfl (by first | decide | exact ⟨Nat.zero_le _, Nat.zero_le _⟩ | omega) ?_
  refine go_istore (at_of tL_law 110 6 rfl) rfl rfl ?_
  refine go_aload_n (at_of tL_law 110 7 rfl) rfl ?_
  refine go_aload_s (at_of tL_law 110 8 rfl) rfl ?_
  refine go_iload (at_of tL_law 110 9 rfl) rfl rfl ?_
  refine go_iconst (at_of tL_law 110 10 rfl) (by unfold in32; omega) ?_
  refine go_iadd (at_of tL_law 110 11 rfl) (by unfold in32; omega) ?_
  refine go_sld (by omega) (by omega) (at_of tL_law 110 12 rfl) ?_
  refine go_cV (k2) lk_L_325 rfl G_109 (at_of tL_law 110 13 rfl) rfl (by decide) rfl (Nat.le_of_ble_eq_true rfl) rfl (by first | decide | exact ⟨Nat.zero_le _, Nat.zero_le _⟩ | omega) ?_
  refine go_istore (at_of tL_law 110 14 rfl) rfl rfl ?_
  refine go_aload_n (at_of tL_law 110 15 rfl) rfl ?_
  refine go_cV (m_thrown) lk_L_175 rfl G_109 (at_of tL_law 111 0 rfl) rfl (by decide) rfl (Nat.le_of_ble_eq_true rfl) rfl (by first | decide | exact ⟨Nat.zero_le _, Nat.zero_le _⟩ | omega) ?_
  refine go_iload (at_of tL_law 111 1 rfl) rfl rfl ?_
  refine go_icmp_eq (tgt := 3009) (at_of tL_law 111 2 rfl) (by decide) (fun h3004 => ?_) (fun h3004 => ?_)
  rotate_left
  · exfalso; omega
  refine go_iload (at_of tL_law 111 5 rfl) rfl rfl ?_
  refine go_if_ne (tgt := 3026) (at_of tL_law 111 6 rfl) (by decide) (fun h3011 => ?_) (fun h3011 => ?_)
  · first
    | exfalso; omega
    | refine go_goto (tgt := 3207) (at_of tL_law 112 0 rfl) (by decide) ?_
      exact law_next ⟨hi, by omega⟩ K (by dsimp only; omega)
  · first
    | exfalso; omega
    | refine go_aload_n (at_of tL_law 111 7 rfl) rfl ?_
      refine go_iconst (at_of tL_law 111 8 rfl) (by unfold in32; omega) ?_
      refine go_lald G_133 (by omega) (by omega) (at_of tL_law 111 9 rfl) ?_
      refine go_iload (at_of tL_law 111 10 rfl) rfl rfl ?_
      refine go_i2l (at_of tL_law 111 11 rfl) ?_
      refine go_lcmp (at_of tL_law 111 12 rfl) ?_
      refine go_if_eq (tgt := 3026) (at_of tL_law 111 13 rfl) (by decide) (fun h3021 => ?_) (fun h3021 => ?_)
      rotate_left
      · exfalso; exact h3021 (cmpZ_eq (k4 (by omega)))
      refine go_goto (tgt := 3207) (at_of tL_law 112 0 rfl) (by decide) ?_
      exact law_next ⟨hi, by omega⟩ K (by dsimp only; omega)
theorem lc_47 (hT1 : ShTab) (hi : 0 ≤ i) (hz : i + 5 ≤ z) (hz2 : z ≤ 2560) (h : Sim σ) : ∃ σ2, Sim σ2 ∧ ∀ σf, NxtK xs z n (i + 5) σ2 σf → CurK xs z n i 3029 σ σf := by
  obtain ⟨pi, A, ns, nf, hp⟩ := h
  obtain ⟨k, x, σ1, σ2, k1, k2, k3, k4, k5⟩ := st_waitingShare hp hT1
  refine ⟨σ2, k5, fun σf K b v6 v7 v8 v9 hb => ?_⟩
  refine go_aload_n (at_of tL_law 112 1 rfl) rfl ?_
  refine go_aload (at_of tL_law 112 2 rfl) rfl ?_
  refine go_cX (k1) lk_L_326 rfl (at_of tL_law 112 3 rfl) rfl (by decide) rfl (Nat.le_of_ble_eq_true rfl) rfl (by first | decide | exact ⟨Nat.zero_le _, Nat.zero_le _⟩ | omega) ?_
  refine go_istore (at_of tL_law 112 4 rfl) rfl rfl ?_
  refine go_aload_n (at_of tL_law 112 5 rfl) rfl ?_
  refine go_cV (k2) lk_L_329 rfl G_109 (at_of tL_law 112 6 rfl) rfl (by decide) rfl (Nat.le_of_ble_eq_true rfl) rfl (by first | decide | exact ⟨Nat.zero_le _, Nat.zero_le _⟩ | omega) ?_
  refine go_fstore (at_of tL_law 112 7 rfl) rfl rfl ?_
  refine go_aload_n (at_of tL_law 112 8 rfl) rfl ?_
  refine go_cV (m_thrown) lk_L_175 rfl G_109 (at_of tL_law 112 9 rfl) rfl (by decide) rfl (Nat.le_of_ble_eq_true rfl) rfl (by first | decide | exact ⟨Nat.zero_le _, Nat.zero_le _⟩ | omega) ?_
  refine go_iload (at_of tL_law 112 10 rfl) rfl rfl ?_
  refine go_icmp_eq (tgt := 3054) (at_of tL_law 112 11 rfl) (by decide) (fun h3049 => ?_) (fun h3049 => ?_)
  rotate_left
  · exfalso; omega
  refine go_iload (at_of tL_law 112 14 rfl) rfl rfl ?_
  refine go_if_ne (tgt := 3092) (at_of tL_law 112 15 rfl) (by decide) (fun h3056 => ?_) (fun h3056 => ?_)
  · first
    | exfalso; omega
    | refine go_goto (tgt := 3207) (at_of tL_law 114 5 rfl) (by decide) ?_
      exact law_next ⟨hi, by omega⟩ K (by dsimp only; omega)
  · first
    | exfalso; omega
    | obtain ⟨w1, w2, w3⟩ := k4 (by omega)
      refine go_aload (at_of tL_law 113 0 rfl) rfl ?_
      refine go_iconst (at_of tL_law 113 1 rfl) (by unfold in32; omega) ?_
      refine go_dald G_134 (by omega) (by omega) (at_of tL_law 113 2 rfl) ?_
      refine go_fload (at_of tL_law 113 3 rfl) rfl ?_
      rw [show σ2.1 134 (0 : Int).toNat = ((FP.f2d x).toNat : Int) from w1]
      refine go_f2d (at_of tL_law 113 4 rfl) (nn64_of w2) ?_
      refine go_dcmp (at_of tL_law 113 5 rfl) ?_
      refine go_if_eq (tgt := 3092) (at_of tL_law 113 6 rfl) (by decide) (fun h3067 => ?_) (fun h3067 => ?_)
      rotate_left
      · exfalso; exact h3067 w3
      refine go_goto (tgt := 3207) (at_of tL_law 114 5 rfl) (by decide) ?_
      exact law_next ⟨hi, by omega⟩ K (by dsimp only; omega)
theorem lc_48 (hT1 : ShTab) (hi : 0 ≤ i) (hz : i + 5 ≤ z) (hz2 : z ≤ 2560) (h : Sim σ) : ∃ σ2, Sim σ2 ∧ ∀ σf, NxtK xs z n (i + 5) σ2 σf → CurK xs z n i 3095 σ σf := by
  obtain ⟨pi, A, ns, nf, hp⟩ := h
  obtain ⟨k, v, σ1, σ2, k1, k2, k3, k4, k5⟩ := st_shareBits hp   hT1
  refine ⟨σ2, k5, fun σf K b v6 v7 v8 v9 hb => ?_⟩
  refine go_aload_n (at_of tL_law 114 6 rfl) rfl ?_
  refine go_aload_n (at_of tL_law 114 7 rfl) rfl ?_
  refine go_cX (k1) lk_L_330 rfl (at_of tL_law 114 8 rfl) rfl (by decide) rfl (Nat.le_of_ble_eq_true rfl) rfl (by first | decide | exact ⟨Nat.zero_le _, Nat.zero_le _⟩ | omega) ?_
  refine go_istore (at_of tL_law 114 9 rfl) rfl rfl ?_
  refine go_aload_n (at_of tL_law 114 10 rfl) rfl ?_
  refine go_cV (k2) lk_L_332 rfl G_109 (at_of tL_law 114 11 rfl) rfl (by decide) rfl (Nat.le_of_ble_eq_true rfl) rfl (by first | decide | exact ⟨Nat.zero_le _, Nat.zero_le _⟩ | omega) ?_
  refine go_istore (at_of tL_law 114 12 rfl) rfl rfl ?_
  refine go_aload_n (at_of tL_law 114 13 rfl) rfl ?_
  refine go_cV (m_thrown) lk_L_175 rfl G_109 (at_of tL_law 114 14 rfl) rfl (by decide) rfl (Nat.le_of_ble_eq_true rfl) rfl (by first | decide | exact ⟨Nat.zero_le _, Nat.zero_le _⟩ | omega) ?_
  refine go_iload (at_of tL_law 114 15 rfl) rfl rfl ?_
  refine go_icmp_eq (tgt := 3119) (at_of tL_law 115 0 rfl) (by decide) (fun h3114 => ?_) (fun h3114 => ?_)
  rotate_left
  · exfalso; omega
  refine go_iload (at_of tL_law 115 3 rfl) rfl rfl ?_
  refine go_if_ne (tgt := 3136) (at_of tL_law 115 4 rfl) (by decide) (fun h3121 => ?_) (fun h3121 => ?_)
  · first
    | exfalso; omega
    | refine go_goto (tgt := 3207) (at_of tL_law 115 14 rfl) (by decide) ?_
      exact law_next ⟨hi, by omega⟩ K (by dsimp only; omega)
  · first
    | exfalso; omega
    | refine go_aload_n (at_of tL_law 115 5 rfl) rfl ?_
      refine go_iconst (at_of tL_law 115 6 rfl) (by unfold in32; omega) ?_
      refine go_lald G_133 (by omega) (by omega) (at_of tL_law 115 7 rfl) ?_
      refine go_iload (at_of tL_law 115 8 rfl) rfl rfl ?_
      refine go_i2l (at_of tL_law 115 9 rfl) ?_
      refine go_lcmp (at_of tL_law 115 10 rfl) ?_
      refine go_if_eq (tgt := 3136) (at_of tL_law 115 11 rfl) (by decide) (fun h3131 => ?_) (fun h3131 => ?_)
      rotate_left
      · exfalso; exact h3131 (cmpZ_eq (k4 (by omega)))
      refine go_goto (tgt := 3207) (at_of tL_law 115 14 rfl) (by decide) ?_
      exact law_next ⟨hi, by omega⟩ K (by dsimp only; omega)
theorem lc_49 (hT2 : MnTab) (hi : 0 ≤ i) (hz : i + 5 ≤ z) (hz2 : z ≤ 2560) (h : Sim σ) : ∃ σ2, Sim σ2 ∧ ∀ σf, NxtK xs z n (i + 5) σ2 σf → CurK xs z n i 3139 σ σf := by
  obtain ⟨pi, A, ns, nf, hp⟩ := h
  obtain ⟨x, σ2, k1, k2, k4, k5⟩ := st_meanParagraph hp hT2
  refine ⟨σ2, k5, fun σf K b v6 v7 v8 v9 hb => ?_⟩
  refine go_aload_n (at_of tL_law 115 15 rfl) rfl ?_
  refine go_cV (k1) lk_L_333 rfl G_0 (at_of tL_law 116 0 rfl) rfl (by decide) rfl (Nat.le_of_ble_eq_true rfl) rfl (by first | decide | exact ⟨Nat.zero_le _, Nat.zero_le _⟩ | omega) ?_
  refine go_dstore (at_of tL_law 116 1 rfl) rfl rfl ?_
  refine go_aload_n (at_of tL_law 116 2 rfl) rfl ?_
  refine go_cV (k2) lk_L_337 rfl G_109 (at_of tL_law 116 3 rfl) rfl (by decide) rfl (Nat.le_of_ble_eq_true rfl) rfl (by first | decide | exact ⟨Nat.zero_le _, Nat.zero_le _⟩ | omega) ?_
  refine go_dstore (at_of tL_law 116 4 rfl) rfl rfl ?_
  refine go_dload (at_of tL_law 116 5 rfl) rfl ?_
  refine go_dload (at_of tL_law 116 6 rfl) rfl ?_
  refine go_dcmp (at_of tL_law 116 7 rfl) ?_
  refine go_if_eq (tgt := 3177) (at_of tL_law 116 8 rfl) (by decide) (fun h3156 => ?_) (fun h3156 => ?_)
  rotate_left
  · exfalso; exact h3156 k4
  refine go_goto (tgt := 3207) (at_of tL_law 117 3 rfl) (by decide) ?_
  exact law_next ⟨hi, by omega⟩ K (by dsimp only; omega)
theorem lc_50 (hT2 : MnTab) (hi : 0 ≤ i) (hz : i + 5 ≤ z) (hz2 : z ≤ 2560) (h : Sim σ) : ∃ σ2, Sim σ2 ∧ ∀ σf, NxtK xs z n (i + 5) σ2 σf → CurK xs z n i 3180 σ σf := by
  obtain ⟨pi, A, ns, nf, hp⟩ := h
  obtain ⟨v, σ2, k1, k2, k5⟩ := st_meanBits hp hT2
  refine ⟨σ2, k5, fun σf K b v6 v7 v8 v9 hb => ?_⟩
  refine go_aload_n (at_of tL_law 117 4 rfl) rfl ?_
  refine go_cV (k1) lk_L_338 rfl G_0 (at_of tL_law 117 5 rfl) rfl (by decide) rfl (Nat.le_of_ble_eq_true rfl) rfl (by first | decide | exact ⟨Nat.zero_le _, Nat.zero_le _⟩ | omega) ?_
  refine go_aload_n (at_of tL_law 117 6 rfl) rfl ?_
  refine go_cV (k2) lk_L_342 rfl G_109 (at_of tL_law 117 7 rfl) rfl (by decide) rfl (Nat.le_of_ble_eq_true rfl) rfl (by first | decide | exact ⟨Nat.zero_le _, Nat.zero_le _⟩ | omega) ?_
  refine go_lcmp (at_of tL_law 117 8 rfl) ?_
  refine go_if_eq (tgt := 3207) (at_of tL_law 117 9 rfl) (by decide) (fun h3189 => ?_) (fun h3189 => ?_)
  rotate_left
  · exfalso; exact h3189 (cmpZ_eq rfl)
  exact law_next ⟨hi, by omega⟩ K (by dsimp only; omega)
theorem lc_51 (hi : 0 ≤ i) (hz : i + 5 ≤ z) (hz2 : z ≤ 2560) (h : Sim σ) : ∃ σ2, Sim σ2 ∧ ∀ σf, NxtK xs z n (i + 5) σ2 σf → CurK xs z n i 3194 σ σf := by
  obtain ⟨pi, A, ns, nf, hp⟩ := h
  obtain ⟨v, σ1, σ2, k1, k2, k5⟩ := st_isSound hp  
  refine ⟨σ2, k5, fun σf K b v6 v7 v8 v9 hb => ?_⟩
  refine go_aload_n (at_of tL_law 117 12 rfl) rfl ?_
  refine go_cV (k1) lk_L_343 rfl G_0 (at_of tL_law 117 13 rfl) rfl (by decide) rfl (Nat.le_of_ble_eq_true rfl) rfl (by first | decide | exact ⟨Nat.zero_le _, Nat.zero_le _⟩ | omega) ?_
  refine go_aload_n (at_of tL_law 117 14 rfl) rfl ?_
  refine go_cV (k2) lk_L_347 rfl G_109 (at_of tL_law 117 15 rfl) rfl (by decide) rfl (Nat.le_of_ble_eq_true rfl) rfl (by first | decide | exact ⟨Nat.zero_le _, Nat.zero_le _⟩ | omega) ?_
  refine go_icmp_eq (tgt := 3207) (at_of tL_law 118 0 rfl) (by decide) (fun h3202 => ?_) (fun h3202 => ?_)
  rotate_left
  · exfalso; omega
  exact law_next ⟨hi, by omega⟩ K (by dsimp only; omega)
end Cases36
