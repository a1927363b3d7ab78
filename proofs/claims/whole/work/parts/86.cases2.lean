/-! The law's cases, from 18 on. -/
section Cases18
variable {xs : Nat → Int} {z i : Int} {σ : St} {n : Nat}
theorem lc_18 (hi : 0 ≤ i) (hz : i + 5 ≤ z) (hz2 : z ≤ 2560) (h : Sim σ) : ∃ σ2, Sim σ2 ∧ ∀ σf, NxtK xs z n (i + 5) σ2 σf → CurK xs z n i 1212 σ σf := by
  obtain ⟨pi, A, ns, nf, hp⟩ := h
  obtain ⟨k, v, σ1, σ2, k1, k2, k3, k4, k5⟩ := st_stateOf hp (c := xs (i + 1).toNat) 
  refine ⟨σ2, k5, fun σf K b v6 v7 v8 v9 hb => ?_⟩
  refine go_aload_n (at_of tL_law 39 7 rfl) rfl ?_
  refine go_aload_s (at_of tL_law 39 8 rfl) rfl ?_
  refine go_iload (at_of tL_law 39 9 rfl) rfl rfl ?_
  refine go_iconst (at_of tL_law 39 10 rfl) (by unfold in32; omega) ?_
  refine go_iadd (at_of tL_law 39 11 rfl) (by unfold in32; omega) ?_
  refine go_sld (by omega) (by omega) (at_of tL_law 39 12 rfl) ?_
  refine go_aload_n (at_of tL_law 39 13 rfl) rfl ?_
  refine go_cX (k1) lk_L_235 rfl (at_of tL_law 39 14 rfl) rfl (by decide) rfl (Nat.le_of_ble_eq_true rfl) rfl (by first | decide | exact ⟨Nat.zero_le _, Nat.zero_le _⟩ | omega) ?_
  refine go_istore (at_of tL_law 39 15 rfl) rfl rfl ?_
  refine go_aload_n (at_of tL_law 40 0 rfl) rfl ?_
  refine go_aload_s (at_of tL_law 40 1 rfl) rfl ?_
  refine go_iload (at_of tL_law 40 2 rfl) rfl rfl ?_
  refine go_iconst (at_of tL_law 40 3 rfl) (by unfold in32; omega) ?_
  refine go_iadd (at_of tL_law 40 4 rfl) (by unfold in32; omega) ?_
  refine go_sld (by omega) (by omega) (at_of tL_law 40 5 rfl) ?_
  refine go_cV (k2) lk_L_237 rfl G_109 (at_of tL_law 40 6 rfl) rfl (by decide) rfl (Nat.le_of_ble_eq_true rfl) rfl (by first | decide | exact ⟨Nat.zero_le _, Nat.zero_le _⟩ | omega) ?_
  refine go_istore (at_of tL_law 40 7 rfl) rfl rfl ?_
  refine go_aload_n (at_of tL_law 40 8 rfl) rfl ?_
  refine go_cV (m_thrown) lk_L_175 rfl G_109 (at_of tL_law 40 9 rfl) rfl (by decide) rfl (Nat.le_of_ble_eq_true rfl) rfl (by first | decide | exact ⟨Nat.zero_le _, Nat.zero_le _⟩ | omega) ?_
  refine go_iload (at_of tL_law 40 10 rfl) rfl rfl ?_
  refine go_icmp_eq (tgt := 1248) (at_of tL_law 40 11 rfl) (by decide) (fun h1243 => ?_) (fun h1243 => ?_)
  rotate_left
  · exfalso; omega
  refine go_iload (at_of tL_law 40 14 rfl) rfl rfl ?_
  refine go_if_ne (tgt := 1265) (at_of tL_law 40 15 rfl) (by decide) (fun h1250 => ?_) (fun h1250 => ?_)
  · first
    | exfalso; omega
    | refine go_goto (tgt := 3207) (at_of tL_law 41 9 rfl) (by decide) ?_
      exact law_next ⟨hi, by omega⟩ K (by dsimp only; omega)
  · first
    | exfalso; omega
    | refine go_aload_n (at_of tL_law 41 0 rfl) rfl ?_
      refine go_iconst (at_of tL_law 41 1 rfl) (by unfold in32; omega) ?_
      refine go_lald G_133 (by omega) (by omega) (at_of tL_law 41 2 rfl) ?_
      refine go_iload (at_of tL_law 41 3 rfl) rfl rfl ?_
      refine go_i2l (at_of tL_law 41 4 rfl) ?_
      refine go_lcmp (at_of tL_law 41 5 rfl) ?_
      refine go_if_eq (tgt := 1265) (at_of tL_law 41 6 rfl) (by decide) (fun h1260 => ?_) (fun h1260 => ?_)
      rotate_left
      · exfalso; exact h1260 (cmpZ_eq (k4 (by omega)))
      refine go_goto (tgt := 3207) (at_of tL_law 41 9 rfl) (by decide) ?_
      exact law_next ⟨hi, by omega⟩ K (by dsimp only; omega)
theorem lc_19 (hi : 0 ≤ i) (hz : i + 5 ≤ z) (hz2 : z ≤ 2560) (h : Sim σ) : ∃ σ2, Sim σ2 ∧ ∀ σf, NxtK xs z n (i + 5) σ2 σf → CurK xs z n i 1268 σ σf := by
  obtain ⟨pi, A, ns, nf, hp⟩ := h
  obtain ⟨k, v, σ1, σ2, k1, k2, k3, k4, k5⟩ := st_unitsOf hp (c := xs (i + 1).toNat) 
  refine ⟨σ2, k5, fun σf K b v6 v7 v8 v9 hb => ?_⟩
  refine go_aload_n (at_of tL_law 41 10 rfl) rfl ?_
  refine go_aload_s (at_of tL_law 41 11 rfl) rfl ?_
  refine go_iload (at_of tL_law 41 12 rfl) rfl rfl ?_
  refine go_iconst (at_of tL_law 41 13 rfl) (by unfold in32; omega) ?_
  refine go_iadd (at_of tL_law 41 14 rfl) (by unfold in32; omega) ?_
  refine go_sld (by omega) (by omega) (at_of tL_law 41 15 rfl) ?_
  refine go_aload_n (at_of tL_law 42 0 rfl) rfl ?_
  refine go_cX (k1) lk_L_238 rfl (at_of tL_law 42 1 rfl) rfl (by decide) rfl (Nat.le_of_ble_eq_true rfl) rfl (by first | decide | exact ⟨Nat.zero_le _, Nat.zero_le _⟩ | omega) ?_
  refine go_istore (at_of tL_law 42 2 rfl) rfl rfl ?_
  refine go_aload_n (at_of tL_law 42 3 rfl) rfl ?_
  refine go_aload_s (at_of tL_law 42 4 rfl) rfl ?_
  refine go_iload (at_of tL_law 42 5 rfl) rfl rfl ?_
  refine go_iconst (at_of tL_law 42 6 rfl) (by unfold in32; omega) ?_
  refine go_iadd (at_of tL_law 42 7 rfl) (by unfold in32; omega) ?_
  refine go_sld (by omega) (by omega) (at_of tL_law 42 8 rfl) ?_
  refine go_cV (k2) lk_L_240 rfl G_109 (at_of tL_law 42 9 rfl) rfl (by decide) rfl (Nat.le_of_ble_eq_true rfl) rfl (by first | decide | exact ⟨Nat.zero_le _, Nat.zero_le _⟩ | omega) ?_
  refine go_istore (at_of tL_law 42 10 rfl) rfl rfl ?_
  refine go_aload_n (at_of tL_law 42 11 rfl) rfl ?_
  refine go_cV (m_thrown) lk_L_175 rfl G_109 (at_of tL_law 42 12 rfl) rfl (by decide) rfl (Nat.le_of_ble_eq_true rfl) rfl (by first | decide | exact ⟨Nat.zero_le _, Nat.zero_le _⟩ | omega) ?_
  refine go_iload (at_of tL_law 42 13 rfl) rfl rfl ?_
  refine go_icmp_eq (tgt := 1304) (at_of tL_law 42 14 rfl) (by decide) (fun h1299 => ?_) (fun h1299 => ?_)
  rotate_left
  · exfalso; omega
  refine go_iload (at_of tL_law 43 1 rfl) rfl rfl ?_
  refine go_if_ne (tgt := 1321) (at_of tL_law 43 2 rfl) (by decide) (fun h1306 => ?_) (fun h1306 => ?_)
  · first
    | exfalso; omega
    | refine go_goto (tgt := 3207) (at_of tL_law 43 12 rfl) (by decide) ?_
      exact law_next ⟨hi, by omega⟩ K (by dsimp only; omega)
  · first
    | exfalso; omega
    | refine go_aload_n (at_of tL_law 43 3 rfl) rfl ?_
      refine go_iconst (at_of tL_law 43 4 rfl) (by unfold in32; omega) ?_
      refine go_lald G_133 (by omega) (by omega) (at_of tL_law 43 5 rfl) ?_
      refine go_iload (at_of tL_law 43 6 rfl) rfl rfl ?_
      refine go_i2l (at_of tL_law 43 7 rfl) ?_
      refine go_lcmp (at_of tL_law 43 8 rfl) ?_
      refine go_if_eq (tgt := 1321) (at_of tL_law 43 9 rfl) (by decide) (fun h1316 => ?_) (fun h1316 => ?_)
      rotate_left
      · exfalso; exact h1316 (cmpZ_eq (k4 (by omega)))
      refine go_goto (tgt := 3207) (at_of tL_law 43 12 rfl) (by decide) ?_
      exact law_next ⟨hi, by omega⟩ K (by dsimp only; omega)
theorem lc_20 (hi : 0 ≤ i) (hz : i + 5 ≤ z) (hz2 : z ≤ 2560) (h : Sim σ) : ∃ σ2, Sim σ2 ∧ ∀ σf, NxtK xs z n (i + 5) σ2 σf → CurK xs z n i 1324 σ σf := by
  obtain ⟨pi, A, ns, nf, hp⟩ := h
  obtain ⟨k, v, σ1, σ2, k1, k2, k3, k4, k5⟩ := st_changeAt hp (p := xs (i + 1).toNat) 
  refine ⟨σ2, k5, fun σf K b v6 v7 v8 v9 hb => ?_⟩
  refine go_aload_n (at_of tL_law 43 13 rfl) rfl ?_
  refine go_aload_s (at_of tL_law 43 14 rfl) rfl ?_
  refine go_iload (at_of tL_law 43 15 rfl) rfl rfl ?_
  refine go_iconst (at_of tL_law 44 0 rfl) (by unfold in32; omega) ?_
  refine go_iadd (at_of tL_law 44 1 rfl) (by unfold in32; omega) ?_
  refine go_sld (by omega) (by omega) (at_of tL_law 44 2 rfl) ?_
  refine go_aload_n (at_of tL_law 44 3 rfl) rfl ?_
  refine go_cX (k1) lk_L_241 rfl (at_of tL_law 44 4 rfl) rfl (by decide) rfl (Nat.le_of_ble_eq_true rfl) rfl (by first | decide | exact ⟨Nat.zero_le _, Nat.zero_le _⟩ | omega) ?_
  refine go_istore (at_of tL_law 44 5 rfl) rfl rfl ?_
  refine go_aload_n (at_of tL_law 44 6 rfl) rfl ?_
  refine go_aload_s (at_of tL_law 44 7 rfl) rfl ?_
  refine go_iload (at_of tL_law 44 8 rfl) rfl rfl ?_
  refine go_iconst (at_of tL_law 44 9 rfl) (by unfold in32; omega) ?_
  refine go_iadd (at_of tL_law 44 10 rfl) (by unfold in32; omega) ?_
  refine go_sld (by omega) (by omega) (at_of tL_law 44 11 rfl) ?_
  refine go_cV (k2) lk_L_243 rfl G_109 (at_of tL_law 44 12 rfl) rfl (by decide) rfl (Nat.le_of_ble_eq_true rfl) rfl (by first | decide | exact ⟨Nat.zero_le _, Nat.zero_le _⟩ | omega) ?_
  refine go_istore (at_of tL_law 44 13 rfl) rfl rfl ?_
  refine go_aload_n (at_of tL_law 44 14 rfl) rfl ?_
  refine go_cV (m_thrown) lk_L_175 rfl G_109 (at_of tL_law 44 15 rfl) rfl (by decide) rfl (Nat.le_of_ble_eq_true rfl) rfl (by first | decide | exact ⟨Nat.zero_le _, Nat.zero_le _⟩ | omega) ?_
  refine go_iload (at_of tL_law 45 0 rfl) rfl rfl ?_
  refine go_icmp_eq (tgt := 1360) (at_of tL_law 45 1 rfl) (by decide) (fun h1355 => ?_) (fun h1355 => ?_)
  rotate_left
  · exfalso; omega
  refine go_iload (at_of tL_law 45 4 rfl) rfl rfl ?_
  refine go_if_ne (tgt := 1377) (at_of tL_law 45 5 rfl) (by decide) (fun h1362 => ?_) (fun h1362 => ?_)
  · first
    | exfalso; omega
    | refine go_goto (tgt := 3207) (at_of tL_law 45 15 rfl) (by decide) ?_
      exact law_next ⟨hi, by omega⟩ K (by dsimp only; omega)
  · first
    | exfalso; omega
    | refine go_aload_n (at_of tL_law 45 6 rfl) rfl ?_
      refine go_iconst (at_of tL_law 45 7 rfl) (by unfold in32; omega) ?_
      refine go_lald G_133 (by omega) (by omega) (at_of tL_law 45 8 rfl) ?_
      refine go_iload (at_of tL_law 45 9 rfl) rfl rfl ?_
      refine go_i2l (at_of tL_law 45 10 rfl) ?_
      refine go_lcmp (at_of tL_law 45 11 rfl) ?_
      refine go_if_eq (tgt := 1377) (at_of tL_law 45 12 rfl) (by decide) (fun h1372 => ?_) (fun h1372 => ?_)
      rotate_left
      · exfalso; exact h1372 (cmpZ_eq (k4 (by omega)))
      refine go_goto (tgt := 3207) (at_of tL_law 45 15 rfl) (by decide) ?_
      exact law_next ⟨hi, by omega⟩ K (by dsimp only; omega)
theorem lc_21 (hi : 0 ≤ i) (hz : i + 5 ≤ z) (hz2 : z ≤ 2560) (h : Sim σ) : ∃ σ2, Sim σ2 ∧ ∀ σf, NxtK xs z n (i + 5) σ2 σf → CurK xs z n i 1380 σ σf := by
  obtain ⟨pi, A, ns, nf, hp⟩ := h
  obtain ⟨k, v, σ1, σ2, k1, k2, k3, k4, k5⟩ := st_accept hp (c := xs (i + 1).toNat) 
  refine ⟨σ2, k5, fun σf K b v6 v7 v8 v9 hb => ?_⟩
  refine go_aload_n (at_of tL_law 46 0 rfl) rfl ?_
  refine go_aload_s (at_of tL_law 46 1 rfl) rfl ?_
  refine go_iload (at_of tL_law 46 2 rfl) rfl rfl ?_
  refine go_iconst (at_of tL_law 46 3 rfl) (by unfold in32; omega) ?_
  refine go_iadd (at_of tL_law 46 4 rfl) (by unfold in32; omega) ?_
  refine go_sld (by omega) (by omega) (at_of tL_law 46 5 rfl) ?_
  refine go_aload_n (at_of tL_law 46 6 rfl) rfl ?_
  refine go_cX (k1) lk_L_244 rfl (at_of tL_law 46 7 rfl) rfl (by decide) rfl (Nat.le_of_ble_eq_true rfl) rfl (by first | decide | exact ⟨Nat.zero_le _, Nat.zero_le _⟩ | omega) ?_
  refine go_istore (at_of tL_law 46 8 rfl) rfl rfl ?_
  refine go_aload_n (at_of tL_law 46 9 rfl) rfl ?_
  refine go_aload_s (at_of tL_law 46 10 rfl) rfl ?_
  refine go_iload (at_of tL_law 46 11 rfl) rfl rfl ?_
  refine go_iconst (at_of tL_law 46 12 rfl) (by unfold in32; omega) ?_
  refine go_iadd (at_of tL_law 46 13 rfl) (by unfold in32; omega) ?_
  refine go_sld (by omega) (by omega) (at_of tL_law 46 14 rfl) ?_
  refine go_cV (k2) lk_L_246 rfl G_109 (at_of tL_law 46 15 rfl) rfl (by decide) rfl (Nat.le_of_ble_eq_true rfl) rfl (by first | decide | exact ⟨Nat.zero_le _, Nat.zero_le _⟩ | omega) ?_
  refine go_istore (at_of tL_law 47 0 rfl) rfl rfl ?_
  refine go_aload_n (at_of tL_law 47 1 rfl) rfl ?_
  refine go_cV (m_thrown) lk_L_175 rfl G_109 (at_of tL_law 47 2 rfl) rfl (by decide) rfl (Nat.le_of_ble_eq_true rfl) rfl (by first | decide | exact ⟨Nat.zero_le _, Nat.zero_le _⟩ | omega) ?_
  refine go_iload (at_of tL_law 47 3 rfl) rfl rfl ?_
  refine go_icmp_eq (tgt := 1416) (at_of tL_law 47 4 rfl) (by decide) (fun h1411 => ?_) (fun h1411 => ?_)
  rotate_left
  · exfalso; omega
  refine go_iload (at_of tL_law 47 7 rfl) rfl rfl ?_
  refine go_if_ne (tgt := 1433) (at_of tL_law 47 8 rfl) (by decide) (fun h1418 => ?_) (fun h1418 => ?_)
  · first
    | exfalso; omega
    | refine go_goto (tgt := 3207) (at_of tL_law 48 2 rfl) (by decide) ?_
      exact law_next ⟨hi, by omega⟩ K (by dsimp only; omega)
  · first
    | exfalso; omega
    | refine go_aload_n (at_of tL_law 47 9 rfl) rfl ?_
      refine go_iconst (at_of tL_law 47 10 rfl) (by unfold in32; omega) ?_
      refine go_lald G_133 (by omega) (by omega) (at_of tL_law 47 11 rfl) ?_
      refine go_iload (at_of tL_law 47 12 rfl) rfl rfl ?_
      refine go_i2l (at_of tL_law 47 13 rfl) ?_
      refine go_lcmp (at_of tL_law 47 14 rfl) ?_
      refine go_if_eq (tgt := 1433) (at_of tL_law 47 15 rfl) (by decide) (fun h1428 => ?_) (fun h1428 => ?_)
      rotate_left
      · exfalso; exact h1428 (cmpZ_eq (k4 (by omega)))
      refine go_goto (tgt := 3207) (at_of tL_law 48 2 rfl) (by decide) ?_
      exact law_next ⟨hi, by omega⟩ K (by dsimp only; omega)
theorem lc_22 (hi : 0 ≤ i) (hz : i + 5 ≤ z) (hz2 : z ≤ 2560) (h : Sim σ) : ∃ σ2, Sim σ2 ∧ ∀ σf, NxtK xs z n (i + 5) σ2 σf → CurK xs z n i 1436 σ σf := by
  obtain ⟨pi, A, ns, nf, hp⟩ := h
  obtain ⟨k, v, σ1, σ2, k1, k2, k3, k4, k5⟩ := st_refuse hp (c := xs (i + 1).toNat) 
  refine ⟨σ2, k5, fun σf K b v6 v7 v8 v9 hb => ?_⟩
  refine go_aload_n (at_of tL_law 48 3 rfl) rfl ?_
  refine go_aload_s (at_of tL_law 48 4 rfl) rfl ?_
  refine go_iload (at_of tL_law 48 5 rfl) rfl rfl ?_
  refine go_iconst (at_of tL_law 48 6 rfl) (by unfold in32; omega) ?_
  refine go_iadd (at_of tL_law 48 7 rfl) (by unfold in32; omega) ?_
  refine go_sld (by omega) (by omega) (at_of tL_law 48 8 rfl) ?_
  refine go_aload_n (at_of tL_law 48 9 rfl) rfl ?_
  refine go_cX (k1) lk_L_247 rfl (at_of tL_law 48 10 rfl) rfl (by decide) rfl (Nat.le_of_ble_eq_true rfl) rfl (by first | decide | exact ⟨Nat.zero_le _, Nat.zero_le _⟩ | omega) ?_
  refine go_istore (at_of tL_law 48 11 rfl) rfl rfl ?_
  refine go_aload_n (at_of tL_law 48 12 rfl) rfl ?_
  refine go_aload_s (at_of tL_law 48 13 rfl) rfl ?_
  refine go_iload (at_of tL_law 48 14 rfl) rfl rfl ?_
  refine go_iconst (at_of tL_law 48 15 rfl) (by unfold in32; omega) ?_
  refine go_iadd (at_of tL_law 49 0 rfl) (by unfold in32; omega) ?_
  refine go_sld (by omega) (by omega) (at_of tL_law 49 1 rfl) ?_
  refine go_cV (k2) lk_L_249 rfl G_109 (at_of tL_law 49 2 rfl) rfl (by decide) rfl (Nat.le_of_ble_eq_true rfl) rfl (by first | decide | exact ⟨Nat.zero_le _, Nat.zero_le _⟩ | omega) ?_
  refine go_istore (at_of tL_law 49 3 rfl) rfl rfl ?_
  refine go_aload_n (at_of tL_law 49 4 rfl) rfl ?_
  refine go_cV (m_thrown) lk_L_175 rfl G_109 (at_of tL_law 49 5 rfl) rfl (by decide) rfl (Nat.le_of_ble_eq_true rfl) rfl (by first | decide | exact ⟨Nat.zero_le _, Nat.zero_le _⟩ | omega) ?_
  refine go_iload (at_of tL_law 49 6 rfl) rfl rfl ?_
  refine go_icmp_eq (tgt := 1472) (at_of tL_law 49 7 rfl) (by decide) (fun h1467 => ?_) (fun h1467 => ?_)
  rotate_left
  · exfalso; omega
  refine go_iload (at_of tL_law 49 10 rfl) rfl rfl ?_
  refine go_if_ne (tgt := 1489) (at_of tL_law 49 11 rfl) (by decide) (fun h1474 => ?_) (fun h1474 => ?_)
  · first
    | exfalso; omega
    | refine go_goto (tgt := 3207) (at_of tL_law 50 5 rfl) (by decide) ?_
      exact law_next ⟨hi, by omega⟩ K (by dsimp only; omega)
  · first
    | exfalso; omega
    | refine go_aload_n (at_of tL_law 49 12 rfl) rfl ?_
      refine go_iconst (at_of tL_law 49 13 rfl) (by unfold in32; omega) ?_
      refine go_lald G_133 (by omega) (by omega) (at_of tL_law 49 14 rfl) ?_
      refine go_iload (at_of tL_law 49 15 rfl) rfl rfl ?_
      refine go_i2l (at_of tL_law 50 0 rfl) ?_
      refine go_lcmp (at_of tL_law 50 1 rfl) ?_
      refine go_if_eq (tgt := 1489) (at_of tL_law 50 2 rfl) (by decide) (fun h1484 => ?_) (fun h1484 => ?_)
      rotate_left
      · exfalso; exact h1484 (cmpZ_eq (k4 (by omega)))
      refine go_goto (tgt := 3207) (at_of tL_law 50 5 rfl) (by decide) ?_
      exact law_next ⟨hi, by omega⟩ K (by dsimp only; omega)
theorem lc_23 (hi : 0 ≤ i) (hz : i + 5 ≤ z) (hz2 : z ≤ 2560) (h : Sim σ) : ∃ σ2, Sim σ2 ∧ ∀ σf, NxtK xs z n (i + 5) σ2 σf → CurK xs z n i 1492 σ σf := by
  obtain ⟨pi, A, ns, nf, hp⟩ := h
  by_cases hbl : xs (i + 2).toNat = 0
  · obtain ⟨k, v, σ1, σ2, k1, k2, k3, k4, k5⟩ := st_judge hp (a := xs (i + 1).toNat) (acc := false) 
    refine ⟨σ2, k5, fun σf K b v6 v7 v8 v9 hb => ?_⟩
    refine go_aload_n (at_of tL_law 50 6 rfl) rfl ?_
    refine go_aload_s (at_of tL_law 50 7 rfl) rfl ?_
    refine go_iload (at_of tL_law 50 8 rfl) rfl rfl ?_
    refine go_iconst (at_of tL_law 50 9 rfl) (by unfold in32; omega) ?_
    refine go_iadd (at_of tL_law 50 10 rfl) (by unfold in32; omega) ?_
    refine go_sld (by omega) (by omega) (at_of tL_law 50 11 rfl) ?_
    refine go_aload_s (at_of tL_law 50 12 rfl) rfl ?_
    refine go_iload (at_of tL_law 50 13 rfl) rfl rfl ?_
    refine go_iconst (at_of tL_law 50 14 rfl) (by unfold in32; omega) ?_
    refine go_iadd (at_of tL_law 50 15 rfl) (by unfold in32; omega) ?_
    refine go_sld (by omega) (by omega) (at_of tL_law 51 0 rfl) ?_
    refine go_if_eq (tgt := 1512) (at_of tL_law 51 1 rfl) (by decide) (fun h1505 => ?_) (fun h1505 => ?_)
    rotate_left
    · exfalso; omega
    refine go_iconst (at_of tL_law 51 4 rfl) (by unfold in32; omega) ?_
    refine go_aload_n (at_of tL_law 51 5 rfl) rfl ?_
    refine go_cX (k1) lk_L_250 rfl (at_of tL_law 51 6 rfl) rfl (by decide) rfl (Nat.le_of_ble_eq_true rfl) rfl (by first | decide | exact ⟨Nat.zero_le _, Nat.zero_le _⟩ | omega) ?_
    refine go_istore (at_of tL_law 51 7 rfl) rfl rfl ?_
    refine go_aload_n (at_of tL_law 51 8 rfl) rfl ?_
    refine go_aload_s (at_of tL_law 51 9 rfl) rfl ?_
    refine go_iload (at_of tL_law 51 10 rfl) rfl rfl ?_
    refine go_iconst (at_of tL_law 51 11 rfl) (by unfold in32; omega) ?_
    refine go_iadd (at_of tL_law 51 12 rfl) (by unfold in32; omega) ?_
    refine go_sld (by omega) (by omega) (at_of tL_law 51 13 rfl) ?_
    refine go_aload_s (at_of tL_law 51 14 rfl) rfl ?_
    refine go_iload (at_of tL_law 51 15 rfl) rfl rfl ?_
    refine go_iconst (at_of tL_law 52 0 rfl) (by unfold in32; omega) ?_
    refine go_iadd (at_of tL_law 52 1 rfl) (by unfold in32; omega) ?_
    refine go_sld (by omega) (by omega) (at_of tL_law 52 2 rfl) ?_
    refine go_if_eq (tgt := 1539) (at_of tL_law 52 3 rfl) (by decide) (fun h1532 => ?_) (fun h1532 => ?_)
    rotate_left
    · exfalso; omega
    refine go_iconst (at_of tL_law 52 6 rfl) (by unfold in32; omega) ?_
    refine go_cV (k2) lk_L_252 rfl G_109 (at_of tL_law 52 7 rfl) rfl (by decide) rfl (Nat.le_of_ble_eq_true rfl) rfl (by first | decide | exact ⟨Nat.zero_le _, Nat.zero_le _⟩ | omega) ?_
    refine go_istore (at_of tL_law 52 8 rfl) rfl rfl ?_
    refine go_aload_n (at_of tL_law 52 9 rfl) rfl ?_
    refine go_cV (m_thrown) lk_L_175 rfl G_109 (at_of tL_law 52 10 rfl) rfl (by decide) rfl (Nat.le_of_ble_eq_true rfl) rfl (by first | decide | exact ⟨Nat.zero_le _, Nat.zero_le _⟩ | omega) ?_
    refine go_iload (at_of tL_law 52 11 rfl) rfl rfl ?_
    refine go_icmp_eq (tgt := 1556) (at_of tL_law 52 12 rfl) (by decide) (fun h1551 => ?_) (fun h1551 => ?_)
    rotate_left
    · exfalso; omega
    refine go_iload (at_of tL_law 52 15 rfl) rfl rfl ?_
    refine go_if_ne (tgt := 1573) (at_of tL_law 53 0 rfl) (by decide) (fun h1558 => ?_) (fun h1558 => ?_)
    · first
      | exfalso; omega
      | refine go_goto (tgt := 3207) (at_of tL_law 53 10 rfl) (by decide) ?_
        exact law_next ⟨hi, by omega⟩ K (by dsimp only; omega)
    · first
      | exfalso; omega
      | refine go_aload_n (at_of tL_law 53 1 rfl) rfl ?_
        refine go_iconst (at_of tL_law 53 2 rfl) (by unfold in32; omega) ?_
        refine go_lald G_133 (by omega) (by omega) (at_of tL_law 53 3 rfl) ?_
        refine go_iload (at_of tL_law 53 4 rfl) rfl rfl ?_
        refine go_i2l (at_of tL_law 53 5 rfl) ?_
        refine go_lcmp (at_of tL_law 53 6 rfl) ?_
        refine go_if_eq (tgt := 1573) (at_of tL_law 53 7 rfl) (by decide) (fun h1568 => ?_) (fun h1568 => ?_)
        rotate_left
        · exfalso; exact h1568 (cmpZ_eq (k4 (by omega)))
        refine go_goto (tgt := 3207) (at_of tL_law 53 10 rfl) (by decide) ?_
        exact law_next ⟨hi, by omega⟩ K (by dsimp only; omega)
  · obtain ⟨k, v, σ1, σ2, k1, k2, k3, k4, k5⟩ := st_judge hp (a := xs (i + 1).toNat) (acc := true) 
    refine ⟨σ2, k5, fun σf K b v6 v7 v8 v9 hb => ?_⟩
    refine go_aload_n (at_of tL_law 50 6 rfl) rfl ?_
    refine go_aload_s (at_of tL_law 50 7 rfl) rfl ?_
    refine go_iload (at_of tL_law 50 8 rfl) rfl rfl ?_
    refine go_iconst (at_of tL_law 50 9 rfl) (by unfold in32; omega) ?_
    refine go_iadd (at_of tL_law 50 10 rfl) (by unfold in32; omega) ?_
    refine go_sld (by omega) (by omega) (at_of tL_law 50 11 rfl) ?_
    refine go_aload_s (at_of tL_law 50 12 rfl) rfl ?_
    refine go_iload (at_of tL_law 50 13 rfl) rfl rfl ?_
    refine go_iconst (at_of tL_law 50 14 rfl) (by unfold in32; omega) ?_
    refine go_iadd (at_of tL_law 50 15 rfl) (by unfold in32; omega) ?_
    refine go_sld (by omega) (by omega) (at_of tL_law 51 0 rfl) ?_
    refine go_if_eq (tgt := 1512) (at_of tL_law 51 1 rfl) (by decide) (fun h1505 => ?_) (fun h1505 => ?_)
    · exfalso; omega
    refine go_iconst (at_of tL_law 51 2 rfl) (by unfold in32; omega) ?_
    refine go_goto (tgt := 1513) (at_of tL_law 51 3 rfl) (by decide) ?_
    refine go_aload_n (at_of tL_law 51 5 rfl) rfl ?_
    refine go_cX (k1) lk_L_250 rfl (at_of tL_law 51 6 rfl) rfl (by decide) rfl (Nat.le_of_ble_eq_true rfl) rfl (by first | decide | exact ⟨Nat.zero_le _, Nat.zero_le _⟩ | omega) ?_
    refine go_istore (at_of tL_law 51 7 rfl) rfl rfl ?_
    refine go_aload_n (at_of tL_law 51 8 rfl) rfl ?_
    refine go_aload_s (at_of tL_law 51 9 rfl) rfl ?_
    refine go_iload (at_of tL_law 51 10 rfl) rfl rfl ?_
    refine go_iconst (at_of tL_law 51 11 rfl) (by unfold in32; omega) ?_
    refine go_iadd (at_of tL_law 51 12 rfl) (by unfold in32; omega) ?_
    refine go_sld (by omega) (by omega) (at_of tL_law 51 13 rfl) ?_
    refine go_aload_s (at_of tL_law 51 14 rfl) rfl ?_
    refine go_iload (at_of tL_law 51 15 rfl) rfl rfl ?_
    refine go_iconst (at_of tL_law 52 0 rfl) (by unfold in32; omega) ?_
    refine go_iadd (at_of tL_law 52 1 rfl) (by unfold in32; omega) ?_
    refine go_sld (by omega) (by omega) (at_of tL_law 52 2 rfl) ?_
    refine go_if_eq (tgt := 1539) (at_of tL_law 52 3 rfl) (by decide) (fun h1532 => ?_) (fun h1532 => ?_)
    · exfalso; omega
    refine go_iconst (at_of tL_law 52 4 rfl) (by unfold in32; omega) ?_
    refine go_goto (tgt := 1540) (at_of tL_law 52 5 rfl) (by decide) ?_
    refine go_cV (k2) lk_L_252 rfl G_109 (at_of tL_law 52 7 rfl) rfl (by decide) rfl (Nat.le_of_ble_eq_true rfl) rfl (by first | decide | exact ⟨Nat.zero_le _, Nat.zero_le _⟩ | omega) ?_
    refine go_istore (at_of tL_law 52 8 rfl) rfl rfl ?_
    refine go_aload_n (at_of tL_law 52 9 rfl) rfl ?_
    refine go_cV (m_thrown) lk_L_175 rfl G_109 (at_of tL_law 52 10 rfl) rfl (by decide) rfl (Nat.le_of_ble_eq_true rfl) rfl (by first | decide | exact ⟨Nat.zero_le _, Nat.zero_le _⟩ | omega) ?_
    refine go_iload (at_of tL_law 52 11 rfl) rfl rfl ?_
    refine go_icmp_eq (tgt := 1556) (at_of tL_law 52 12 rfl) (by decide) (fun h1551 => ?_) (fun h1551 => ?_)
    rotate_left
    · exfalso; omega
    refine go_iload (at_of tL_law 52 15 rfl) rfl rfl ?_
    refine go_if_ne (tgt := 1573) (at_of tL_law 53 0 rfl) (by decide) (fun h1558 => ?_) (fun h1558 => ?_)
    · first
      | exfalso; omega
      | refine go_goto (tgt := 3207) (at_of tL_law 53 10 rfl) (by decide) ?_
        exact law_next ⟨hi, by omega⟩ K (by dsimp only; omega)
    · first
      | exfalso; omega
      | refine go_aload_n (at_of tL_law 53 1 rfl) rfl ?_
        refine go_iconst (at_of tL_law 53 2 rfl) (by unfold in32; omega) ?_
        refine go_lald G_133 (by omega) (by omega) (at_of tL_law 53 3 rfl) ?_
        refine go_iload (at_of tL_law 53 4 rfl) rfl rfl ?_
        refine go_i2l (at_of tL_law 53 5 rfl) ?_
        refine go_lcmp (at_of tL_law 53 6 rfl) ?_
        refine go_if_eq (tgt := 1573) (at_of tL_law 53 7 rfl) (by decide) (fun h1568 => ?_) (fun h1568 => ?_)
        rotate_left
        · exfalso; exact h1568 (cmpZ_eq (k4 (by omega)))
        refine go_goto (tgt := 3207) (at_of tL_law 53 10 rfl) (by decide) ?_
        exact law_next ⟨hi, by omega⟩ K (by dsimp only; omega)
theorem lc_24 (hi : 0 ≤ i) (hz : i + 5 ≤ z) (hz2 : z ≤ 2560) (h : Sim σ) : ∃ σ2, Sim σ2 ∧ ∀ σf, NxtK xs z n (i + 5) σ2 σf → CurK xs z n i 1576 σ σf := by
  obtain ⟨pi, A, ns, nf, hp⟩ := h
  by_cases hbl : xs (i + 2).toNat = 0
  · obtain ⟨k, v, σ1, σ2, k1, k2, k3, k4, k5⟩ := st_addStyle hp (q := xs (i + 1).toNat) (t := 0) (z := xs (i + 3).toNat) (Or.inl rfl)
    refine ⟨σ2, k5, fun σf K b v6 v7 v8 v9 hb => ?_⟩
    refine go_aload_n (at_of tL_law 53 11 rfl) rfl ?_
    refine go_aload_s (at_of tL_law 53 12 rfl) rfl ?_
    refine go_iload (at_of tL_law 53 13 rfl) rfl rfl ?_
    refine go_iconst (at_of tL_law 53 14 rfl) (by unfold in32; omega) ?_
    refine go_iadd (at_of tL_law 53 15 rfl) (by unfold in32; omega) ?_
    refine go_sld (by omega) (by omega) (at_of tL_law 54 0 rfl) ?_
    refine go_aload_s (at_of tL_law 54 1 rfl) rfl ?_
    refine go_iload (at_of tL_law 54 2 rfl) rfl rfl ?_
    refine go_iconst (at_of tL_law 54 3 rfl) (by unfold in32; omega) ?_
    refine go_iadd (at_of tL_law 54 4 rfl) (by unfold in32; omega) ?_
    refine go_sld (by omega) (by omega) (at_of tL_law 54 5 rfl) ?_
    refine go_if_eq (tgt := 1596) (at_of tL_law 54 6 rfl) (by decide) (fun h1589 => ?_) (fun h1589 => ?_)
    rotate_left
    · exfalso; omega
    refine go_iconst (at_of tL_law 54 9 rfl) (by unfold in32; omega) ?_
    refine go_aload_s (at_of tL_law 54 10 rfl) rfl ?_
    refine go_iload (at_of tL_law 54 11 rfl) rfl rfl ?_
    refine go_iconst (at_of tL_law 54 12 rfl) (by unfold in32; omega) ?_
    refine go_iadd (at_of tL_law 54 13 rfl) (by unfold in32; omega) ?_
    refine go_sld (by omega) (by omega) (at_of tL_law 54 14 rfl) ?_
    refine go_aload_n (at_of tL_law 54 15 rfl) rfl ?_
    refine go_cX (k1) lk_L_253 rfl (at_of tL_law 55 0 rfl) rfl (by decide) rfl (Nat.le_of_ble_eq_true rfl) rfl (by first | decide | exact ⟨Nat.zero_le _, Nat.zero_le _⟩ | omega) ?_
    refine go_istore (at_of tL_law 55 1 rfl) rfl rfl ?_
    refine go_aload_n (at_of tL_law 55 2 rfl) rfl ?_
    refine go_aload_s (at_of tL_law 55 3 rfl) rfl ?_
    refine go_iload (at_of tL_law 55 4 rfl) rfl rfl ?_
    refine go_iconst (at_of tL_law 55 5 rfl) (by unfold in32; omega) ?_
    refine go_iadd (at_of tL_law 55 6 rfl) (by unfold in32; omega) ?_
    refine go_sld (by omega) (by omega) (at_of tL_law 55 7 rfl) ?_
    refine go_aload_s (at_of tL_law 55 8 rfl) rfl ?_
    refine go_iload (at_of tL_law 55 9 rfl) rfl rfl ?_
    refine go_iconst (at_of tL_law 55 10 rfl) (by unfold in32; omega) ?_
    refine go_iadd (at_of tL_law 55 11 rfl) (by unfold in32; omega) ?_
    refine go_sld (by omega) (by omega) (at_of tL_law 55 12 rfl) ?_
    refine go_if_eq (tgt := 1629) (at_of tL_law 55 13 rfl) (by decide) (fun h1622 => ?_) (fun h1622 => ?_)
    rotate_left
    · exfalso; omega
    refine go_iconst (at_of tL_law 56 0 rfl) (by unfold in32; omega) ?_
    refine go_aload_s (at_of tL_law 56 1 rfl) rfl ?_
    refine go_iload (at_of tL_law 56 2 rfl) rfl rfl ?_
    refine go_iconst (at_of tL_law 56 3 rfl) (by unfold in32; omega) ?_
    refine go_iadd (at_of tL_law 56 4 rfl) (by unfold in32; omega) ?_
    refine go_sld (by omega) (by omega) (at_of tL_law 56 5 rfl) ?_
    refine go_cV (k2) lk_L_256 rfl G_109 (at_of tL_law 56 6 rfl) rfl (by decide) rfl (Nat.le_of_ble_eq_true rfl) rfl (by first | decide | exact ⟨Nat.zero_le _, Nat.zero_le _⟩ | omega) ?_
    refine go_istore (at_of tL_law 56 7 rfl) rfl rfl ?_
    refine go_aload_n (at_of tL_law 56 8 rfl) rfl ?_
    refine go_cV (m_thrown) lk_L_175 rfl G_109 (at_of tL_law 56 9 rfl) rfl (by decide) rfl (Nat.le_of_ble_eq_true rfl) rfl (by first | decide | exact ⟨Nat.zero_le _, Nat.zero_le _⟩ | omega) ?_
    refine go_iload (at_of tL_law 56 10 rfl) rfl rfl ?_
    refine go_icmp_eq (tgt := 1652) (at_of tL_law 56 11 rfl) (by decide) (fun h1647 => ?_) (fun h1647 => ?_)
    rotate_left
    · exfalso; omega
    refine go_iload (at_of tL_law 56 14 rfl) rfl rfl ?_
    refine go_if_ne (tgt := 1669) (at_of tL_law 56 15 rfl) (by decide) (fun h1654 => ?_) (fun h1654 => ?_)
    · first
      | exfalso; omega
      | refine go_goto (tgt := 3207) (at_of tL_law 57 9 rfl) (by decide) ?_
        exact law_next ⟨hi, by omega⟩ K (by dsimp only; omega)
    · first
      | exfalso; omega
      | refine go_aload_n (at_of tL_law 57 0 rfl) rfl ?_
        refine go_iconst (at_of tL_law 57 1 rfl) (by unfold in32; omega) ?_
        refine go_lald G_133 (by omega) (by omega) (at_of tL_law 57 2 rfl) ?_
        refine go_iload (at_of tL_law 57 3 rfl) rfl rfl ?_
        refine go_i2l (at_of tL_law 57 4 rfl) ?_
        refine go_lcmp (at_of tL_law 57 5 rfl) ?_
        refine go_if_eq (tgt := 1669) (at_of tL_law 57 6 rfl) (by decide) (fun h1664 => ?_) (fun h1664 => ?_)
        rotate_left
        · exfalso; exact h1664 (cmpZ_eq (k4 (by omega)))
        refine go_goto (tgt := 3207) (at_of tL_law 57 9 rfl) (by decide) ?_
        exact law_next ⟨hi, by omega⟩ K (by dsimp only; omega)
  · obtain ⟨k, v, σ1, σ2, k1, k2, k3, k4, k5⟩ := st_addStyle hp (q := xs (i + 1).toNat) (t := 1) (z := xs (i + 3).toNat) (Or.inr rfl)
    refine ⟨σ2, k5, fun σf K b v6 v7 v8 v9 hb => ?_⟩
    refine go_aload_n (at_of tL_law 53 11 rfl) rfl ?_
    refine go_aload_s (at_of tL_law 53 12 rfl) rfl ?_
    refine go_iload (at_of tL_law 53 13 rfl) rfl rfl ?_
    refine go_iconst (at_of tL_law 53 14 rfl) (by unfold in32; omega) ?_
    refine go_iadd (at_of tL_law 53 15 rfl) (by unfold in32; omega) ?_
    refine go_sld (by omega) (by omega) (at_of tL_law 54 0 rfl) ?_
    refine go_aload_s (at_of tL_law 54 1 rfl) rfl ?_
    refine go_iload (at_of tL_law 54 2 rfl) rfl rfl ?_
    refine go_iconst (at_of tL_law 54 3 rfl) (by unfold in32; omega) ?_
    refine go_iadd (at_of tL_law 54 4 rfl) (by unfold in32; omega) ?_
    refine go_sld (by omega) (by omega) (at_of tL_law 54 5 rfl) ?_
    refine go_if_eq (tgt := 1596) (at_of tL_law 54 6 rfl) (by decide) (fun h1589 => ?_) (fun h1589 => ?_)
    · exfalso; omega
    refine go_iconst (at_of tL_law 54 7 rfl) (by unfold in32; omega) ?_
    refine go_goto (tgt := 1597) (at_of tL_law 54 8 rfl) (by decide) ?_
    refine go_aload_s (at_of tL_law 54 10 rfl) rfl ?_
    refine go_iload (at_of tL_law 54 11 rfl) rfl rfl ?_
    refine go_iconst (at_of tL_law 54 12 rfl) (by unfold in32; omega) ?_
    refine go_iadd (at_of tL_law 54 13 rfl) (by unfold in32; omega) ?_
    refine go_sld (by omega) (by omega) (at_of tL_law 54 14 rfl) ?_
    refine go_aload_n (at_of tL_law 54 15 rfl) rfl ?_
    refine go_cX (k1) lk_L_253 rfl (at_of tL_law 55 0 rfl) rfl (by decide) rfl (Nat.le_of_ble_eq_true rfl) rfl (by first | decide | exact ⟨Nat.zero_le _, Nat.zero_le _⟩ | omega) ?_
    refine go_istore (at_of tL_law 55 1 rfl) rfl rfl ?_
    refine go_aload_n (at_of tL_law 55 2 rfl) rfl ?_
    refine go_aload_s (at_of tL_law 55 3 rfl) rfl ?_
    refine go_iload (at_of tL_law 55 4 rfl) rfl rfl ?_
    refine go_iconst (at_of tL_law 55 5 rfl) (by unfold in32; omega) ?_
    refine go_iadd (at_of tL_law 55 6 rfl) (by unfold in32; omega) ?_
    refine go_sld (by omega) (by omega) (at_of tL_law 55 7 rfl) ?_
    refine go_aload_s (at_of tL_law 55 8 rfl) rfl ?_
    refine go_iload (at_of tL_law 55 9 rfl) rfl rfl ?_
    refine go_iconst (at_of tL_law 55 10 rfl) (by unfold in32; omega) ?_
    refine go_iadd (at_of tL_law 55 11 rfl) (by unfold in32; omega) ?_
    refine go_sld (by omega) (by omega) (at_of tL_law 55 12 rfl) ?_
    refine go_if_eq (tgt := 1629) (at_of tL_law 55 13 rfl) (by decide) (fun h1622 => ?_) (fun h1622 => ?_)
    · exfalso; omega
    refine go_iconst (at_of tL_law 55 14 rfl) (by unfold in32; omega) ?_
    refine go_goto (tgt := 1630) (at_of tL_law 55 15 rfl) (by decide) ?_
    refine go_aload_s (at_of tL_law 56 1 rfl) rfl ?_
    refine go_iload (at_of tL_law 56 2 rfl) rfl rfl ?_
    refine go_iconst (at_of tL_law 56 3 rfl) (by unfold in32; omega) ?_
    refine go_iadd (at_of tL_law 56 4 rfl) (by unfold in32; omega) ?_
    refine go_sld (by omega) (by omega) (at_of tL_law 56 5 rfl) ?_
    refine go_cV (k2) lk_L_256 rfl G_109 (at_of tL_law 56 6 rfl) rfl (by decide) rfl (Nat.le_of_ble_eq_true rfl) rfl (by first | decide | exact ⟨Nat.zero_le _, Nat.zero_le _⟩ | omega) ?_
    refine go_istore (at_of tL_law 56 7 rfl) rfl rfl ?_
    refine go_aload_n (at_of tL_law 56 8 rfl) rfl ?_
    refine go_cV (m_thrown) lk_L_175 rfl G_109 (at_of tL_law 56 9 rfl) rfl (by decide) rfl (Nat.le_of_ble_eq_true rfl) rfl (by first | decide | exact ⟨Nat.zero_le _, Nat.zero_le _⟩ | omega) ?_
    refine go_iload (at_of tL_law 56 10 rfl) rfl rfl ?_
    refine go_icmp_eq (tgt := 1652) (at_of tL_law 56 11 rfl) (by decide) (fun h1647 => ?_) (fun h1647 => ?_)
    rotate_left
    · exfalso; omega
    refine go_iload (at_of tL_law 56 14 rfl) rfl rfl ?_
    refine go_if_ne (tgt := 1669) (at_of tL_law 56 15 rfl) (by decide) (fun h1654 => ?_) (fun h1654 => ?_)
    · first
      | exfalso; omega
      | refine go_goto (tgt := 3207) (at_of tL_law 57 9 rfl) (by decide) ?_
        exact law_next ⟨hi, by omega⟩ K (by dsimp only; omega)
    · first
      | exfalso; omega
      | refine go_aload_n (at_of tL_law 57 0 rfl) rfl ?_
        refine go_iconst (at_of tL_law 57 1 rfl) (by unfold in32; omega) ?_
        refine go_lald G_133 (by omega) (by omega) (at_of tL_law 57 2 rfl) ?_
        refine go_iload (at_of tL_law 57 3 rfl) rfl rfl ?_
        refine go_i2l (at_of tL_law 57 4 rfl) ?_
        refine go_lcmp (at_of tL_law 57 5 rfl) ?_
        refine go_if_eq (tgt := 1669) (at_of tL_law 57 6 rfl) (by decide) (fun h1664 => ?_) (fun h1664 => ?_)
        rotate_left
        · exfalso; exact h1664 (cmpZ_eq (k4 (by omega)))
        refine go_goto (tgt := 3207) (at_of tL_law 57 9 rfl) (by decide) ?_
        exact law_next ⟨hi, by omega⟩ K (by dsimp only; omega)
theorem lc_25 (hi : 0 ≤ i) (hz : i + 5 ≤ z) (hz2 : z ≤ 2560) (h : Sim σ) : ∃ σ2, Sim σ2 ∧ ∀ σf, NxtK xs z n (i + 5) σ2 σf → CurK xs z n i 1672 σ σf := by
  obtain ⟨pi, A, ns, nf, hp⟩ := h
  obtain ⟨k, v, σ1, σ2, k1, k2, k3, k4, k5⟩ := st_styleOf hp (p := xs (i + 1).toNat) 
  refine ⟨σ2, k5, fun σf K b v6 v7 v8 v9 hb => ?_⟩
  refine go_aload_n (at_of tL_law 57 10 rfl) rfl ?_
  refine go_aload_s (at_of tL_law 57 11 rfl) rfl ?_
  refine go_iload (at_of tL_law 57 12 rfl) rfl rfl ?_
  refine go_iconst (at_of tL_law 57 13 rfl) (by unfold in32; omega) ?_
  refine go_iadd (at_of tL_law 57 14 rfl) (by unfold in32; omega) ?_
  refine go_sld (by omega) (by omega) (at_of tL_law 57 15 rfl) ?_
  refine go_aload_n (at_of tL_law 58 0 rfl) rfl ?_
  refine go_cX (k1) lk_L_257 rfl (at_of tL_law 58 1 rfl) rfl (by decide) rfl (Nat.le_of_ble_eq_true rfl) rfl (by first | decide | exact ⟨Nat.zero_le _, Nat.zero_le _⟩ | omega) ?_
  refine go_istore (at_of tL_law 58 2 rfl) rfl rfl ?_
  refine go_aload_n (at_of tL_law 58 3 rfl) rfl ?_
  refine go_aload_s (at_of tL_law 58 4 rfl) rfl ?_
  refine go_iload (at_of tL_law 58 5 rfl) rfl rfl ?_
  refine go_iconst (at_of tL_law 58 6 rfl) (by unfold in32; omega) ?_
  refine go_iadd (at_of tL_law 58 7 rfl) (by unfold in32; omega) ?_
  refine go_sld (by omega) (by omega) (at_of tL_law 58 8 rfl) ?_
  refine go_cV (k2) lk_L_259 rfl G_109 (at_of tL_law 58 9 rfl) rfl (by decide) rfl (Nat.le_of_ble_eq_true rfl) rfl (by first | decide | exact ⟨Nat.zero_le _, Nat.zero_le _⟩ | omega) ?_
  refine go_istore (at_of tL_law 58 10 rfl) rfl rfl ?_
  refine go_aload_n (at_of tL_law 58 11 rfl) rfl ?_
  refine go_cV (m_thrown) lk_L_175 rfl G_109 (at_of tL_law 58 12 rfl) rfl (by decide) rfl (Nat.le_of_ble_eq_true rfl) rfl (by first | decide | exact ⟨Nat.zero_le _, Nat.zero_le _⟩ | omega) ?_
  refine go_iload (at_of tL_law 58 13 rfl) rfl rfl ?_
  refine go_icmp_eq (tgt := 1708) (at_of tL_law 58 14 rfl) (by decide) (fun h1703 => ?_) (fun h1703 => ?_)
  rotate_left
  · exfalso; omega
  refine go_iload (at_of tL_law 59 1 rfl) rfl rfl ?_
  refine go_if_ne (tgt := 1725) (at_of tL_law 59 2 rfl) (by decide) (fun h1710 => ?_) (fun h1710 => ?_)
  · first
    | exfalso; omega
    | refine go_goto (tgt := 3207) (at_of tL_law 59 12 rfl) (by decide) ?_
      exact law_next ⟨hi, by omega⟩ K (by dsimp only; omega)
  · first
    | exfalso; omega
    | refine go_aload_n (at_of tL_law 59 3 rfl) rfl ?_
      refine go_iconst (at_of tL_law 59 4 rfl) (by unfold in32; omega) ?_
      refine go_lald G_133 (by omega) (by omega) (at_of tL_law 59 5 rfl) ?_
      refine go_iload (at_of tL_law 59 6 rfl) rfl rfl ?_
      refine go_i2l (at_of tL_law 59 7 rfl) ?_
      refine go_lcmp (at_of tL_law 59 8 rfl) ?_
      refine go_if_eq (tgt := 1725) (at_of tL_law 59 9 rfl) (by decide) (fun h1720 => ?_) (fun h1720 => ?_)
      rotate_left
      · exfalso; exact h1720 (cmpZ_eq (k4 (by omega)))
      refine go_goto (tgt := 3207) (at_of tL_law 59 12 rfl) (by decide) ?_
      exact law_next ⟨hi, by omega⟩ K (by dsimp only; omega)
theorem lc_26 (hi : 0 ≤ i) (hz : i + 5 ≤ z) (hz2 : z ≤ 2560) (h : Sim σ) : ∃ σ2, Sim σ2 ∧ ∀ σf, NxtK xs z n (i + 5) σ2 σf → CurK xs z n i 1728 σ σf := by
  obtain ⟨pi, A, ns, nf, hp⟩ := h
  obtain ⟨k, v, σ1, σ2, k1, k2, k3, k4, k5, k6⟩ := st_isBoldB hp (p := xs (i + 1).toNat) 
  refine ⟨σ2, k5, fun σf K b v6 v7 v8 v9 hb => ?_⟩
  refine go_aload_n (at_of tL_law 59 13 rfl) rfl ?_
  refine go_aload_s (at_of tL_law 59 14 rfl) rfl ?_
  refine go_iload (at_of tL_law 59 15 rfl) rfl rfl ?_
  refine go_iconst (at_of tL_law 60 0 rfl) (by unfold in32; omega) ?_
  refine go_iadd (at_of tL_law 60 1 rfl) (by unfold in32; omega) ?_
  refine go_sld (by omega) (by omega) (at_of tL_law 60 2 rfl) ?_
  refine go_aload_n (at_of tL_law 60 3 rfl) rfl ?_
  refine go_cX (k1) lk_L_260 rfl (at_of tL_law 60 4 rfl) rfl (by decide) rfl (Nat.le_of_ble_eq_true rfl) rfl (by first | decide | exact ⟨Nat.zero_le _, Nat.zero_le _⟩ | omega) ?_
  refine go_istore (at_of tL_law 60 5 rfl) rfl rfl ?_
  refine go_aload_n (at_of tL_law 60 6 rfl) rfl ?_
  refine go_aload_s (at_of tL_law 60 7 rfl) rfl ?_
  refine go_iload (at_of tL_law 60 8 rfl) rfl rfl ?_
  refine go_iconst (at_of tL_law 60 9 rfl) (by unfold in32; omega) ?_
  refine go_iadd (at_of tL_law 60 10 rfl) (by unfold in32; omega) ?_
  refine go_sld (by omega) (by omega) (at_of tL_law 60 11 rfl) ?_
  refine go_cV (k2) lk_L_262 rfl G_109 (at_of tL_law 60 12 rfl) rfl (by decide) rfl (Nat.le_of_ble_eq_true rfl) rfl (by first | decide | exact ⟨Nat.zero_le _, Nat.zero_le _⟩ | omega) ?_
  refine go_istore (at_of tL_law 60 13 rfl) rfl rfl ?_
  refine go_aload_n (at_of tL_law 60 14 rfl) rfl ?_
  refine go_cV (m_thrown) lk_L_175 rfl G_109 (at_of tL_law 60 15 rfl) rfl (by decide) rfl (Nat.le_of_ble_eq_true rfl) rfl (by first | decide | exact ⟨Nat.zero_le _, Nat.zero_le _⟩ | omega) ?_
  refine go_iload (at_of tL_law 61 0 rfl) rfl rfl ?_
  refine go_icmp_eq (tgt := 1764) (at_of tL_law 61 1 rfl) (by decide) (fun h1759 => ?_) (fun h1759 => ?_)
  rotate_left
  · exfalso; omega
  refine go_iload (at_of tL_law 61 4 rfl) rfl rfl ?_
  refine go_if_ne (tgt := 1788) (at_of tL_law 61 5 rfl) (by decide) (fun h1766 => ?_) (fun h1766 => ?_)
  · first
    | exfalso; omega
    | refine go_goto (tgt := 3207) (at_of tL_law 62 2 rfl) (by decide) ?_
      exact law_next ⟨hi, by omega⟩ K (by dsimp only; omega)
  · first
    | exfalso; omega
    | refine go_aload_n (at_of tL_law 61 6 rfl) rfl ?_
      refine go_iconst (at_of tL_law 61 7 rfl) (by unfold in32; omega) ?_
      refine go_lald G_133 (by omega) (by omega) (at_of tL_law 61 8 rfl) ?_
      refine go_iload (at_of tL_law 61 9 rfl) rfl rfl ?_
      refine go_if_eq (tgt := 1781) (at_of tL_law 61 10 rfl) (by decide) (fun h1774 => ?_) (fun h1774 => ?_)
      · first
        | exfalso; omega
        | refine go_lconst (at_of tL_law 61 13 rfl) ?_
          refine go_lcmp (at_of tL_law 61 14 rfl) ?_
          refine go_if_eq (tgt := 1788) (at_of tL_law 61 15 rfl) (by decide) (fun h1783 => ?_) (fun h1783 => ?_)
          rotate_left
          · exfalso; exact h1783 (cmpZ_eq (show σ2.1 133 0 = _ by have := k4 (by omega); have := k6 (by omega); omega))
          refine go_goto (tgt := 3207) (at_of tL_law 62 2 rfl) (by decide) ?_
          exact law_next ⟨hi, by omega⟩ K (by dsimp only; omega)
      · first
        | exfalso; omega
        | refine go_lconst (at_of tL_law 61 11 rfl) ?_
          refine go_goto (tgt := 1782) (at_of tL_law 61 12 rfl) (by decide) ?_
          refine go_lcmp (at_of tL_law 61 14 rfl) ?_
          refine go_if_eq (tgt := 1788) (at_of tL_law 61 15 rfl) (by decide) (fun h1783 => ?_) (fun h1783 => ?_)
          rotate_left
          · exfalso; exact h1783 (cmpZ_eq (show σ2.1 133 0 = _ by have := k4 (by omega); have := k6 (by omega); omega))
          refine go_goto (tgt := 3207) (at_of tL_law 62 2 rfl) (by decide) ?_
          exact law_next ⟨hi, by omega⟩ K (by dsimp only; omega)
theorem lc_27 (hi : 0 ≤ i) (hz : i + 5 ≤ z) (hz2 : z ≤ 2560) (h : Sim σ) : ∃ σ2, Sim σ2 ∧ ∀ σf, NxtK xs z n (i + 5) σ2 σf → CurK xs z n i 1791 σ σf := by
  obtain ⟨pi, A, ns, nf, hp⟩ := h
  obtain ⟨k, v, σ1, σ2, k1, k2, k3, k4, k5⟩ := st_setList hp (p := xs (i + 1).toNat) (l := xs (i + 2).toNat) (v := xs (i + 3).toNat) 
  refine ⟨σ2, k5, fun σf K b v6 v7 v8 v9 hb => ?_⟩
  refine go_aload_n (at_of tL_law 62 3 rfl) rfl ?_
  refine go_aload_s (at_of tL_law 62 4 rfl) rfl ?_
  refine go_iload (at_of tL_law 62 5 rfl) rfl rfl ?_
  refine go_iconst (at_of tL_law 62 6 rfl) (by unfold in32; omega) ?_
  refine go_iadd (at_of tL_law 62 7 rfl) (by unfold in32; omega) ?_
  refine go_sld (by omega) (by omega) (at_of tL_law 62 8 rfl) ?_
  refine go_aload_s (at_of tL_law 62 9 rfl) rfl ?_
  refine go_iload (at_of tL_law 62 10 rfl) rfl rfl ?_
  refine go_iconst (at_of tL_law 62 11 rfl) (by unfold in32; omega) ?_
  refine go_iadd (at_of tL_law 62 12 rfl) (by unfold in32; omega) ?_
  refine go_sld (by omega) (by omega) (at_of tL_law 62 13 rfl) ?_
  refine go_aload_s (at_of tL_law 62 14 rfl) rfl ?_
  refine go_iload (at_of tL_law 62 15 rfl) rfl rfl ?_
  refine go_iconst (at_of tL_law 63 0 rfl) (by unfold in32; omega) ?_
  refine go_iadd (at_of tL_law 63 1 rfl) (by unfold in32; omega) ?_
  refine go_sld (by omega) (by omega) (at_of tL_law 63 2 rfl) ?_
  refine go_aload_n (at_of tL_law 63 3 rfl) rfl ?_
  refine go_cX (k1) lk_L_263 rfl (at_of tL_law 63 4 rfl) rfl (by decide) rfl (Nat.le_of_ble_eq_true rfl) rfl (by first | decide | exact ⟨Nat.zero_le _, Nat.zero_le _⟩ | omega) ?_
  refine go_istore (at_of tL_law 63 5 rfl) rfl rfl ?_
  refine go_aload_n (at_of tL_law 63 6 rfl) rfl ?_
  refine go_aload_s (at_of tL_law 63 7 rfl) rfl ?_
  refine go_iload (at_of tL_law 63 8 rfl) rfl rfl ?_
  refine go_iconst (at_of tL_law 63 9 rfl) (by unfold in32; omega) ?_
  refine go_iadd (at_of tL_law 63 10 rfl) (by unfold in32; omega) ?_
  refine go_sld (by omega) (by omega) (at_of tL_law 63 11 rfl) ?_
  refine go_aload_s (at_of tL_law 63 12 rfl) rfl ?_
  refine go_iload (at_of tL_law 63 13 rfl) rfl rfl ?_
  refine go_iconst (at_of tL_law 63 14 rfl) (by unfold in32; omega) ?_
  refine go_iadd (at_of tL_law 63 15 rfl) (by unfold in32; omega) ?_
  refine go_sld (by omega) (by omega) (at_of tL_law 64 0 rfl) ?_
  refine go_aload_s (at_of tL_law 64 1 rfl) rfl ?_
  refine go_iload (at_of tL_law 64 2 rfl) rfl rfl ?_
  refine go_iconst (at_of tL_law 64 3 rfl) (by unfold in32; omega) ?_
  refine go_iadd (at_of tL_law 64 4 rfl) (by unfold in32; omega) ?_
  refine go_sld (by omega) (by omega) (at_of tL_law 64 5 rfl) ?_
  refine go_cV (k2) lk_L_265 rfl G_109 (at_of tL_law 64 6 rfl) rfl (by decide) rfl (Nat.le_of_ble_eq_true rfl) rfl (by first | decide | exact ⟨Nat.zero_le _, Nat.zero_le _⟩ | omega) ?_
  refine go_istore (at_of tL_law 64 7 rfl) rfl rfl ?_
  refine go_aload_n (at_of tL_law 64 8 rfl) rfl ?_
  refine go_cV (m_thrown) lk_L_175 rfl G_109 (at_of tL_law 64 9 rfl) rfl (by decide) rfl (Nat.le_of_ble_eq_true rfl) rfl (by first | decide | exact ⟨Nat.zero_le _, Nat.zero_le _⟩ | omega) ?_
  refine go_iload (at_of tL_law 64 10 rfl) rfl rfl ?_
  refine go_icmp_eq (tgt := 1851) (at_of tL_law 64 11 rfl) (by decide) (fun h1846 => ?_) (fun h1846 => ?_)
  rotate_left
  · exfalso; omega
  refine go_iload (at_of tL_law 64 14 rfl) rfl rfl ?_
  refine go_if_ne (tgt := 1868) (at_of tL_law 64 15 rfl) (by decide) (fun h1853 => ?_) (fun h1853 => ?_)
  · first
    | exfalso; omega
    | refine go_goto (tgt := 3207) (at_of tL_law 65 9 rfl) (by decide) ?_
      exact law_next ⟨hi, by omega⟩ K (by dsimp only; omega)
  · first
    | exfalso; omega
    | refine go_aload_n (at_of tL_law 65 0 rfl) rfl ?_
      refine go_iconst (at_of tL_law 65 1 rfl) (by unfold in32; omega) ?_
      refine go_lald G_133 (by omega) (by omega) (at_of tL_law 65 2 rfl) ?_
      refine go_iload (at_of tL_law 65 3 rfl) rfl rfl ?_
      refine go_i2l (at_of tL_law 65 4 rfl) ?_
      refine go_lcmp (at_of tL_law 65 5 rfl) ?_
      refine go_if_eq (tgt := 1868) (at_of tL_law 65 6 rfl) (by decide) (fun h1863 => ?_) (fun h1863 => ?_)
      rotate_left
      · exfalso; exact h1863 (cmpZ_eq (k4 (by omega)))
      refine go_goto (tgt := 3207) (at_of tL_law 65 9 rfl) (by decide) ?_
      exact law_next ⟨hi, by omega⟩ K (by dsimp only; omega)
theorem lc_28 (hi : 0 ≤ i) (hz : i + 5 ≤ z) (hz2 : z ≤ 2560) (h : Sim σ) : ∃ σ2, Sim σ2 ∧ ∀ σf, NxtK xs z n (i + 5) σ2 σf → CurK xs z n i 1871 σ σf := by
  obtain ⟨pi, A, ns, nf, hp⟩ := h
  obtain ⟨k, v, σ1, σ2, k1, k2, k3, k4, k5⟩ := st_restart hp (p := xs (i + 1).toNat) (z := xs (i + 2).toNat) 
  refine ⟨σ2, k5, fun σf K b v6 v7 v8 v9 hb => ?_⟩
  refine go_aload_n (at_of tL_law 65 10 rfl) rfl ?_
  refine go_aload_s (at_of tL_law 65 11 rfl) rfl ?_
  refine go_iload (at_of tL_law 65 12 rfl) rfl rfl ?_
  refine go_iconst (at_of tL_law 65 13 rfl) (by unfold in32; omega) ?_
  refine go_iadd (at_of tL_law 65 14 rfl) (by unfold in32; omega) ?_
  refine go_sld (by omega) (by omega) (at_of tL_law 65 15 rfl) ?_
  refine go_aload_s (at_of tL_law 66 0 rfl) rfl ?_
  refine go_iload (at_of tL_law 66 1 rfl) rfl rfl ?_
  refine go_iconst (at_of tL_law 66 2 rfl) (by unfold in32; omega) ?_
  refine go_iadd (at_of tL_law 66 3 rfl) (by unfold in32; omega) ?_
  refine go_sld (by omega) (by omega) (at_of tL_law 66 4 rfl) ?_
  refine go_aload_n (at_of tL_law 66 5 rfl) rfl ?_
  refine go_cX (k1) lk_L_266 rfl (at_of tL_law 66 6 rfl) rfl (by decide) rfl (Nat.le_of_ble_eq_true rfl) rfl (by first | decide | exact ⟨Nat.zero_le _, Nat.zero_le _⟩ | omega) ?_
  refine go_istore (at_of tL_law 66 7 rfl) rfl rfl ?_
  refine go_aload_n (at_of tL_law 66 8 rfl) rfl ?_
  refine go_aload_s (at_of tL_law 66 9 rfl) rfl ?_
  refine go_iload (at_of tL_law 66 10 rfl) rfl rfl ?_
  refine go_iconst (at_of tL_law 66 11 rfl) (by unfold in32; omega) ?_
  refine go_iadd (at_of tL_law 66 12 rfl) (by unfold in32; omega) ?_
  refine go_sld (by omega) (by omega) (at_of tL_law 66 13 rfl) ?_
  refine go_aload_s (at_of tL_law 66 14 rfl) rfl ?_
  refine go_iload (at_of tL_law 66 15 rfl) rfl rfl ?_
  refine go_iconst (at_of tL_law 67 0 rfl) (by unfold in32; omega) ?_
  refine go_iadd (at_of tL_law 67 1 rfl) (by unfold in32; omega) ?_
  refine go_sld (by omega) (by omega) (at_of tL_law 67 2 rfl) ?_
  refine go_cV (k2) lk_L_269 rfl G_109 (at_of tL_law 67 3 rfl) rfl (by decide) rfl (Nat.le_of_ble_eq_true rfl) rfl (by first | decide | exact ⟨Nat.zero_le _, Nat.zero_le _⟩ | omega) ?_
  refine go_istore (at_of tL_law 67 4 rfl) rfl rfl ?_
  refine go_aload_n (at_of tL_law 67 5 rfl) rfl ?_
  refine go_cV (m_thrown) lk_L_175 rfl G_109 (at_of tL_law 67 6 rfl) rfl (by decide) rfl (Nat.le_of_ble_eq_true rfl) rfl (by first | decide | exact ⟨Nat.zero_le _, Nat.zero_le _⟩ | omega) ?_
  refine go_iload (at_of tL_law 67 7 rfl) rfl rfl ?_
  refine go_icmp_eq (tgt := 1919) (at_of tL_law 67 8 rfl) (by decide) (fun h1914 => ?_) (fun h1914 => ?_)
  rotate_left
  · exfalso; omega
  refine go_iload (at_of tL_law 67 11 rfl) rfl rfl ?_
  refine go_if_ne (tgt := 1936) (at_of tL_law 67 12 rfl) (by decide) (fun h1921 => ?_) (fun h1921 => ?_)
  · first
    | exfalso; omega
    | refine go_goto (tgt := 3207) (at_of tL_law 68 6 rfl) (by decide) ?_
      exact law_next ⟨hi, by omega⟩ K (by dsimp only; omega)
  · first
    | exfalso; omega
    | refine go_aload_n (at_of tL_law 67 13 rfl) rfl ?_
      refine go_iconst (at_of tL_law 67 14 rfl) (by unfold in32; omega) ?_
      refine go_lald G_133 (by omega) (by omega) (at_of tL_law 67 15 rfl) ?_
      refine go_iload (at_of tL_law 68 0 rfl) rfl rfl ?_
      refine go_i2l (at_of tL_law 68 1 rfl) ?_
      refine go_lcmp (at_of tL_law 68 2 rfl) ?_
      refine go_if_eq (tgt := 1936) (at_of tL_law 68 3 rfl) (by decide) (fun h1931 => ?_) (fun h1931 => ?_)
      rotate_left
      · exfalso; exact h1931 (cmpZ_eq (k4 (by omega)))
      refine go_goto (tgt := 3207) (at_of tL_law 68 6 rfl) (by decide) ?_
      exact law_next ⟨hi, by omega⟩ K (by dsimp only; omega)
theorem lc_29 (hi : 0 ≤ i) (hz : i + 5 ≤ z) (hz2 : z ≤ 2560) (h : Sim σ) : ∃ σ2, Sim σ2 ∧ ∀ σf, NxtK xs z n (i + 5) σ2 σf → CurK xs z n i 1939 σ σf := by
  obtain ⟨pi, A, ns, nf, hp⟩ := h
  obtain ⟨k, v, σ1, σ2, k1, k2, k3, k4, k5⟩ := st_setKind hp (l := xs (i + 1).toNat) (v := xs (i + 2).toNat) (z := xs (i + 3).toNat % 65536) 
  refine ⟨σ2, k5, fun σf K b v6 v7 v8 v9 hb => ?_⟩
  refine go_aload_n (at_of tL_law 68 7 rfl) rfl ?_
  refine go_aload_s (at_of tL_law 68 8 rfl) rfl ?_
  refine go_iload (at_of tL_law 68 9 rfl) rfl rfl ?_
  refine go_iconst (at_of tL_law 68 10 rfl) (by unfold in32; omega) ?_
  refine go_iadd (at_of tL_law 68 11 rfl) (by unfold in32; omega) ?_
  refine go_sld (by omega) (by omega) (at_of tL_law 68 12 rfl) ?_
  refine go_aload_s (at_of tL_law 68 13 rfl) rfl ?_
  refine go_iload (at_of tL_law 68 14 rfl) rfl rfl ?_
  refine go_iconst (at_of tL_law 68 15 rfl) (by unfold in32; omega) ?_
  refine go_iadd (at_of tL_law 69 0 rfl) (by unfold in32; omega) ?_
  refine go_sld (by omega) (by omega) (at_of tL_law 69 1 rfl) ?_
  refine go_aload_s (at_of tL_law 69 2 rfl) rfl ?_
  refine go_iload (at_of tL_law 69 3 rfl) rfl rfl ?_
  refine go_iconst (at_of tL_law 69 4 rfl) (by unfold in32; omega) ?_
  refine go_iadd (at_of tL_law 69 5 rfl) (by unfold in32; omega) ?_
  refine go_sld (by omega) (by omega) (at_of tL_law 69 6 rfl) ?_
  refine go_i2c (at_of tL_law 69 7 rfl) ?_
  refine go_aload_n (at_of tL_law 69 8 rfl) rfl ?_
  refine go_cX (k1) lk_L_270 rfl (at_of tL_law 69 9 rfl) rfl (by decide) rfl (Nat.le_of_ble_eq_true rfl) rfl (by first | decide | exact ⟨Nat.zero_le _, Nat.zero_le _⟩ | omega) ?_
  refine go_istore (at_of tL_law 69 10 rfl) rfl rfl ?_
  refine go_aload_n (at_of tL_law 69 11 rfl) rfl ?_
  refine go_aload_s (at_of tL_law 69 12 rfl) rfl ?_
  refine go_iload (at_of tL_law 69 13 rfl) rfl rfl ?_
  refine go_iconst (at_of tL_law 69 14 rfl) (by unfold in32; omega) ?_
  refine go_iadd (at_of tL_law 69 15 rfl) (by unfold in32; omega) ?_
  refine go_sld (by omega) (by omega) (at_of tL_law 70 0 rfl) ?_
  refine go_aload_s (at_of tL_law 70 1 rfl) rfl ?_
  refine go_iload (at_of tL_law 70 2 rfl) rfl rfl ?_
  refine go_iconst (at_of tL_law 70 3 rfl) (by unfold in32; omega) ?_
  refine go_iadd (at_of tL_law 70 4 rfl) (by unfold in32; omega) ?_
  refine go_sld (by omega) (by omega) (at_of tL_law 70 5 rfl) ?_
  refine go_aload_s (at_of tL_law 70 6 rfl) rfl ?_
  refine go_iload (at_of tL_law 70 7 rfl) rfl rfl ?_
  refine go_iconst (at_of tL_law 70 8 rfl) (by unfold in32; omega) ?_
  refine go_iadd (at_of tL_law 70 9 rfl) (by unfold in32; omega) ?_
  refine go_sld (by omega) (by omega) (at_of tL_law 70 10 rfl) ?_
  refine go_i2c (at_of tL_law 70 11 rfl) ?_
  refine go_cV (k2) lk_L_272 rfl G_109 (at_of tL_law 70 12 rfl) rfl (by decide) rfl (Nat.le_of_ble_eq_true rfl) rfl (by first | decide | exact ⟨Nat.zero_le _, Nat.zero_le _⟩ | omega) ?_
  refine go_istore (at_of tL_law 70 13 rfl) rfl rfl ?_
  refine go_aload_n (at_of tL_law 70 14 rfl) rfl ?_
  refine go_cV (m_thrown) lk_L_175 rfl G_109 (at_of tL_law 70 15 rfl) rfl (by decide) rfl (Nat.le_of_ble_eq_true rfl) rfl (by first | decide | exact ⟨Nat.zero_le _, Nat.zero_le _⟩ | omega) ?_
  refine go_iload (at_of tL_law 71 0 rfl) rfl rfl ?_
  refine go_icmp_eq (tgt := 2001) (at_of tL_law 71 1 rfl) (by decide) (fun h1996 => ?_) (fun h1996 => ?_)
  rotate_left
  · exfalso; omega
  refine go_iload (at_of tL_law 71 4 rfl) rfl rfl ?_
  refine go_if_ne (tgt := 2018) (at_of tL_law 71 5 rfl) (by decide) (fun h2003 => ?_) (fun h2003 => ?_)
  · first
    | exfalso; omega
    | refine go_goto (tgt := 3207) (at_of tL_law 71 15 rfl) (by decide) ?_
      exact law_next ⟨hi, by omega⟩ K (by dsimp only; omega)
  · first
    | exfalso; omega
    | refine go_aload_n (at_of tL_law 71 6 rfl) rfl ?_
      refine go_iconst (at_of tL_law 71 7 rfl) (by unfold in32; omega) ?_
      refine go_lald G_133 (by omega) (by omega) (at_of tL_law 71 8 rfl) ?_
      refine go_iload (at_of tL_law 71 9 rfl) rfl rfl ?_
      refine go_i2l (at_of tL_law 71 10 rfl) ?_
      refine go_lcmp (at_of tL_law 71 11 rfl) ?_
      refine go_if_eq (tgt := 2018) (at_of tL_law 71 12 rfl) (by decide) (fun h2013 => ?_) (fun h2013 => ?_)
      rotate_left
      · exfalso; exact h2013 (cmpZ_eq (k4 (by omega)))
      refine go_goto (tgt := 3207) (at_of tL_law 71 15 rfl) (by decide) ?_
      exact law_next ⟨hi, by omega⟩ K (by dsimp only; omega)
theorem lc_30 (hi : 0 ≤ i) (hz : i + 5 ≤ z) (hz2 : z ≤ 2560) (h : Sim σ) : ∃ σ2, Sim σ2 ∧ ∀ σf, NxtK xs z n (i + 5) σ2 σf → CurK xs z n i 2021 σ σf := by
  obtain ⟨pi, A, ns, nf, hp⟩ := h
  by_cases hbl : xs (i + 2).toNat = 0
  · obtain ⟨k, v, σ1, σ2, k1, k2, k3, k4, k5, k6⟩ := st_setLegalB hp (l := xs (i + 1).toNat) (z := 0) (Or.inl rfl)
    refine ⟨σ2, k5, fun σf K b v6 v7 v8 v9 hb => ?_⟩
    refine go_aload_n (at_of tL_law 72 0 rfl) rfl ?_
    refine go_aload_s (at_of tL_law 72 1 rfl) rfl ?_
    refine go_iload (at_of tL_law 72 2 rfl) rfl rfl ?_
    refine go_iconst (at_of tL_law 72 3 rfl) (by unfold in32; omega) ?_
    refine go_iadd (at_of tL_law 72 4 rfl) (by unfold in32; omega) ?_
    refine go_sld (by omega) (by omega) (at_of tL_law 72 5 rfl) ?_
    refine go_aload_s (at_of tL_law 72 6 rfl) rfl ?_
    refine go_iload (at_of tL_law 72 7 rfl) rfl rfl ?_
    refine go_iconst (at_of tL_law 72 8 rfl) (by unfold in32; omega) ?_
    refine go_iadd (at_of tL_law 72 9 rfl) (by unfold in32; omega) ?_
    refine go_sld (by omega) (by omega) (at_of tL_law 72 10 rfl) ?_
    refine go_if_eq (tgt := 2041) (at_of tL_law 72 11 rfl) (by decide) (fun h2034 => ?_) (fun h2034 => ?_)
    rotate_left
    · exfalso; omega
    refine go_iconst (at_of tL_law 72 14 rfl) (by unfold in32; omega) ?_
    refine go_aload_n (at_of tL_law 72 15 rfl) rfl ?_
    refine go_cX (k1) lk_L_273 rfl (at_of tL_law 73 0 rfl) rfl (by decide) rfl (Nat.le_of_ble_eq_true rfl) rfl (by first | decide | exact ⟨Nat.zero_le _, Nat.zero_le _⟩ | omega) ?_
    refine go_istore (at_of tL_law 73 1 rfl) rfl rfl ?_
    refine go_aload_n (at_of tL_law 73 2 rfl) rfl ?_
    refine go_aload_s (at_of tL_law 73 3 rfl) rfl ?_
    refine go_iload (at_of tL_law 73 4 rfl) rfl rfl ?_
    refine go_iconst (at_of tL_law 73 5 rfl) (by unfold in32; omega) ?_
    refine go_iadd (at_of tL_law 73 6 rfl) (by unfold in32; omega) ?_
    refine go_sld (by omega) (by omega) (at_of tL_law 73 7 rfl) ?_
    refine go_aload_s (at_of tL_law 73 8 rfl) rfl ?_
    refine go_iload (at_of tL_law 73 9 rfl) rfl rfl ?_
    refine go_iconst (at_of tL_law 73 10 rfl) (by unfold in32; omega) ?_
    refine go_iadd (at_of tL_law 73 11 rfl) (by unfold in32; omega) ?_
    refine go_sld (by omega) (by omega) (at_of tL_law 73 12 rfl) ?_
    refine go_if_eq (tgt := 2068) (at_of tL_law 73 13 rfl) (by decide) (fun h2061 => ?_) (fun h2061 => ?_)
    rotate_left
    · exfalso; omega
    refine go_iconst (at_of tL_law 74 0 rfl) (by unfold in32; omega) ?_
    refine go_cV (k2) lk_L_275 rfl G_109 (at_of tL_law 74 1 rfl) rfl (by decide) rfl (Nat.le_of_ble_eq_true rfl) rfl (by first | decide | exact ⟨Nat.zero_le _, Nat.zero_le _⟩ | omega) ?_
    refine go_istore (at_of tL_law 74 2 rfl) rfl rfl ?_
    refine go_aload_n (at_of tL_law 74 3 rfl) rfl ?_
    refine go_cV (m_thrown) lk_L_175 rfl G_109 (at_of tL_law 74 4 rfl) rfl (by decide) rfl (Nat.le_of_ble_eq_true rfl) rfl (by first | decide | exact ⟨Nat.zero_le _, Nat.zero_le _⟩ | omega) ?_
    refine go_iload (at_of tL_law 74 5 rfl) rfl rfl ?_
    refine go_icmp_eq (tgt := 2085) (at_of tL_law 74 6 rfl) (by decide) (fun h2080 => ?_) (fun h2080 => ?_)
    rotate_left
    · exfalso; omega
    refine go_iload (at_of tL_law 74 9 rfl) rfl rfl ?_
    refine go_if_ne (tgt := 2109) (at_of tL_law 74 10 rfl) (by decide) (fun h2087 => ?_) (fun h2087 => ?_)
    · first
      | exfalso; omega
      | refine go_goto (tgt := 3207) (at_of tL_law 75 7 rfl) (by decide) ?_
        exact law_next ⟨hi, by omega⟩ K (by dsimp only; omega)
    · first
      | exfalso; omega
      | refine go_aload_n (at_of tL_law 74 11 rfl) rfl ?_
        refine go_iconst (at_of tL_law 74 12 rfl) (by unfold in32; omega) ?_
        refine go_lald G_133 (by omega) (by omega) (at_of tL_law 74 13 rfl) ?_
        refine go_iload (at_of tL_law 74 14 rfl) rfl rfl ?_
        refine go_if_eq (tgt := 2102) (at_of tL_law 74 15 rfl) (by decide) (fun h2095 => ?_) (fun h2095 => ?_)
        · first
          | exfalso; omega
          | refine go_lconst (at_of tL_law 75 2 rfl) ?_
            refine go_lcmp (at_of tL_law 75 3 rfl) ?_
            refine go_if_eq (tgt := 2109) (at_of tL_law 75 4 rfl) (by decide) (fun h2104 => ?_) (fun h2104 => ?_)
            rotate_left
            · exfalso; exact h2104 (cmpZ_eq (show σ2.1 133 0 = _ by have := k4 (by omega); have := k6 (by omega); omega))
            refine go_goto (tgt := 3207) (at_of tL_law 75 7 rfl) (by decide) ?_
            exact law_next ⟨hi, by omega⟩ K (by dsimp only; omega)
        · first
          | exfalso; omega
          | refine go_lconst (at_of tL_law 75 0 rfl) ?_
            refine go_goto (tgt := 2103) (at_of tL_law 75 1 rfl) (by decide) ?_
            refine go_lcmp (at_of tL_law 75 3 rfl) ?_
            refine go_if_eq (tgt := 2109) (at_of tL_law 75 4 rfl) (by decide) (fun h2104 => ?_) (fun h2104 => ?_)
            rotate_left
            · exfalso; exact h2104 (cmpZ_eq (show σ2.1 133 0 = _ by have := k4 (by omega); have := k6 (by omega); omega))
            refine go_goto (tgt := 3207) (at_of tL_law 75 7 rfl) (by decide) ?_
            exact law_next ⟨hi, by omega⟩ K (by dsimp only; omega)
  · obtain ⟨k, v, σ1, σ2, k1, k2, k3, k4, k5, k6⟩ := st_setLegalB hp (l := xs (i + 1).toNat) (z := 1) (Or.inr rfl)
    refine ⟨σ2, k5, fun σf K b v6 v7 v8 v9 hb => ?_⟩
    refine go_aload_n (at_of tL_law 72 0 rfl) rfl ?_
    refine go_aload_s (at_of tL_law 72 1 rfl) rfl ?_
    refine go_iload (at_of tL_law 72 2 rfl) rfl rfl ?_
    refine go_iconst (at_of tL_law 72 3 rfl) (by unfold in32; omega) ?_
    refine go_iadd (at_of tL_law 72 4 rfl) (by unfold in32; omega) ?_
    refine go_sld (by omega) (by omega) (at_of tL_law 72 5 rfl) ?_
    refine go_aload_s (at_of tL_law 72 6 rfl) rfl ?_
    refine go_iload (at_of tL_law 72 7 rfl) rfl rfl ?_
    refine go_iconst (at_of tL_law 72 8 rfl) (by unfold in32; omega) ?_
    refine go_iadd (at_of tL_law 72 9 rfl) (by unfold in32; omega) ?_
    refine go_sld (by omega) (by omega) (at_of tL_law 72 10 rfl) ?_
    refine go_if_eq (tgt := 2041) (at_of tL_law 72 11 rfl) (by decide) (fun h2034 => ?_) (fun h2034 => ?_)
    · exfalso; omega
    refine go_iconst (at_of tL_law 72 12 rfl) (by unfold in32; omega) ?_
    refine go_goto (tgt := 2042) (at_of tL_law 72 13 rfl) (by decide) ?_
    refine go_aload_n (at_of tL_law 72 15 rfl) rfl ?_
    refine go_cX (k1) lk_L_273 rfl (at_of tL_law 73 0 rfl) rfl (by decide) rfl (Nat.le_of_ble_eq_true rfl) rfl (by first | decide | exact ⟨Nat.zero_le _, Nat.zero_le _⟩ | omega) ?_
    refine go_istore (at_of tL_law 73 1 rfl) rfl rfl ?_
    refine go_aload_n (at_of tL_law 73 2 rfl) rfl ?_
    refine go_aload_s (at_of tL_law 73 3 rfl) rfl ?_
    refine go_iload (at_of tL_law 73 4 rfl) rfl rfl ?_
    refine go_iconst (at_of tL_law 73 5 rfl) (by unfold in32; omega) ?_
    refine go_iadd (at_of tL_law 73 6 rfl) (by unfold in32; omega) ?_
    refine go_sld (by omega) (by omega) (at_of tL_law 73 7 rfl) ?_
    refine go_aload_s (at_of tL_law 73 8 rfl) rfl ?_
    refine go_iload (at_of tL_law 73 9 rfl) rfl rfl ?_
    refine go_iconst (at_of tL_law 73 10 rfl) (by unfold in32; omega) ?_
    refine go_iadd (at_of tL_law 73 11 rfl) (by unfold in32; omega) ?_
    refine go_sld (by omega) (by omega) (at_of tL_law 73 12 rfl) ?_
    refine go_if_eq (tgt := 2068) (at_of tL_law 73 13 rfl) (by decide) (fun h2061 => ?_) (fun h2061 => ?_)
    · exfalso; omega
    refine go_iconst (at_of tL_law 73 14 rfl) (by unfold in32; omega) ?_
    refine go_goto (tgt := 2069) (at_of tL_law 73 15 rfl) (by decide) ?_
    refine go_cV (k2) lk_L_275 rfl G_109 (at_of tL_law 74 1 rfl) rfl (by decide) rfl (Nat.le_of_ble_eq_true rfl) rfl (by first | decide | exact ⟨Nat.zero_le _, Nat.zero_le _⟩ | omega) ?_
    refine go_istore (at_of tL_law 74 2 rfl) rfl rfl ?_
    refine go_aload_n (at_of tL_law 74 3 rfl) rfl ?_
    refine go_cV (m_thrown) lk_L_175 rfl G_109 (at_of tL_law 74 4 rfl) rfl (by decide) rfl (Nat.le_of_ble_eq_true rfl) rfl (by first | decide | exact ⟨Nat.zero_le _, Nat.zero_le _⟩ | omega) ?_
    refine go_iload (at_of tL_law 74 5 rfl) rfl rfl ?_
    refine go_icmp_eq (tgt := 2085) (at_of tL_law 74 6 rfl) (by decide) (fun h2080 => ?_) (fun h2080 => ?_)
    rotate_left
    · exfalso; omega
    refine go_iload (at_of tL_law 74 9 rfl) rfl rfl ?_
    refine go_if_ne (tgt := 2109) (at_of tL_law 74 10 rfl) (by decide) (fun h2087 => ?_) (fun h2087 => ?_)
    · first
      | exfalso; omega
      | refine go_goto (tgt := 3207) (at_of tL_law 75 7 rfl) (by decide) ?_
        exact law_next ⟨hi, by omega⟩ K (by dsimp only; omega)
    · first
      | exfalso; omega
      | refine go_aload_n (at_of tL_law 74 11 rfl) rfl ?_
        refine go_iconst (at_of tL_law 74 12 rfl) (by unfold in32; omega) ?_
        refine go_lald G_133 (by omega) (by omega) (at_of tL_law 74 13 rfl) ?_
        refine go_iload (at_of tL_law 74 14 rfl) rfl rfl ?_
        refine go_if_eq (tgt := 2102) (at_of tL_law 74 15 rfl) (by decide) (fun h2095 => ?_) (fun h2095 => ?_)
        · first
          | exfalso; omega
          | refine go_lconst (at_of tL_law 75 2 rfl) ?_
            refine go_lcmp (at_of tL_law 75 3 rfl) ?_
            refine go_if_eq (tgt := 2109) (at_of tL_law 75 4 rfl) (by decide) (fun h2104 => ?_) (fun h2104 => ?_)
            rotate_left
            · exfalso; exact h2104 (cmpZ_eq (show σ2.1 133 0 = _ by have := k4 (by omega); have := k6 (by omega); omega))
            refine go_goto (tgt := 3207) (at_of tL_law 75 7 rfl) (by decide) ?_
            exact law_next ⟨hi, by omega⟩ K (by dsimp only; omega)
        · first
          | exfalso; omega
          | refine go_lconst (at_of tL_law 75 0 rfl) ?_
            refine go_goto (tgt := 2103) (at_of tL_law 75 1 rfl) (by decide) ?_
            refine go_lcmp (at_of tL_law 75 3 rfl) ?_
            refine go_if_eq (tgt := 2109) (at_of tL_law 75 4 rfl) (by decide) (fun h2104 => ?_) (fun h2104 => ?_)
            rotate_left
            · exfalso; exact h2104 (cmpZ_eq (show σ2.1 133 0 = _ by have := k4 (by omega); have := k6 (by omega); omega))
            refine go_goto (tgt := 3207) (at_of tL_law 75 7 rfl) (by decide) ?_
            exact law_next ⟨hi, by omega⟩ K (by dsimp only; omega)
theorem lc_31 (hi : 0 ≤ i) (hz : i + 5 ≤ z) (hz2 : z ≤ 2560) (h : Sim σ) : ∃ σ2, Sim σ2 ∧ ∀ σf, NxtK xs z n (i + 5) σ2 σf → CurK xs z n i 2112 σ σf := by
  obtain ⟨pi, A, ns, nf, hp⟩ := h
  obtain ⟨k, v, σ1, σ2, k1, k2, k3, k4, k5⟩ := st_numberOf hp (p := xs (i + 1).toNat) 
  refine ⟨σ2, k5, fun σf K b v6 v7 v8 v9 hb => ?_⟩
  refine go_aload_n (at_of tL_law 75 8 rfl) rfl ?_
  refine go_aload_s (at_of tL_law 75 9 rfl) rfl ?_
  refine go_iload (at_of tL_law 75 10 rfl) rfl rfl ?_
  refine go_iconst (at_of tL_law 75 11 rfl) (by unfold in32; omega) ?_
  refine go_iadd (at_of tL_law 75 12 rfl) (by unfold in32; omega) ?_
  refine go_sld (by omega) (by omega) (at_of tL_law 75 13 rfl) ?_
  refine go_aload_n (at_of tL_law 75 14 rfl) rfl ?_
  refine go_cX (k1) lk_L_276 rfl (at_of tL_law 75 15 rfl) rfl (by decide) rfl (Nat.le_of_ble_eq_true rfl) rfl (by first | decide | exact ⟨Nat.zero_le _, Nat.zero_le _⟩ | omega) ?_
  refine go_istore (at_of tL_law 76 0 rfl) rfl rfl ?_
  refine go_aload_n (at_of tL_law 76 1 rfl) rfl ?_
  refine go_aload_s (at_of tL_law 76 2 rfl) rfl ?_
  refine go_iload (at_of tL_law 76 3 rfl) rfl rfl ?_
  refine go_iconst (at_of tL_law 76 4 rfl) (by unfold in32; omega) ?_
  refine go_iadd (at_of tL_law 76 5 rfl) (by unfold in32; omega) ?_
  refine go_sld (by omega) (by omega) (at_of tL_law 76 6 rfl) ?_
  refine go_cV (k2) lk_L_278 rfl G_109 (at_of tL_law 76 7 rfl) rfl (by decide) rfl (Nat.le_of_ble_eq_true rfl) rfl (by first | decide | exact ⟨Nat.zero_le _, Nat.zero_le _⟩ | omega) ?_
  refine go_istore (at_of tL_law 76 8 rfl) rfl rfl ?_
  refine go_aload_n (at_of tL_law 76 9 rfl) rfl ?_
  refine go_cV (m_thrown) lk_L_175 rfl G_109 (at_of tL_law 76 10 rfl) rfl (by decide) rfl (Nat.le_of_ble_eq_true rfl) rfl (by first | decide | exact ⟨Nat.zero_le _, Nat.zero_le _⟩ | omega) ?_
  refine go_iload (at_of tL_law 76 11 rfl) rfl rfl ?_
  refine go_icmp_eq (tgt := 2148) (at_of tL_law 76 12 rfl) (by decide) (fun h2143 => ?_) (fun h2143 => ?_)
  rotate_left
  · exfalso; omega
  refine go_iload (at_of tL_law 76 15 rfl) rfl rfl ?_
  refine go_if_ne (tgt := 2165) (at_of tL_law 77 0 rfl) (by decide) (fun h2150 => ?_) (fun h2150 => ?_)
  · first
    | exfalso; omega
    | refine go_goto (tgt := 3207) (at_of tL_law 77 10 rfl) (by decide) ?_
      exact law_next ⟨hi, by omega⟩ K (by dsimp only; omega)
  · first
    | exfalso; omega
    | refine go_aload_n (at_of tL_law 77 1 rfl) rfl ?_
      refine go_iconst (at_of tL_law 77 2 rfl) (by unfold in32; omega) ?_
      refine go_lald G_133 (by omega) (by omega) (at_of tL_law 77 3 rfl) ?_
      refine go_iload (at_of tL_law 77 4 rfl) rfl rfl ?_
      refine go_i2l (at_of tL_law 77 5 rfl) ?_
      refine go_lcmp (at_of tL_law 77 6 rfl) ?_
      refine go_if_eq (tgt := 2165) (at_of tL_law 77 7 rfl) (by decide) (fun h2160 => ?_) (fun h2160 => ?_)
      rotate_left
      · exfalso; exact h2160 (cmpZ_eq (k4 (by omega)))
      refine go_goto (tgt := 3207) (at_of tL_law 77 10 rfl) (by decide) ?_
      exact law_next ⟨hi, by omega⟩ K (by dsimp only; omega)
theorem lc_32 (hi : 0 ≤ i) (hz : i + 5 ≤ z) (hz2 : z ≤ 2560) (h : Sim σ) : ∃ σ2, Sim σ2 ∧ ∀ σf, NxtK xs z n (i + 5) σ2 σf → CurK xs z n i 2168 σ σf := by
  obtain ⟨pi, A, ns, nf, hp⟩ := h
  obtain ⟨k, v, σ1, σ2, k1, k2, k3, k4, k5⟩ := st_writeNumber hp (p := xs (i + 1).toNat) 
  refine ⟨σ2, k5, fun σf K b v6 v7 v8 v9 hb => ?_⟩
  refine go_aload_n (at_of tL_law 77 11 rfl) rfl ?_
  refine go_aload_s (at_of tL_law 77 12 rfl) rfl ?_
  refine go_iload (at_of tL_law 77 13 rfl) rfl rfl ?_
  refine go_iconst (at_of tL_law 77 14 rfl) (by unfold in32; omega) ?_
  refine go_iadd (at_of tL_law 77 15 rfl) (by unfold in32; omega) ?_
  refine go_sld (by omega) (by omega) (at_of tL_law 78 0 rfl) ?_
  refine go_aload_n (at_of tL_law 78 1 rfl) rfl ?_
  refine go_cX (k1) lk_L_279 rfl (at_of tL_law 78 2 rfl) rfl (by decide) rfl (Nat.le_of_ble_eq_true rfl) rfl (by first | decide | exact ⟨Nat.zero_le _, Nat.zero_le _⟩ | omega) ?_
  refine go_istore (at_of tL_law 78 3 rfl) rfl rfl ?_
  refine go_aload_n (at_of tL_law 78 4 rfl) rfl ?_
  refine go_aload_s (at_of tL_law 78 5 rfl) rfl ?_
  refine go_iload (at_of tL_law 78 6 rfl) rfl rfl ?_
  refine go_iconst (at_of tL_law 78 7 rfl) (by unfold in32; omega) ?_
  refine go_iadd (at_of tL_law 78 8 rfl) (by unfold in32; omega) ?_
  refine go_sld (by omega) (by omega) (at_of tL_law 78 9 rfl) ?_
  refine go_cV (k2) lk_L_281 rfl G_109 (at_of tL_law 78 10 rfl) rfl (by decide) rfl (Nat.le_of_ble_eq_true rfl) rfl (by first | decide | exact ⟨Nat.zero_le _, Nat.zero_le _⟩ | omega) ?_
  refine go_istore (at_of tL_law 78 11 rfl) rfl rfl ?_
  refine go_aload_n (at_of tL_law 78 12 rfl) rfl ?_
  refine go_cV (m_thrown) lk_L_175 rfl G_109 (at_of tL_law 78 13 rfl) rfl (by decide) rfl (Nat.le_of_ble_eq_true rfl) rfl (by first | decide | exact ⟨Nat.zero_le _, Nat.zero_le _⟩ | omega) ?_
  refine go_iload (at_of tL_law 78 14 rfl) rfl rfl ?_
  refine go_icmp_eq (tgt := 2204) (at_of tL_law 78 15 rfl) (by decide) (fun h2199 => ?_) (fun h2199 => ?_)
  rotate_left
  · exfalso; omega
  refine go_iload (at_of tL_law 79 2 rfl) rfl rfl ?_
  refine go_if_ne (tgt := 2221) (at_of tL_law 79 3 rfl) (by decide) (fun h2206 => ?_) (fun h2206 => ?_)
  · first
    | exfalso; omega
    | refine go_goto (tgt := 3207) (at_of tL_law 79 13 rfl) (by decide) ?_
      exact law_next ⟨hi, by omega⟩ K (by dsimp only; omega)
  · first
    | exfalso; omega
    | refine go_aload_n (at_of tL_law 79 4 rfl) rfl ?_
      refine go_iconst (at_of tL_law 79 5 rfl) (by unfold in32; omega) ?_
      refine go_lald G_133 (by omega) (by omega) (at_of tL_law 79 6 rfl) ?_
      refine go_iload (at_of tL_law 79 7 rfl) rfl rfl ?_
      refine go_i2l (at_of tL_law 79 8 rfl) ?_
      refine go_lcmp (at_of tL_law 79 9 rfl) ?_
      refine go_if_eq (tgt := 2221) (at_of tL_law 79 10 rfl) (by decide) (fun h2216 => ?_) (fun h2216 => ?_)
      rotate_left
      · exfalso; exact h2216 (cmpZ_eq (k4 (by omega)))
      refine go_goto (tgt := 3207) (at_of tL_law 79 13 rfl) (by decide) ?_
      exact law_next ⟨hi, by omega⟩ K (by dsimp only; omega)
theorem lc_33 (hi : 0 ≤ i) (hz : i + 5 ≤ z) (hz2 : z ≤ 2560) (h : Sim σ) : ∃ σ2, Sim σ2 ∧ ∀ σf, NxtK xs z n (i + 5) σ2 σf → CurK xs z n i 2224 σ σf := by
  obtain ⟨pi, A, ns, nf, hp⟩ := h
  obtain ⟨k, v, σ1, σ2, k1, k2, k3, k4, k5⟩ := st_lineAt hp (i := xs (i + 1).toNat) 
  refine ⟨σ2, k5, fun σf K b v6 v7 v8 v9 hb => ?_⟩
  refine go_aload_n (at_of tL_law 79 14 rfl) rfl ?_
  refine go_aload_s (at_of tL_law 79 15 rfl) rfl ?_
  refine go_iload (at_of tL_law 80 0 rfl) rfl rfl ?_
  refine go_iconst (at_of tL_law 80 1 rfl) (by unfold in32; omega) ?_
  refine go_iadd (at_of tL_law 80 2 rfl) (by unfold in32; omega) ?_
  refine go_sld (by omega) (by omega) (at_of tL_law 80 3 rfl) ?_
  refine go_aload_n (at_of tL_law 80 4 rfl) rfl ?_
  refine go_cX (k1) lk_L_282 rfl (at_of tL_law 80 5 rfl) rfl (by decide) rfl (Nat.le_of_ble_eq_true rfl) rfl (by first | decide | exact ⟨Nat.zero_le _, Nat.zero_le _⟩ | omega) ?_
  refine go_istore (at_of tL_law 80 6 rfl) rfl rfl ?_
  refine go_aload_n (at_of tL_law 80 7 rfl) rfl ?_
  refine go_aload_s (at_of tL_law 80 8 rfl) rfl ?_
  refine go_iload (at_of tL_law 80 9 rfl) rfl rfl ?_
  refine go_iconst (at_of tL_law 80 10 rfl) (by unfold in32; omega) ?_
  refine go_iadd (at_of tL_law 80 11 rfl) (by unfold in32; omega) ?_
  refine go_sld (by omega) (by omega) (at_of tL_law 80 12 rfl) ?_
  refine go_cV (k2) lk_L_284 rfl G_109 (at_of tL_law 80 13 rfl) rfl (by decide) rfl (Nat.le_of_ble_eq_true rfl) rfl (by first | decide | exact ⟨Nat.zero_le _, Nat.zero_le _⟩ | omega) ?_
  refine go_istore (at_of tL_law 80 14 rfl) rfl rfl ?_
  refine go_aload_n (at_of tL_law 80 15 rfl) rfl ?_
  refine go_cV (m_thrown) lk_L_175 rfl G_109 (at_of tL_law 81 0 rfl) rfl (by decide) rfl (Nat.le_of_ble_eq_true rfl) rfl (by first | decide | exact ⟨Nat.zero_le _, Nat.zero_le _⟩ | omega) ?_
  refine go_iload (at_of tL_law 81 1 rfl) rfl rfl ?_
  refine go_icmp_eq (tgt := 2260) (at_of tL_law 81 2 rfl) (by decide) (fun h2255 => ?_) (fun h2255 => ?_)
  rotate_left
  · exfalso; omega
  refine go_iload (at_of tL_law 81 5 rfl) rfl rfl ?_
  refine go_if_ne (tgt := 2277) (at_of tL_law 81 6 rfl) (by decide) (fun h2262 => ?_) (fun h2262 => ?_)
  · first
    | exfalso; omega
    | refine go_goto (tgt := 3207) (at_of tL_law 82 0 rfl) (by decide) ?_
      exact law_next ⟨hi, by omega⟩ K (by dsimp only; omega)
  · first
    | exfalso; omega
    | refine go_aload_n (at_of tL_law 81 7 rfl) rfl ?_
      refine go_iconst (at_of tL_law 81 8 rfl) (by unfold in32; omega) ?_
      refine go_lald G_133 (by omega) (by omega) (at_of tL_law 81 9 rfl) ?_
      refine go_iload (at_of tL_law 81 10 rfl) rfl rfl ?_
      refine go_i2l (at_of tL_law 81 11 rfl) ?_
      refine go_lcmp (at_of tL_law 81 12 rfl) ?_
      refine go_if_eq (tgt := 2277) (at_of tL_law 81 13 rfl) (by decide) (fun h2272 => ?_) (fun h2272 => ?_)
      rotate_left
      · exfalso; exact h2272 (cmpZ_eq (k4 (by omega)))
      refine go_goto (tgt := 3207) (at_of tL_law 82 0 rfl) (by decide) ?_
      exact law_next ⟨hi, by omega⟩ K (by dsimp only; omega)
theorem lc_34 (hi : 0 ≤ i) (hz : i + 5 ≤ z) (hz2 : z ≤ 2560) (h : Sim σ) : ∃ σ2, Sim σ2 ∧ ∀ σf, NxtK xs z n (i + 5) σ2 σf → CurK xs z n i 2280 σ σf := by
  obtain ⟨pi, A, ns, nf, hp⟩ := h
  obtain ⟨k, v, σ1, σ2, k1, k2, k3, k4, k5⟩ := st_setBookmark hp (b := xs (i + 1).toNat) (p := xs (i + 2).toNat) (z := xs (i + 3).toNat) 
  refine ⟨σ2, k5, fun σf K b v6 v7 v8 v9 hb => ?_⟩
  refine go_aload_n (at_of tL_law 82 1 rfl) rfl ?_
  refine go_aload_s (at_of tL_law 82 2 rfl) rfl ?_
  refine go_iload (at_of tL_law 82 3 rfl) rfl rfl ?_
  refine go_iconst (at_of tL_law 82 4 rfl) (by unfold in32; omega) ?_
  refine go_iadd (at_of tL_law 82 5 rfl) (by unfold in32; omega) ?_
  refine go_sld (by omega) (by omega) (at_of tL_law 82 6 rfl) ?_
  refine go_aload_s (at_of tL_law 82 7 rfl) rfl ?_
  refine go_iload (at_of tL_law 82 8 rfl) rfl rfl ?_
  refine go_iconst (at_of tL_law 82 9 rfl) (by unfold in32; omega) ?_
  refine go_iadd (at_of tL_law 82 10 rfl) (by unfold in32; omega) ?_
  refine go_sld (by omega) (by omega) (at_of tL_law 82 11 rfl) ?_
  refine go_aload_s (at_of tL_law 82 12 rfl) rfl ?_
  refine go_iload (at_of tL_law 82 13 rfl) rfl rfl ?_
  refine go_iconst (at_of tL_law 82 14 rfl) (by unfold in32; omega) ?_
  refine go_iadd (at_of tL_law 82 15 rfl) (by unfold in32; omega) ?_
  refine go_sld (by omega) (by omega) (at_of tL_law 83 0 rfl) ?_
  refine go_aload_n (at_of tL_law 83 1 rfl) rfl ?_
  refine go_cX (k1) lk_L_285 rfl (at_of tL_law 83 2 rfl) rfl (by decide) rfl (Nat.le_of_ble_eq_true rfl) rfl (by first | decide | exact ⟨Nat.zero_le _, Nat.zero_le _⟩ | omega) ?_
  refine go_istore (at_of tL_law 83 3 rfl) rfl rfl ?_
  refine go_aload_n (at_of tL_law 83 4 rfl) rfl ?_
  refine go_aload_s (at_of tL_law 83 5 rfl) rfl ?_
  refine go_iload (at_of tL_law 83 6 rfl) rfl rfl ?_
  refine go_iconst (at_of tL_law 83 7 rfl) (by unfold in32; omega) ?_
  refine go_iadd (at_of tL_law 83 8 rfl) (by unfold in32; omega) ?_
  refine go_sld (by omega) (by omega) (at_of tL_law 83 9 rfl) ?_
  refine go_aload_s (at_of tL_law 83 10 rfl) rfl ?_
  refine go_iload (at_of tL_law 83 11 rfl) rfl rfl ?_
  refine go_iconst (at_of tL_law 83 12 rfl) (by unfold in32; omega) ?_
  refine go_iadd (at_of tL_law 83 13 rfl) (by unfold in32; omega) ?_
  refine go_sld (by omega) (by omega) (at_of tL_law 83 14 rfl) ?_
  refine go_aload_s (at_of tL_law 83 15 rfl) rfl ?_
  refine go_iload (at_of tL_law 84 0 rfl) rfl rfl ?_
  refine go_iconst (at_of tL_law 84 1 rfl) (by unfold in32; omega) ?_
  refine go_iadd (at_of tL_law 84 2 rfl) (by unfold in32; omega) ?_
  refine go_sld (by omega) (by omega) (at_of tL_law 84 3 rfl) ?_
  refine go_cV (k2) lk_L_287 rfl G_109 (at_of tL_law 84 4 rfl) rfl (by decide) rfl (Nat.le_of_ble_eq_true rfl) rfl (by first | decide | exact ⟨Nat.zero_le _, Nat.zero_le _⟩ | omega) ?_
  refine go_istore (at_of tL_law 84 5 rfl) rfl rfl ?_
  refine go_aload_n (at_of tL_law 84 6 rfl) rfl ?_
  refine go_cV (m_thrown) lk_L_175 rfl G_109 (at_of tL_law 84 7 rfl) rfl (by decide) rfl (Nat.le_of_ble_eq_true rfl) rfl (by first | decide | exact ⟨Nat.zero_le _, Nat.zero_le _⟩ | omega) ?_
  refine go_iload (at_of tL_law 84 8 rfl) rfl rfl ?_
  refine go_icmp_eq (tgt := 2340) (at_of tL_law 84 9 rfl) (by decide) (fun h2335 => ?_) (fun h2335 => ?_)
  rotate_left
  · exfalso; omega
  refine go_iload (at_of tL_law 84 12 rfl) rfl rfl ?_
  refine go_if_ne (tgt := 2357) (at_of tL_law 84 13 rfl) (by decide) (fun h2342 => ?_) (fun h2342 => ?_)
  · first
    | exfalso; omega
    | refine go_goto (tgt := 3207) (at_of tL_law 85 7 rfl) (by decide) ?_
      exact law_next ⟨hi, by omega⟩ K (by dsimp only; omega)
  · first
    | exfalso; omega
    | refine go_aload_n (at_of tL_law 84 14 rfl) rfl ?_
      refine go_iconst (at_of tL_law 84 15 rfl) (by unfold in32; omega) ?_
      refine go_lald G_133 (by omega) (by omega) (at_of tL_law 85 0 rfl) ?_
      refine go_iload (at_of tL_law 85 1 rfl) rfl rfl ?_
      refine go_i2l (at_of tL_law 85 2 rfl) ?_
      refine go_lcmp (at_of tL_law 85 3 rfl) ?_
      refine go_if_eq (tgt := 2357) (at_of tL_law 85 4 rfl) (by decide) (fun h2352 => ?_) (fun h2352 => ?_)
      rotate_left
      · exfalso; exact h2352 (cmpZ_eq (k4 (by omega)))
      refine go_goto (tgt := 3207) (at_of tL_law 85 7 rfl) (by decide) ?_
      exact law_next ⟨hi, by omega⟩ K (by dsimp only; omega)
theorem lc_35 (hi : 0 ≤ i) (hz : i + 5 ≤ z) (hz2 : z ≤ 2560) (h : Sim σ) : ∃ σ2, Sim σ2 ∧ ∀ σf, NxtK xs z n (i + 5) σ2 σf → CurK xs z n i 2360 σ σf := by
  obtain ⟨pi, A, ns, nf, hp⟩ := h
  obtain ⟨k, v, σ1, σ2, k1, k2, k3, k4, k5⟩ := st_bookmarkFrom hp (b := xs (i + 1).toNat) 
  refine ⟨σ2, k5, fun σf K b v6 v7 v8 v9 hb => ?_⟩
  refine go_aload_n (at_of tL_law 85 8 rfl) rfl ?_
  refine go_aload_s (at_of tL_law 85 9 rfl) rfl ?_
  refine go_iload (at_of tL_law 85 10 rfl) rfl rfl ?_
  refine go_iconst (at_of tL_law 85 11 rfl) (by unfold in32; omega) ?_
  refine go_iadd (at_of tL_law 85 12 rfl) (by unfold in32; omega) ?_
  refine go_sld (by omega) (by omega) (at_of tL_law 85 13 rfl) ?_
  refine go_aload_n (at_of tL_law 85 14 rfl) rfl ?_
  refine go_cX (k1) lk_L_288 rfl (at_of tL_law 85 15 rfl) rfl (by decide) rfl (Nat.le_of_ble_eq_true rfl) rfl (by first | decide | exact ⟨Nat.zero_le _, Nat.zero_le _⟩ | omega) ?_
  refine go_istore (at_of tL_law 86 0 rfl) rfl rfl ?_
  refine go_aload_n (at_of tL_law 86 1 rfl) rfl ?_
  refine go_aload_s (at_of tL_law 86 2 rfl) rfl ?_
  refine go_iload (at_of tL_law 86 3 rfl) rfl rfl ?_
  refine go_iconst (at_of tL_law 86 4 rfl) (by unfold in32; omega) ?_
  refine go_iadd (at_of tL_law 86 5 rfl) (by unfold in32; omega) ?_
  refine go_sld (by omega) (by omega) (at_of tL_law 86 6 rfl) ?_
  refine go_cV (k2) lk_L_290 rfl G_109 (at_of tL_law 86 7 rfl) rfl (by decide) rfl (Nat.le_of_ble_eq_true rfl) rfl (by first | decide | exact ⟨Nat.zero_le _, Nat.zero_le _⟩ | omega) ?_
  refine go_istore (at_of tL_law 86 8 rfl) rfl rfl ?_
  refine go_aload_n (at_of tL_law 86 9 rfl) rfl ?_
  refine go_cV (m_thrown) lk_L_175 rfl G_109 (at_of tL_law 86 10 rfl) rfl (by decide) rfl (Nat.le_of_ble_eq_true rfl) rfl (by first | decide | exact ⟨Nat.zero_le _, Nat.zero_le _⟩ | omega) ?_
  refine go_iload (at_of tL_law 86 11 rfl) rfl rfl ?_
  refine go_icmp_eq (tgt := 2396) (at_of tL_law 86 12 rfl) (by decide) (fun h2391 => ?_) (fun h2391 => ?_)
  rotate_left
  · exfalso; omega
  refine go_iload (at_of tL_law 86 15 rfl) rfl rfl ?_
  refine go_if_ne (tgt := 2413) (at_of tL_law 87 0 rfl) (by decide) (fun h2398 => ?_) (fun h2398 => ?_)
  · first
    | exfalso; omega
    | refine go_goto (tgt := 3207) (at_of tL_law 87 10 rfl) (by decide) ?_
      exact law_next ⟨hi, by omega⟩ K (by dsimp only; omega)
  · first
    | exfalso; omega
    | refine go_aload_n (at_of tL_law 87 1 rfl) rfl ?_
      refine go_iconst (at_of tL_law 87 2 rfl) (by unfold in32; omega) ?_
      refine go_lald G_133 (by omega) (by omega) (at_of tL_law 87 3 rfl) ?_
      refine go_iload (at_of tL_law 87 4 rfl) rfl rfl ?_
      refine go_i2l (at_of tL_law 87 5 rfl) ?_
      refine go_lcmp (at_of tL_law 87 6 rfl) ?_
      refine go_if_eq (tgt := 2413) (at_of tL_law 87 7 rfl) (by decide) (fun h2408 => ?_) (fun h2408 => ?_)
      rotate_left
      · exfalso; exact h2408 (cmpZ_eq (k4 (by omega)))
      refine go_goto (tgt := 3207) (at_of tL_law 87 10 rfl) (by decide) ?_
      exact law_next ⟨hi, by omega⟩ K (by dsimp only; omega)
end Cases18
