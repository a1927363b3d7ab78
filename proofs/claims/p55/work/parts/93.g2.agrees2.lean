/-! The two agree. -/
section Agree2
variable {σ σ' τ : St} {A : PastD} {D : PapD} {F : Nat → DocF} {k : Nat}
theorem shX_of {x : UInt32} (h : shX x = true) : nn32 x = true ∧ (Op.cmpValue (FP.fcmp x x) .l).toInt = 0 := by
  unfold shX at h
  rw [Bool.and_eq_true, Bool.and_eq_true, Bool.and_eq_true, Bool.and_eq_true, decide_eq_true_eq, decide_eq_true_eq, decide_eq_true_eq] at h
  exact ⟨h.1.1.1.1, h.1.1.1.2⟩
theorem sh_all {F : Int → Int → Int} {n : Int} (h : 0 < n ∧ n ≤ 200) : shX (shq (waitN F n) n) = true := by
  have e0 : (0 : Int) ≤ waitN F n ∧ waitN F n ≤ n := by
    have b2 := cntF_le (waitB F) n.toNat 0
    unfold waitN
    omega
  have k := shTab (waitN F n).toNat n.toNat (by omega) (by omega) (by omega)
  unfold shN at k
  rw [show (((waitN F n).toNat : Nat) : Int) = waitN F n by omega, show ((n.toNat : Nat) : Int) = n by omega] at k
  exact k
theorem pgs_1 (hP : LayP D) {KV : Int → Int} {w h : Int} (hw : 5 ≤ w) (hh : 2 ≤ h ∧ h ≤ 40) : 1 ≤ pgsF D.1 D.2.2 KV w h := by
  have h0 := hP.1.1
  have g1 := gpR_le hP.1 hP.b (KV := KV) (w := w) (h := h) (u := 0) (by omega) hh (Int.le_refl _) h0
  have g2 := gpR_lt hP.1 hP.b (KV := KV) hw hh.1 (Int.le_refl _) h0
  unfold pgsF
  have g3 : 0 ≤ (psR D.1 D.2.2 KV w h (parN D.1) - 1) / h := Int.ediv_nonneg (by omega) (by omega)
  omega
theorem PastR.lo2 {pi : Nat → Nat} (h : PastR σ pi A) (h2 : σ'.2 = σ.2) (hF : ∀ x, 1 ≤ x → x ≤ 73 → ∀ j, σ'.1 x j = σ.1 x j) : PastR σ' pi A := by
  obtain ⟨⟨a, b⟩, c, d, e, f⟩ := h
  refine ⟨⟨fun j hj => ⟨by rw [h2]; exact (a j hj).1, (a j hj).2⟩, b⟩, (hF 1 (by omega) (by omega) 1).trans c, (hF 1 (by omega) (by omega) 2).trans d, e, fun j hj => (f j hj).eqs (fun x h1 h2 => hF x (by omega) ?_)⟩
  have := (a j (by omega)).2
  omega
/-- the office is asked: nothing but its notes changes -/
theorem Sim.ask (h : Sim σ F A k) (h2 : σ'.2 = σ.2) (hF : ∀ x j, ¬ ((74 ≤ x ∧ x ≤ 82) ∨ (99 ≤ x ∧ x ≤ 107) ∨ (x = 98 ∧ 11 ≤ j)) → σ'.1 x j = σ.1 x j) : Sim σ' F A k := by
  obtain ⟨hO1, ⟨pi, hO2⟩, hO3, hO4⟩ := id h.1
  refine h.hiLo ⟨by rw [h2]; exact Nat.le_refl _, fun x _ hx => ⟨fun j => hF x j (by omega), fun j => by rw [h2]⟩⟩ ⟨by rw [h2]; exact hO1, ⟨pi, hO2.lo2 h2 (fun x _ hx j => hF x j (by omega))⟩, ?_, ?_⟩ (hF 0 0 (by omega))
  · unfold WH
    rw [hF 98 0 (by omega), hF 98 1 (by omega)]
    exact hO3
  · rw [hF 0 0 (by omega)]
    exact hO4
theorem lp_ag2 (h : DkR σ F A.2.1 A.2.2 (edA A (A.1 A.2.1)).1) (hP : PpL (A.1 A.2.1)) (hS : Str σ.2.1) {pi : Nat → Nat} (hA : PastR σ pi A) {out : MV × St} {v9 : MV} (K : ∀ (b : Nat × Nat), 0 ≤ b.1 → Go (fun _ => 0) 8 mL_agrees b 291 [vA 0, vA 109, vA (F A.2.1).1, vI (cP (A.1 A.2.1).1 (A.1 A.2.1).1.2.1), vI (cO (A.1 A.2.1).1 (A.1 A.2.1).1.2.1), vI (cE (A.1 A.2.1).1 (A.1 A.2.1).1.2.1), vI (cW (A.1 A.2.1).1 (A.1 A.2.1).1.2.1), vI 1, vI (A.1 A.2.1).2.1.1, v9] [] σ out) : ∀ (m : Nat) (c : Int), 0 ≤ c → c + m = (A.1 A.2.1).2.1.1 → ∀ (b : Nat × Nat), Go (fun _ => 0) 8 mL_agrees b 217 [vA 0, vA 109, vA (F A.2.1).1, vI (cP (A.1 A.2.1).1 (A.1 A.2.1).1.2.1), vI (cO (A.1 A.2.1).1 (A.1 A.2.1).1.2.1), vI (cE (A.1 A.2.1).1 (A.1 A.2.1).1.2.1), vI (cW (A.1 A.2.1).1 (A.1 A.2.1).1.2.1), vI 1, vI c, v9] [] σ out := by
  have hN := hP.nn
  obtain ⟨hT, ⟨a1, a2, a3⟩, hpN, -⟩ := id h
  obtain ⟨⟨hgt, hgB, hgH⟩, ⟨hpB, hpH⟩, hcc⟩ := id hT
  have hnow := h.nowD
  obtain ⟨⟨⟨hgd, hgU, hgA, hgS⟩, ⟨hpU, hpA, hpS⟩, hge, hlt⟩, ⟨hn, hn2, -, -, -⟩, -, -, hch, hch2, hcl⟩ := id hnow
  have hDR : DocR σ (F A.2.1).1 (F A.2.1).2.1 (F A.2.1).2.2.1 (F A.2.1).2.2.2.1 (F A.2.1).2.2.2.2 (toL (A.1 A.2.1).1) (A.1 A.2.1).2.1.1 (A.1 A.2.1).2.1.2.2.1 (A.1 A.2.1).2.1.2.2.2 := hnow
  intro m
  induction m with
  | zero =>
    intro c h0 hc b
    have ei : c = (A.1 A.2.1).2.1.1 := by omega
    subst ei
    refine go_iload (at_of tL_agrees 6 9 rfl) rfl rfl ?_
    refine go_aload_n (at_of tL_agrees 6 10 rfl) rfl ?_
    refine go_getfD fl_L_49 rfl (by first | exact hgd | (simp (disch := omega) only [GamD_P1, GamD_M1, GamD_R1, GamD_dS]; exact hgd)) (at_of tL_agrees 6 11 rfl) ?_
    rw [hch]
    refine go_icmp_ge (tgt := 291) (at_of tL_agrees 6 12 rfl) (by decide) (fun h223 => ?_) (fun h223 => ?_)
    rotate_left
    · exfalso; omega
    exact K _ (Nat.zero_le _)
  | succ m ih =>
    intro c h0 hc b
    obtain ⟨⟨hl1, hl2⟩, hl3, hl4⟩ := hcl c h0 (by omega)
    have c1 := ok_stateOf hS hA (c := c) ⟨h0, by omega⟩
    have c2 := ok_authorOf hS hA (c := c) ⟨h0, by omega⟩
    have c3 := ok_unitsOf hS hA (c := c) ⟨h0, by omega⟩
    refine go_iload (at_of tL_agrees 6 9 rfl) rfl rfl ?_
    refine go_aload_n (at_of tL_agrees 6 10 rfl) rfl ?_
    refine go_getfD fl_L_49 rfl (by first | exact hgd | (simp (disch := omega) only [GamD_P1, GamD_M1, GamD_R1, GamD_dS]; exact hgd)) (at_of tL_agrees 6 11 rfl) ?_
    rw [hch]
    refine go_icmp_ge (tgt := 291) (at_of tL_agrees 6 12 rfl) (by decide) (fun h223 => ?_) (fun h223 => ?_)
    · exfalso; omega
    refine go_iload (at_of tL_agrees 6 13 rfl) rfl rfl ?_
    refine go_if_eq (tgt := 291) (at_of tL_agrees 6 14 rfl) (by decide) (fun h228 => ?_) (fun h228 => ?_)
    · exfalso; omega
    refine go_aload_n (at_of tL_agrees 6 15 rfl) rfl ?_
    refine go_iload (at_of tL_agrees 7 0 rfl) rfl rfl ?_
    refine go_cV (c1) lk_L_69 rfl G_0 (at_of tL_agrees 7 1 rfl) rfl (by decide) rfl (Nat.le_of_ble_eq_true rfl) rfl (⟨by omega, by omega⟩) ?_
    refine go_aload_n (at_of tL_agrees 7 2 rfl) rfl ?_
    refine go_getrD (q := (F A.2.1).2.2.2.1) fl_L_54 rfl (by first | exact hgd | (simp (disch := omega) only [GamD_P1, GamD_M1, GamD_R1, GamD_dS]; exact hgd)) hpS (at_of tL_agrees 7 3 rfl) ?_
    refine go_iload (at_of tL_agrees 7 4 rfl) rfl rfl ?_
    refine go_caldD (by first | exact hgS | (simp (disch := omega) only [GamD_P1, GamD_M1, GamD_R1, GamD_dS]; exact hgS)) (by omega) (by omega) (at_of tL_agrees 7 5 rfl) ?_
    rw [hl2]
    refine go_icmp_ne (tgt := 282) (at_of tL_agrees 7 6 rfl) (by decide) (fun h244 => ?_) (fun h244 => ?_)
    · exfalso; exact h244 rfl
    refine go_aload_n (at_of tL_agrees 7 7 rfl) rfl ?_
    refine go_iload (at_of tL_agrees 7 8 rfl) rfl rfl ?_
    refine go_cV (c2) lk_L_162 rfl G_0 (at_of tL_agrees 7 9 rfl) rfl (by decide) rfl (Nat.le_of_ble_eq_true rfl) rfl (⟨by omega, by omega⟩) ?_
    refine go_aload_n (at_of tL_agrees 7 10 rfl) rfl ?_
    refine go_getrD (q := (F A.2.1).2.2.1) fl_L_58 rfl (by first | exact hgd | (simp (disch := omega) only [GamD_P1, GamD_M1, GamD_R1, GamD_dS]; exact hgd)) hpA (at_of tL_agrees 7 11 rfl) ?_
    refine go_iload (at_of tL_agrees 7 12 rfl) rfl rfl ?_
    refine go_ialdD (by first | exact hgA | (simp (disch := omega) only [GamD_P1, GamD_M1, GamD_R1, GamD_dS]; exact hgA)) (by omega) (by omega) (at_of tL_agrees 7 13 rfl) ?_
    rw [hl1]
    refine go_icmp_ne (tgt := 282) (at_of tL_agrees 7 14 rfl) (by decide) (fun h260 => ?_) (fun h260 => ?_)
    · exfalso; exact h260 rfl
    refine go_aload_n (at_of tL_agrees 7 15 rfl) rfl ?_
    refine go_iload (at_of tL_agrees 8 0 rfl) rfl rfl ?_
    refine go_cV (c3) lk_L_165 rfl G_0 (at_of tL_agrees 8 1 rfl) rfl (by decide) rfl (Nat.le_of_ble_eq_true rfl) rfl (⟨by omega, by omega⟩) ?_
    refine go_aload_n (at_of tL_agrees 8 2 rfl) rfl ?_
    refine go_iload (at_of tL_agrees 8 3 rfl) rfl rfl ?_
    refine go_cVD (con_unitsD hDR) lk_L_168 rfl (by first | exact hgd | (simp (disch := omega) only [GamD_P1, GamD_M1, GamD_R1, GamD_dS]; exact hgd)) (at_of tL_agrees 8 4 rfl) rfl (by decide) rfl (Nat.le_of_ble_eq_true rfl) rfl (⟨by omega, by omega⟩) ?_
    refine go_icmp_ne (tgt := 282) (at_of tL_agrees 8 5 rfl) (by decide) (fun h275 => ?_) (fun h275 => ?_)
    · exfalso; exact h275 (hP.conc h0)
    refine go_iconst (at_of tL_agrees 8 6 rfl) (by unfold in32; omega) ?_
    refine go_goto (tgt := 283) (at_of tL_agrees 8 7 rfl) (by decide) ?_
    refine go_istore (at_of tL_agrees 8 9 rfl) rfl rfl ?_
    refine go_iinc (at_of tL_agrees 8 10 rfl) rfl (by unfold in32; omega) rfl rfl ?_
    refine go_goto (tgt := 217) (at_of tL_agrees 8 11 rfl) (by decide) ?_
    exact ih (c + 1) (by omega) (by omega) _
theorem con_agrees (h : Sim σ F A k) : ∃ σ2, Con 8 mL_agrees 200 1200 [vA 0, vA 109] σ (vI 1, σ2) ∧ Sim σ2 F A k := by
  have h9 := h.2.1.same
  obtain ⟨hS, ⟨pi, hA⟩, hWH, h01⟩ := id h.1
  obtain ⟨hP, hk9⟩ := h.pp
  have hN := hP.nn
  obtain ⟨hT, ⟨a1, a2, a3⟩, hpN, -⟩ := id h9
  obtain ⟨⟨hgt, hgB, hgH⟩, ⟨hpB, hpH⟩, hcc⟩ := id hT
  have hnow := h9.nowD
  obtain ⟨⟨⟨hgd, hgU, hgA, hgS⟩, ⟨hpU, hpA, hpS⟩, hge, hlt⟩, ⟨hn, hn2, -, -, -⟩, -, -, hch, hch2, hcl⟩ := id hnow
  have hDR : DocR σ (F A.2.1).1 (F A.2.1).2.1 (F A.2.1).2.2.1 (F A.2.1).2.2.2.1 (F A.2.1).2.2.2.2 (toL (A.1 A.2.1).1) (A.1 A.2.1).2.1.1 (A.1 A.2.1).2.1.2.2.1 (A.1 A.2.1).2.1.2.2.2 := hnow
  have hlen := hDR.len
  have htl := toL_len (R := (A.1 A.2.1).1)
  have hLy := hP.1.layp (by decide)
  obtain ⟨σ1, p1, p2, p3⟩ := ok_pages hS hA hWH hLy
  have hpg := pgs_1 (D := A.1 A.2.1) hLy (KV := KVs σ) (w := σ.1 98 0) (h := σ.1 98 1) hWH.1 ⟨hWH.2.2.1, hWH.2.2.2⟩
  have hs1 : Sim σ1 F A k := h.ask p2 (fun x j hx => p3 x j (by omega))
  obtain ⟨hS1, ⟨pi1, hA1⟩, -, -⟩ := id hs1.1
  have hmany : σ1.1 (F A.2.1).1 0 = (A.1 A.2.1).1.2.1 := (p3 _ _ (by omega)).trans (by rw [hn]; omega)
  have hgd1 : GamD σ1 (F A.2.1).1 = (21, 0) := (GamD_congr (p3 _ _ (by omega))).trans hgd
  have r3 := cnt_rng (p := sendB (A.1 A.2.1).1.1 (A.1 A.2.1).1.2.1) hN.1 hN.2
  have r3 : 0 ≤ cE (A.1 A.2.1).1 (A.1 A.2.1).1.2.1 ∧ cE (A.1 A.2.1).1 (A.1 A.2.1).1.2.1 ≤ 200 := r3
  have c5 := ok_paragraphs hS hA
  rw [ends_at (Int.le_refl _)] at c5
  refine ⟨σ1, ?_, hs1⟩
  have K : ∀ (b : Nat × Nat) (v9 : MV), Go (fun _ => 0) 8 mL_agrees b 291 [vA 0, vA 109, vA (F A.2.1).1, vI (cP (A.1 A.2.1).1 (A.1 A.2.1).1.2.1), vI (cO (A.1 A.2.1).1 (A.1 A.2.1).1.2.1), vI (cE (A.1 A.2.1).1 (A.1 A.2.1).1.2.1), vI (cW (A.1 A.2.1).1 (A.1 A.2.1).1.2.1), vI 1, vI (A.1 A.2.1).2.1.1, v9] [] σ (vI 1, σ1) := fun b v9 => by
    by_cases hz : (A.1 A.2.1).1.2.1 = 0
    · skip
      refine go_iload (at_of tL_agrees 8 12 rfl) rfl rfl ?_
      refine go_if_eq (tgt := 328) (at_of tL_agrees 8 13 rfl) (by decide) (fun h293 => ?_) (fun h293 => ?_)
      · exfalso; omega
      refine go_aload_n (at_of tL_agrees 8 14 rfl) rfl ?_
      refine go_cV (ok_oldLength hS hA) lk_L_171 rfl G_0 (at_of tL_agrees 8 15 rfl) rfl (by decide) rfl (Nat.le_of_ble_eq_true rfl) rfl (⟨by omega, by omega⟩) ?_
      refine go_iload (at_of tL_agrees 9 0 rfl) rfl rfl ?_
      refine go_icmp_ne (tgt := 328) (at_of tL_agrees 9 1 rfl) (by decide) (fun h302 => ?_) (fun h302 => ?_)
      · exfalso; exact h302 rfl
      refine go_aload_n (at_of tL_agrees 9 2 rfl) rfl ?_
      refine go_cV (c5) lk_L_174 rfl G_0 (at_of tL_agrees 9 3 rfl) rfl (by decide) rfl (Nat.le_of_ble_eq_true rfl) rfl (⟨by omega, by omega⟩) ?_
      refine go_iload (at_of tL_agrees 9 4 rfl) rfl rfl ?_
      refine go_iconst (at_of tL_agrees 9 5 rfl) (by unfold in32; omega) ?_
      refine go_iadd (at_of tL_agrees 9 6 rfl) (by unfold in32; omega) ?_
      refine go_icmp_ne (tgt := 328) (at_of tL_agrees 9 7 rfl) (by decide) (fun h313 => ?_) (fun h313 => ?_)
      · exfalso; exact h313 rfl
      refine go_aload_n (at_of tL_agrees 9 8 rfl) rfl ?_
      refine go_cV (p1) lk_L_177 rfl G_0 (at_of tL_agrees 9 9 rfl) rfl (by decide) rfl (Nat.le_of_ble_eq_true rfl) rfl (⟨by omega, by omega⟩) ?_
      refine go_iconst (at_of tL_agrees 9 10 rfl) (by unfold in32; omega) ?_
      refine go_icmp_lt (tgt := 328) (at_of tL_agrees 9 11 rfl) (by decide) (fun h321 => ?_) (fun h321 => ?_)
      · exfalso; omega
      refine go_iconst (at_of tL_agrees 9 12 rfl) (by unfold in32; omega) ?_
      refine go_goto (tgt := 329) (at_of tL_agrees 9 13 rfl) (by decide) ?_
      refine go_istore (at_of tL_agrees 9 15 rfl) rfl rfl ?_
      refine go_iload (at_of tL_agrees 10 0 rfl) rfl rfl ?_
      refine go_if_eq (tgt := 364) (at_of tL_agrees 10 1 rfl) (by decide) (fun h333 => ?_) (fun h333 => ?_)
      · exfalso; omega
      refine go_aload_n (at_of tL_agrees 10 2 rfl) rfl ?_
      refine go_getfD fl_L_130 rfl hgd1 (at_of tL_agrees 10 3 rfl) ?_
      rw [hmany]
      refine go_if_eq (tgt := 360) (at_of tL_agrees 10 4 rfl) (by decide) (fun h340 => ?_) (fun h340 => ?_)
      rotate_left
      · exfalso; omega
      refine go_iconst (at_of tL_agrees 10 15 rfl) (by unfold in32; omega) ?_
      refine go_goto (tgt := 365) (at_of tL_agrees 11 0 rfl) (by decide) ?_
      first | exact go_reti (at_of tL_agrees 11 2 rfl) rfl | exact go_reti (at_of tL_agrees 11 2 rfl) (le_i (by omega)) | exact go_reti (at_of tL_agrees 11 2 rfl) (le_i (by first | exact bI_t (by omega) | exact bI_f (by omega)))
    · have sx := sh_all (F := (A.1 A.2.1).1.1) (n := (A.1 A.2.1).1.2.1) ⟨by omega, hN.2⟩
      have sy := shX_of sx
      refine go_iload (at_of tL_agrees 8 12 rfl) rfl rfl ?_
      refine go_if_eq (tgt := 328) (at_of tL_agrees 8 13 rfl) (by decide) (fun h293 => ?_) (fun h293 => ?_)
      · exfalso; omega
      refine go_aload_n (at_of tL_agrees 8 14 rfl) rfl ?_
      refine go_cV (ok_oldLength hS hA) lk_L_171 rfl G_0 (at_of tL_agrees 8 15 rfl) rfl (by decide) rfl (Nat.le_of_ble_eq_true rfl) rfl (⟨by omega, by omega⟩) ?_
      refine go_iload (at_of tL_agrees 9 0 rfl) rfl rfl ?_
      refine go_icmp_ne (tgt := 328) (at_of tL_agrees 9 1 rfl) (by decide) (fun h302 => ?_) (fun h302 => ?_)
      · exfalso; exact h302 rfl
      refine go_aload_n (at_of tL_agrees 9 2 rfl) rfl ?_
      refine go_cV (c5) lk_L_174 rfl G_0 (at_of tL_agrees 9 3 rfl) rfl (by decide) rfl (Nat.le_of_ble_eq_true rfl) rfl (⟨by omega, by omega⟩) ?_
      refine go_iload (at_of tL_agrees 9 4 rfl) rfl rfl ?_
      refine go_iconst (at_of tL_agrees 9 5 rfl) (by unfold in32; omega) ?_
      refine go_iadd (at_of tL_agrees 9 6 rfl) (by unfold in32; omega) ?_
      refine go_icmp_ne (tgt := 328) (at_of tL_agrees 9 7 rfl) (by decide) (fun h313 => ?_) (fun h313 => ?_)
      · exfalso; exact h313 rfl
      refine go_aload_n (at_of tL_agrees 9 8 rfl) rfl ?_
      refine go_cV (p1) lk_L_177 rfl G_0 (at_of tL_agrees 9 9 rfl) rfl (by decide) rfl (Nat.le_of_ble_eq_true rfl) rfl (⟨by omega, by omega⟩) ?_
      refine go_iconst (at_of tL_agrees 9 10 rfl) (by unfold in32; omega) ?_
      refine go_icmp_lt (tgt := 328) (at_of tL_agrees 9 11 rfl) (by decide) (fun h321 => ?_) (fun h321 => ?_)
      · exfalso; omega
      refine go_iconst (at_of tL_agrees 9 12 rfl) (by unfold in32; omega) ?_
      refine go_goto (tgt := 329) (at_of tL_agrees 9 13 rfl) (by decide) ?_
      refine go_istore (at_of tL_agrees 9 15 rfl) rfl rfl ?_
      refine go_iload (at_of tL_agrees 10 0 rfl) rfl rfl ?_
      refine go_if_eq (tgt := 364) (at_of tL_agrees 10 1 rfl) (by decide) (fun h333 => ?_) (fun h333 => ?_)
      · exfalso; omega
      refine go_aload_n (at_of tL_agrees 10 2 rfl) rfl ?_
      refine go_getfD fl_L_130 rfl hgd1 (at_of tL_agrees 10 3 rfl) ?_
      rw [hmany]
      refine go_if_eq (tgt := 360) (at_of tL_agrees 10 4 rfl) (by decide) (fun h340 => ?_) (fun h340 => ?_)
      · exfalso; omega
      refine go_aload_n (at_of tL_agrees 10 5 rfl) rfl ?_
      refine go_cV (ok_waitingShare hS1 hA1 (by omega) sy.1) lk_L_180 rfl G_0 (at_of tL_agrees 10 6 rfl) rfl (by decide) rfl (Nat.le_of_ble_eq_true rfl) rfl (⟨by omega, by omega⟩) ?_
      refine go_iload (at_of tL_agrees 10 7 rfl) rfl rfl ?_
      refine go_i2f (at_of tL_agrees 10 8 rfl) ?_
      refine go_aload_n (at_of tL_agrees 10 9 rfl) rfl ?_
      refine go_getfD fl_L_130 rfl hgd1 (at_of tL_agrees 10 10 rfl) ?_
      rw [hmany]
      refine go_i2f (at_of tL_agrees 10 11 rfl) ?_
      refine go_fdiv (at_of tL_agrees 10 12 rfl) (nn32_of sy.1) ?_
      refine go_fcmp (at_of tL_agrees 10 13 rfl) ?_
      refine go_if_ne (tgt := 364) (at_of tL_agrees 10 14 rfl) (by decide) (fun h357 => ?_) (fun h357 => ?_)
      · exfalso; exact h357 sy.2
      refine go_iconst (at_of tL_agrees 10 15 rfl) (by unfold in32; omega) ?_
      refine go_goto (tgt := 365) (at_of tL_agrees 11 0 rfl) (by decide) ?_
      first | exact go_reti (at_of tL_agrees 11 2 rfl) rfl | exact go_reti (at_of tL_agrees 11 2 rfl) (le_i (by omega)) | exact go_reti (at_of tL_agrees 11 2 rfl) (le_i (by first | exact bI_t (by omega) | exact bI_f (by omega)))
  refine con_of_go mfL_agrees.1 (Or.inr rfl) (Nat.le_of_ble_eq_true rfl) rfl (by decide) ?_
  show Go _ _ _ _ 0 [vA _, vA _, vT 9 0, vT 9 0, vT 9 0, vT 9 0, vT 9 0, vT 9 0, vT 9 0, vT 9 0] [] _ _
  refine go_aload_n (at_of tL_agrees 0 0 rfl) rfl ?_
  refine go_getrD (q := (F A.2.1).1) fl_L_25 rfl (by first | exact hgt | (simp (disch := omega) only [GamD_P1, GamD_M1, GamD_R1, GamD_dS]; exact hgt)) hpN (at_of tL_agrees 0 1 rfl) ?_
  refine go_astore_n (at_of tL_agrees 0 2 rfl) rfl rfl ?_
  refine go_iconst (at_of tL_agrees 0 3 rfl) (by unfold in32; omega) ?_
  refine go_istore_n (at_of tL_agrees 0 4 rfl) rfl rfl ?_
  refine go_iconst (at_of tL_agrees 0 5 rfl) (by unfold in32; omega) ?_
  refine go_istore (at_of tL_agrees 0 6 rfl) rfl rfl ?_
  refine go_iconst (at_of tL_agrees 0 7 rfl) (by unfold in32; omega) ?_
  refine go_istore (at_of tL_agrees 0 8 rfl) rfl rfl ?_
  refine go_iconst (at_of tL_agrees 0 9 rfl) (by unfold in32; omega) ?_
  refine go_istore (at_of tL_agrees 0 10 rfl) rfl rfl ?_
  refine go_aload_n (at_of tL_agrees 0 11 rfl) rfl ?_
  refine go_cV (ok_length hS hA) lk_L_129 rfl G_0 (at_of tL_agrees 0 12 rfl) rfl (by decide) rfl (Nat.le_of_ble_eq_true rfl) rfl (⟨by omega, by omega⟩) ?_
  refine go_aload_n (at_of tL_agrees 0 13 rfl) rfl ?_
  refine go_cVD (con_lenD hDR) lk_L_80 rfl (by first | exact hgd | (simp (disch := omega) only [GamD_P1, GamD_M1, GamD_R1, GamD_dS]; exact hgd)) (at_of tL_agrees 0 14 rfl) rfl (by decide) rfl (Nat.le_of_ble_eq_true rfl) rfl (⟨by omega, by omega⟩) ?_
  refine go_icmp_ne (tgt := 42) (at_of tL_agrees 0 15 rfl) (by decide) (fun h24 => ?_) (fun h24 => ?_)
  · exfalso; exact h24 hP.len
  refine go_aload_n (at_of tL_agrees 1 0 rfl) rfl ?_
  refine go_cV (ok_changes hS hA) lk_L_67 rfl G_0 (at_of tL_agrees 1 1 rfl) rfl (by decide) rfl (Nat.le_of_ble_eq_true rfl) rfl (⟨by omega, by omega⟩) ?_
  refine go_aload_n (at_of tL_agrees 1 2 rfl) rfl ?_
  refine go_getfD fl_L_49 rfl (by first | exact hgd | (simp (disch := omega) only [GamD_P1, GamD_M1, GamD_R1, GamD_dS]; exact hgd)) (at_of tL_agrees 1 3 rfl) ?_
  rw [hch]
  refine go_icmp_ne (tgt := 42) (at_of tL_agrees 1 4 rfl) (by decide) (fun h35 => ?_) (fun h35 => ?_)
  · exfalso; exact h35 rfl
  refine go_iconst (at_of tL_agrees 1 5 rfl) (by unfold in32; omega) ?_
  refine go_goto (tgt := 43) (at_of tL_agrees 1 6 rfl) (by decide) ?_
  refine go_istore (at_of tL_agrees 1 8 rfl) rfl rfl ?_
  refine go_iconst (at_of tL_agrees 1 9 rfl) (by unfold in32; omega) ?_
  refine go_istore (at_of tL_agrees 1 10 rfl) rfl rfl ?_
  refine lp_ag1 h9 hP hS hA (fun b9 v9 => ?_) (A.1 A.2.1).1.2.1.toNat 0 (Int.le_refl _) (by omega) _ _ (by show _ ≤ 200; omega) (by show _ ≤ 1200; omega)
  refine go_iconst (at_of tL_agrees 6 7 rfl) (by unfold in32; omega) ?_
  refine go_istore (at_of tL_agrees 6 8 rfl) rfl rfl ?_
  exact lp_ag2 h9 hP hS hA (fun b _ => K b _) (A.1 A.2.1).2.1.1.toNat 0 (Int.le_refl _) (by omega) _
end Agree2
