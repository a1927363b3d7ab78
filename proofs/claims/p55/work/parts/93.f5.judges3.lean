/-! Judging, on both sides. -/
section Judges3
variable {σ σ' τ : St} {A : PastD} {D : PapD} {F : Nat → DocF} {k : Nat}
theorem Sim.pp (h : Sim σ F A k) : PpL (A.1 A.2.1) ∧ (A.1 A.2.1).1.2.1 ≤ k := h.2.2.2 _ (by omega)
theorem Sim.cap (h : Sim σ F A k) : 116 ≤ σ.2.2 := h.2.1.1.2.2
theorem jd_A (h : Sim σ F A k) {v a : Int} {acc : Bool} (ha : a = -1 ∨ (0 ≤ a ∧ a < 4)) : ∃ σ2 F2 A2, Sim σ2 F2 A2 k ∧ ∀ (b : Nat × Nat) (v5 v6 v7 : MV), 204 ≤ b.1 → 937 ≤ b.2 → Go (fun _ => 0) 6 mL_judges b 36 [vA 0, vA 109, vI v, vI a, vI (bI (acc = true)), v5, v6, v7] [] σ (vI 1, σ2) := by
  obtain ⟨hP, hk⟩ := h.pp
  have hch := hP.1.2.1.1
  obtain ⟨σ1, F1, e1, e2, e3, e4⟩ := con_edit h.2.1
  obtain ⟨σ2, F2, r1, ⟨r2, r3⟩, ⟨r4, r5⟩, r6⟩ := lp_judges (A := begA A) (v := v) (acc := acc) ha (A.1 A.2.1).2.1.1.toNat σ1 F1 (A.1 A.2.1) 0 0 e2.beg hP (Int.le_refl _) (by omega) (Int.le_refl _) (Int.le_refl _)
  have hcap := h.cap
  have hlo : Lo σ σ2 := (e3.trans r4).lo (by omega) (fun x hx => by rcases hx with (hx | hx) | hx <;> omega)
  have hO2 := h.1.lo hlo
  obtain ⟨hS2, ⟨pi, hA2⟩, -⟩ := id hO2
  obtain ⟨σ3, pi3, j1, j2⟩ := ok_judge hS2 hA2 (acc := acc) ha
  have hc2 : 116 ≤ σ2.2.2 := r1.1.2.2
  refine ⟨σ3, F2, _, h.of (j2.off hO2) (r1.hi j2.hi) ?_ ?_ ⟨r2, by show (upX (stlF a acc) (A.1 A.2.1).2.1.1.toNat 0 (A.1 A.2.1, 0)).1.1.2.1 ≤ k; omega⟩ (Nat.le_refl _), fun b v5 v6 v7 hb1 hb2 => ?_⟩
  · exact ((j2.hi.2 109 (by omega) (by omega)).1 5).trans (r5.trans e4)
  · exact (j2.2.2.2.1 0 (by omega) 0).trans ((hlo 0 (by omega)).1 0)
  · have hgt := h.2.1.1.1.1
    refine go_aload_n (at_of tL_judges 1 6 rfl) rfl ?_
    refine go_cVD (e1) lk_L_46 rfl (by first | exact hgt | (simp (disch := omega) only [GamD_P1, GamD_M1, GamD_R1, GamD_dS]; exact hgt)) (at_of tL_judges 1 7 rfl) rfl (by decide) rfl (Nat.le_of_ble_eq_true rfl) rfl (⟨by omega, by omega⟩) ?_
    refine go_iconst (at_of tL_judges 1 8 rfl) (by unfold in32; omega) ?_
    refine go_istore (at_of tL_judges 1 9 rfl) rfl rfl ?_
    refine go_iconst (at_of tL_judges 1 10 rfl) (by unfold in32; omega) ?_
    refine go_istore (at_of tL_judges 1 11 rfl) rfl rfl ?_
    refine r6 _ _ _ (fun b2 c2 w7 => ?_)
    refine go_aload_n (at_of tL_judges 3 10 rfl) rfl ?_
    refine go_iload_n (at_of tL_judges 3 11 rfl) rfl ?_
    refine go_iload (at_of tL_judges 3 12 rfl) rfl rfl ?_
    refine go_cV (j1) lk_L_66 rfl G_0 (at_of tL_judges 3 13 rfl) rfl (by decide) rfl (Nat.le_of_ble_eq_true rfl) rfl (⟨by omega, by omega⟩) ?_
    refine go_iload (at_of tL_judges 3 14 rfl) rfl rfl ?_
    refine go_icmp_ne (tgt := 129) (at_of tL_judges 3 15 rfl) (by decide) (fun h122 => ?_) (fun h122 => ?_)
    · exfalso; exact h122 rfl
    refine go_iconst (at_of tL_judges 4 0 rfl) (by unfold in32; omega) ?_
    refine go_goto (tgt := 130) (at_of tL_judges 4 1 rfl) (by decide) ?_
    first | exact go_reti (at_of tL_judges 4 3 rfl) rfl | exact go_reti (at_of tL_judges 4 3 rfl) (le_i (by omega)) | exact go_reti (at_of tL_judges 4 3 rfl) (le_i (by first | exact bI_t (by omega) | exact bI_f (by omega)))
theorem jd_C (h : Sim σ F A k) {v c : Int} {acc : Bool} (hc : 0 ≤ c ∧ c < (A.1 A.2.1).2.1.1) (hw : (A.1 A.2.1).2.1.2.2.2 c = 119) : ∃ σ2 F2 A2, Sim σ2 F2 A2 k ∧ ∀ (b : Nat × Nat) (v5 v6 v7 : MV), 204 ≤ b.1 → 937 ≤ b.2 → Go (fun _ => 0) 6 mL_judges b 223 [vA 0, vA 109, vI v, vI c, vI (bI (acc = true)), v5, v6, v7] [] σ (vI 1, σ2) := by
  obtain ⟨hP, hk⟩ := h.pp
  obtain ⟨σ1, F1, e1, e2, e3, e4⟩ := con_edit h.2.1
  have hgt0 := h.2.1.1.1.1
  have e2b := e2.beg
  obtain ⟨hT, ⟨a1, a2, a3⟩, hpN, -⟩ := id e2b
  obtain ⟨⟨hgt, hgB, hgH⟩, ⟨hpB, hpH⟩, hcc⟩ := id hT
  have hnow := e2b.nowD
  obtain ⟨⟨⟨hgd, hgU, hgA, hgS⟩, ⟨hpU, hpA, hpS⟩, hge, hlt⟩, ⟨hn, hn2, -, -, -⟩, -, -, hch, hch2, hcl⟩ := id hnow
  obtain ⟨τ, f, q1, q2, q3, q4⟩ := e2b.judgeD hP (c := c) (acc := acc) hc
  obtain ⟨p1, -⟩ := hP.setl (c := c) (acc := acc) hc
  have p2 := hP.setl_n (c := c) (acc := acc) hc
  have hx5 := (q3.2 109 (by omega) (fun z => (e2b.fp z).2.1 rfl)).1 5
  have hcap := h.cap
  have hlo : Lo σ τ := (e3.trans q3).lo (by omega) (fun x hx => by
    rcases hx with (hx | hx) | hx
    · omega
    · omega
    · exact (e2b.fp hx).1)
  have hO2 := h.1.lo hlo
  obtain ⟨hS2, ⟨pi, hA2⟩, -⟩ := id hO2
  have hc2 : 116 ≤ τ.2.2 := q2.1.2.2
  cases acc
  · obtain ⟨σ3, pi3, j1, j2⟩ := ok_refuse hS2 hA2 hc hw
    refine ⟨σ3, _, _, h.of (j2.off hO2) (q2.hi j2.hi) ?_ ?_ ⟨p1, by omega⟩ (Nat.le_refl _), fun b v5 v6 v7 hb1 hb2 => ?_⟩
    · exact ((j2.hi.2 109 (by omega) (by omega)).1 5).trans (hx5.trans e4)
    · exact (j2.2.2.2.1 0 (by omega) 0).trans ((hlo 0 (by omega)).1 0)
    refine go_aload_n (at_of tL_judges 7 5 rfl) rfl ?_
    refine go_cVD (e1) lk_L_46 rfl hgt0 (at_of tL_judges 7 6 rfl) rfl (by decide) rfl (Nat.le_of_ble_eq_true rfl) rfl (⟨by omega, by omega⟩) ?_
    refine go_aload_n (at_of tL_judges 7 7 rfl) rfl ?_
    refine go_getrD (q := (F1 (begA A).2.1).1) fl_L_25 rfl (by first | exact hgt | (simp (disch := omega) only [GamD_P1, GamD_M1, GamD_R1, GamD_dS]; exact hgt)) hpN (at_of tL_judges 7 8 rfl) ?_
    refine go_iload_n (at_of tL_judges 7 9 rfl) rfl ?_
    refine go_iload (at_of tL_judges 7 10 rfl) rfl rfl ?_
    refine go_cVD (q1) lk_L_62 rfl (by first | exact hgd | (simp (disch := omega) only [GamD_P1, GamD_M1, GamD_R1, GamD_dS]; exact hgd)) (at_of tL_judges 7 11 rfl) rfl (by decide) rfl (Nat.le_of_ble_eq_true rfl) rfl (⟨by omega, by omega⟩) ?_
    refine go_istore (at_of tL_judges 7 12 rfl) rfl rfl ?_
    refine go_iload (at_of tL_judges 7 13 rfl) rfl rfl ?_
    rw [show bI (false = true) = 0 from rfl]
    refine go_if_eq (tgt := 252) (at_of tL_judges 7 14 rfl) (by decide) (fun h241 => ?_) (fun h241 => ?_)
    rotate_left
    · exfalso; omega
    refine go_aload_n (at_of tL_judges 8 3 rfl) rfl ?_
    refine go_iload_n (at_of tL_judges 8 4 rfl) rfl ?_
    refine go_cV (j1) lk_L_77 rfl G_0 (at_of tL_judges 8 5 rfl) rfl (by decide) rfl (Nat.le_of_ble_eq_true rfl) rfl (⟨by omega, by omega⟩) ?_
    refine go_iload (at_of tL_judges 8 6 rfl) rfl rfl ?_
    refine go_icmp_ne (tgt := 266) (at_of tL_judges 8 7 rfl) (by decide) (fun h259 => ?_) (fun h259 => ?_)
    · exfalso; exact h259 (hP.conc hc.1)
    refine go_iconst (at_of tL_judges 8 8 rfl) (by unfold in32; omega) ?_
    refine go_goto (tgt := 267) (at_of tL_judges 8 9 rfl) (by decide) ?_
    first | exact go_reti (at_of tL_judges 8 11 rfl) rfl | exact go_reti (at_of tL_judges 8 11 rfl) (le_i (by omega)) | exact go_reti (at_of tL_judges 8 11 rfl) (le_i (by first | exact bI_t (by omega) | exact bI_f (by omega)))
  · obtain ⟨σ3, pi3, j1, j2⟩ := ok_accept hS2 hA2 hc hw
    refine ⟨σ3, _, _, h.of (j2.off hO2) (q2.hi j2.hi) ?_ ?_ ⟨p1, by omega⟩ (Nat.le_refl _), fun b v5 v6 v7 hb1 hb2 => ?_⟩
    · exact ((j2.hi.2 109 (by omega) (by omega)).1 5).trans (hx5.trans e4)
    · exact (j2.2.2.2.1 0 (by omega) 0).trans ((hlo 0 (by omega)).1 0)
    refine go_aload_n (at_of tL_judges 7 5 rfl) rfl ?_
    refine go_cVD (e1) lk_L_46 rfl hgt0 (at_of tL_judges 7 6 rfl) rfl (by decide) rfl (Nat.le_of_ble_eq_true rfl) rfl (⟨by omega, by omega⟩) ?_
    refine go_aload_n (at_of tL_judges 7 7 rfl) rfl ?_
    refine go_getrD (q := (F1 (begA A).2.1).1) fl_L_25 rfl (by first | exact hgt | (simp (disch := omega) only [GamD_P1, GamD_M1, GamD_R1, GamD_dS]; exact hgt)) hpN (at_of tL_judges 7 8 rfl) ?_
    refine go_iload_n (at_of tL_judges 7 9 rfl) rfl ?_
    refine go_iload (at_of tL_judges 7 10 rfl) rfl rfl ?_
    refine go_cVD (q1) lk_L_62 rfl (by first | exact hgd | (simp (disch := omega) only [GamD_P1, GamD_M1, GamD_R1, GamD_dS]; exact hgd)) (at_of tL_judges 7 11 rfl) rfl (by decide) rfl (Nat.le_of_ble_eq_true rfl) rfl (⟨by omega, by omega⟩) ?_
    refine go_istore (at_of tL_judges 7 12 rfl) rfl rfl ?_
    refine go_iload (at_of tL_judges 7 13 rfl) rfl rfl ?_
    rw [show bI (true = true) = 1 from rfl]
    refine go_if_eq (tgt := 252) (at_of tL_judges 7 14 rfl) (by decide) (fun h241 => ?_) (fun h241 => ?_)
    · exfalso; omega
    refine go_aload_n (at_of tL_judges 7 15 rfl) rfl ?_
    refine go_iload_n (at_of tL_judges 8 0 rfl) rfl ?_
    refine go_cV (j1) lk_L_73 rfl G_0 (at_of tL_judges 8 1 rfl) rfl (by decide) rfl (Nat.le_of_ble_eq_true rfl) rfl (⟨by omega, by omega⟩) ?_
    refine go_goto (tgt := 257) (at_of tL_judges 8 2 rfl) (by decide) ?_
    refine go_iload (at_of tL_judges 8 6 rfl) rfl rfl ?_
    refine go_icmp_ne (tgt := 266) (at_of tL_judges 8 7 rfl) (by decide) (fun h259 => ?_) (fun h259 => ?_)
    · exfalso; exact h259 (hP.conc hc.1)
    refine go_iconst (at_of tL_judges 8 8 rfl) (by unfold in32; omega) ?_
    refine go_goto (tgt := 267) (at_of tL_judges 8 9 rfl) (by decide) ?_
    first | exact go_reti (at_of tL_judges 8 11 rfl) rfl | exact go_reti (at_of tL_judges 8 11 rfl) (le_i (by omega)) | exact go_reti (at_of tL_judges 8 11 rfl) (le_i (by first | exact bI_t (by omega) | exact bI_f (by omega)))
theorem con_judges (h : Sim σ F A k) {v : Int} : ∃ σ2 F2 A2, Con 6 mL_judges 204 937 [vA 0, vA 109, vI v] σ (vI 1, σ2) ∧ Sim σ2 F2 A2 k := by
  have h9 := h.2.1.same
  obtain ⟨hS, ⟨pi, hA⟩, -⟩ := id h.1
  obtain ⟨hT, ⟨a1, a2, a3⟩, hpN, -⟩ := id h9
  obtain ⟨⟨hgt, hgB, hgH⟩, ⟨hpB, hpH⟩, hcc⟩ := id hT
  have hnow := h9.nowD
  obtain ⟨⟨⟨hgd, hgU, hgA, hgS⟩, ⟨hpU, hpA, hpS⟩, hge, hlt⟩, ⟨hn, hn2, -, -, -⟩, -, -, hch, hch2, hcl⟩ := id hnow
  have l1 := lowF_lt (v := shr v 3) (n := 5) (by decide)
  by_cases q0 : lowF v 5 = 0
  · by_cases q1 : lowF (shr v 6) 2 = 0
    · obtain ⟨σ2, F2, A2, s1, s2⟩ := jd_A h (v := v) (a := lowF (shr v 3) 5 - 1) (acc := true) (by omega)
      refine ⟨σ2, F2, A2, ?_, s1⟩
      refine con_of_go mfL_judges.1 (Or.inr rfl) (Nat.le_of_ble_eq_true rfl) rfl (by decide) ?_
      show Go _ _ _ _ 0 [vA _, vA _, vI _, vT 9 0, vT 9 0, vT 9 0, vT 9 0, vT 9 0] [] _ _
      refine go_iload_n (at_of tL_judges 0 0 rfl) rfl ?_
      refine go_iconst (at_of tL_judges 0 1 rfl) (by unfold in32; omega) ?_
      refine go_cS (con_low (by omega)) lk_L_40 rfl (at_of tL_judges 0 2 rfl) rfl (by decide) rfl (Nat.le_of_ble_eq_true rfl) rfl (⟨by omega, by omega⟩) ?_
      refine go_if_ne (tgt := 131) (at_of tL_judges 0 3 rfl) (by decide) (fun h5 => ?_) (fun h5 => ?_)
      · exfalso; omega
      refine go_iload_n (at_of tL_judges 0 4 rfl) rfl ?_
      refine go_iconst (at_of tL_judges 0 5 rfl) (by unfold in32; omega) ?_
      refine go_ishr (at_of tL_judges 0 6 rfl) ?_
      refine go_iconst (at_of tL_judges 0 7 rfl) (by unfold in32; omega) ?_
      refine go_cS (con_low (by omega)) lk_L_40 rfl (at_of tL_judges 0 8 rfl) rfl (by decide) rfl (Nat.le_of_ble_eq_true rfl) rfl (⟨by omega, by omega⟩) ?_
      refine go_iconst (at_of tL_judges 0 9 rfl) (by unfold in32; omega) ?_
      refine go_isub (at_of tL_judges 0 10 rfl) (by unfold in32; omega) ?_
      refine go_istore_n (at_of tL_judges 0 11 rfl) rfl rfl ?_
      refine go_iload_n (at_of tL_judges 0 12 rfl) rfl ?_
      refine go_bipush (at_of tL_judges 0 13 rfl) (by decide) ?_
      refine go_ishr (at_of tL_judges 0 14 rfl) ?_
      refine go_iconst (at_of tL_judges 0 15 rfl) (by unfold in32; omega) ?_
      refine go_cS (con_low (by omega)) lk_L_40 rfl (at_of tL_judges 1 0 rfl) rfl (by decide) rfl (Nat.le_of_ble_eq_true rfl) rfl (⟨by omega, by omega⟩) ?_
      refine go_if_ne (tgt := 33) (at_of tL_judges 1 1 rfl) (by decide) (fun h26 => ?_) (fun h26 => ?_)
      · exfalso; omega
      refine go_iconst (at_of tL_judges 1 2 rfl) (by unfold in32; omega) ?_
      refine go_goto (tgt := 34) (at_of tL_judges 1 3 rfl) (by decide) ?_
      refine go_istore (at_of tL_judges 1 5 rfl) rfl rfl ?_
      exact s2 _ _ _ _ (Nat.le_refl _) (Nat.le_refl _)
    · obtain ⟨σ2, F2, A2, s1, s2⟩ := jd_A h (v := v) (a := lowF (shr v 3) 5 - 1) (acc := false) (by omega)
      refine ⟨σ2, F2, A2, ?_, s1⟩
      refine con_of_go mfL_judges.1 (Or.inr rfl) (Nat.le_of_ble_eq_true rfl) rfl (by decide) ?_
      show Go _ _ _ _ 0 [vA _, vA _, vI _, vT 9 0, vT 9 0, vT 9 0, vT 9 0, vT 9 0] [] _ _
      refine go_iload_n (at_of tL_judges 0 0 rfl) rfl ?_
      refine go_iconst (at_of tL_judges 0 1 rfl) (by unfold in32; omega) ?_
      refine go_cS (con_low (by omega)) lk_L_40 rfl (at_of tL_judges 0 2 rfl) rfl (by decide) rfl (Nat.le_of_ble_eq_true rfl) rfl (⟨by omega, by omega⟩) ?_
      refine go_if_ne (tgt := 131) (at_of tL_judges 0 3 rfl) (by decide) (fun h5 => ?_) (fun h5 => ?_)
      · exfalso; omega
      refine go_iload_n (at_of tL_judges 0 4 rfl) rfl ?_
      refine go_iconst (at_of tL_judges 0 5 rfl) (by unfold in32; omega) ?_
      refine go_ishr (at_of tL_judges 0 6 rfl) ?_
      refine go_iconst (at_of tL_judges 0 7 rfl) (by unfold in32; omega) ?_
      refine go_cS (con_low (by omega)) lk_L_40 rfl (at_of tL_judges 0 8 rfl) rfl (by decide) rfl (Nat.le_of_ble_eq_true rfl) rfl (⟨by omega, by omega⟩) ?_
      refine go_iconst (at_of tL_judges 0 9 rfl) (by unfold in32; omega) ?_
      refine go_isub (at_of tL_judges 0 10 rfl) (by unfold in32; omega) ?_
      refine go_istore_n (at_of tL_judges 0 11 rfl) rfl rfl ?_
      refine go_iload_n (at_of tL_judges 0 12 rfl) rfl ?_
      refine go_bipush (at_of tL_judges 0 13 rfl) (by decide) ?_
      refine go_ishr (at_of tL_judges 0 14 rfl) ?_
      refine go_iconst (at_of tL_judges 0 15 rfl) (by unfold in32; omega) ?_
      refine go_cS (con_low (by omega)) lk_L_40 rfl (at_of tL_judges 1 0 rfl) rfl (by decide) rfl (Nat.le_of_ble_eq_true rfl) rfl (⟨by omega, by omega⟩) ?_
      refine go_if_ne (tgt := 33) (at_of tL_judges 1 1 rfl) (by decide) (fun h26 => ?_) (fun h26 => ?_)
      rotate_left
      · exfalso; omega
      refine go_iconst (at_of tL_judges 1 4 rfl) (by unfold in32; omega) ?_
      refine go_istore (at_of tL_judges 1 5 rfl) rfl rfl ?_
      exact s2 _ _ _ _ (Nat.le_refl _) (Nat.le_refl _)
  · by_cases qc : (A.1 A.2.1).2.1.1 = 0
    · refine ⟨σ, F, A, ?_, h⟩
      refine con_of_go mfL_judges.1 (Or.inr rfl) (Nat.le_of_ble_eq_true rfl) rfl (by decide) ?_
      show Go _ _ _ _ 0 [vA _, vA _, vI _, vT 9 0, vT 9 0, vT 9 0, vT 9 0, vT 9 0] [] _ _
      refine go_iload_n (at_of tL_judges 0 0 rfl) rfl ?_
      refine go_iconst (at_of tL_judges 0 1 rfl) (by unfold in32; omega) ?_
      refine go_cS (con_low (by omega)) lk_L_40 rfl (at_of tL_judges 0 2 rfl) rfl (by decide) rfl (Nat.le_of_ble_eq_true rfl) rfl (⟨by omega, by omega⟩) ?_
      refine go_if_ne (tgt := 131) (at_of tL_judges 0 3 rfl) (by decide) (fun h5 => ?_) (fun h5 => ?_)
      rotate_left
      · exfalso; omega
      refine go_aload_n (at_of tL_judges 4 4 rfl) rfl ?_
      refine go_getrD (q := (F A.2.1).1) fl_L_25 rfl (by first | exact hgt | (simp (disch := omega) only [GamD_P1, GamD_M1, GamD_R1, GamD_dS]; exact hgt)) hpN (at_of tL_judges 4 5 rfl) ?_
      refine go_getfD fl_L_49 rfl (by first | exact hgd | (simp (disch := omega) only [GamD_P1, GamD_M1, GamD_R1, GamD_dS]; exact hgd)) (at_of tL_judges 4 6 rfl) ?_
      rw [hch]
      refine go_if_ne (tgt := 154) (at_of tL_judges 4 7 rfl) (by decide) (fun h138 => ?_) (fun h138 => ?_)
      · exfalso; omega
      refine go_aload_n (at_of tL_judges 4 8 rfl) rfl ?_
      refine go_cV (ok_changes hS hA) lk_L_67 rfl G_0 (at_of tL_judges 4 9 rfl) rfl (by decide) rfl (Nat.le_of_ble_eq_true rfl) rfl (⟨by omega, by omega⟩) ?_
      refine go_if_ne (tgt := 152) (at_of tL_judges 4 10 rfl) (by decide) (fun h145 => ?_) (fun h145 => ?_)
      · exfalso; omega
      refine go_iconst (at_of tL_judges 4 11 rfl) (by unfold in32; omega) ?_
      refine go_goto (tgt := 153) (at_of tL_judges 4 12 rfl) (by decide) ?_
      first | exact go_reti (at_of tL_judges 4 14 rfl) rfl | exact go_reti (at_of tL_judges 4 14 rfl) (le_i (by omega)) | exact go_reti (at_of tL_judges 4 14 rfl) (le_i (by first | exact bI_t (by omega) | exact bI_f (by omega)))
    · have hc := lowF_lt (v := shr v 3) (n := (A.1 A.2.1).2.1.1) (by omega)
      obtain ⟨⟨hl1, hl2⟩, hl3, hl4⟩ := hcl _ hc.1 hc.2
      by_cases hw : (A.1 A.2.1).2.1.2.2.2 (lowF (shr v 3) (A.1 A.2.1).2.1.1) = 119
      · by_cases q1 : lowF (shr v 9) 2 = 0
        · obtain ⟨σ2, F2, A2, s1, s2⟩ := jd_C h (v := v) (c := lowF (shr v 3) (A.1 A.2.1).2.1.1) (acc := true) hc hw
          refine ⟨σ2, F2, A2, ?_, s1⟩
          refine con_of_go mfL_judges.1 (Or.inr rfl) (Nat.le_of_ble_eq_true rfl) rfl (by decide) ?_
          show Go _ _ _ _ 0 [vA _, vA _, vI _, vT 9 0, vT 9 0, vT 9 0, vT 9 0, vT 9 0] [] _ _
          refine go_iload_n (at_of tL_judges 0 0 rfl) rfl ?_
          refine go_iconst (at_of tL_judges 0 1 rfl) (by unfold in32; omega) ?_
          refine go_cS (con_low (by omega)) lk_L_40 rfl (at_of tL_judges 0 2 rfl) rfl (by decide) rfl (Nat.le_of_ble_eq_true rfl) rfl (⟨by omega, by omega⟩) ?_
          refine go_if_ne (tgt := 131) (at_of tL_judges 0 3 rfl) (by decide) (fun h5 => ?_) (fun h5 => ?_)
          rotate_left
          · exfalso; omega
          refine go_aload_n (at_of tL_judges 4 4 rfl) rfl ?_
          refine go_getrD (q := (F A.2.1).1) fl_L_25 rfl (by first | exact hgt | (simp (disch := omega) only [GamD_P1, GamD_M1, GamD_R1, GamD_dS]; exact hgt)) hpN (at_of tL_judges 4 5 rfl) ?_
          refine go_getfD fl_L_49 rfl (by first | exact hgd | (simp (disch := omega) only [GamD_P1, GamD_M1, GamD_R1, GamD_dS]; exact hgd)) (at_of tL_judges 4 6 rfl) ?_
          rw [hch]
          refine go_if_ne (tgt := 154) (at_of tL_judges 4 7 rfl) (by decide) (fun h138 => ?_) (fun h138 => ?_)
          rotate_left
          · exfalso; omega
          refine go_iload_n (at_of tL_judges 4 15 rfl) rfl ?_
          refine go_iconst (at_of tL_judges 5 0 rfl) (by unfold in32; omega) ?_
          refine go_ishr (at_of tL_judges 5 1 rfl) ?_
          refine go_aload_n (at_of tL_judges 5 2 rfl) rfl ?_
          refine go_getrD (q := (F A.2.1).1) fl_L_25 rfl (by first | exact hgt | (simp (disch := omega) only [GamD_P1, GamD_M1, GamD_R1, GamD_dS]; exact hgt)) hpN (at_of tL_judges 5 3 rfl) ?_
          refine go_getfD fl_L_49 rfl (by first | exact hgd | (simp (disch := omega) only [GamD_P1, GamD_M1, GamD_R1, GamD_dS]; exact hgd)) (at_of tL_judges 5 4 rfl) ?_
          rw [hch]
          refine go_cS (con_low (by omega)) lk_L_40 rfl (at_of tL_judges 5 5 rfl) rfl (by decide) rfl (Nat.le_of_ble_eq_true rfl) rfl (⟨by omega, by omega⟩) ?_
          refine go_istore_n (at_of tL_judges 5 6 rfl) rfl rfl ?_
          refine go_iload_n (at_of tL_judges 5 7 rfl) rfl ?_
          refine go_bipush (at_of tL_judges 5 8 rfl) (by decide) ?_
          refine go_ishr (at_of tL_judges 5 9 rfl) ?_
          refine go_iconst (at_of tL_judges 5 10 rfl) (by unfold in32; omega) ?_
          refine go_cS (con_low (by omega)) lk_L_40 rfl (at_of tL_judges 5 11 rfl) rfl (by decide) rfl (Nat.le_of_ble_eq_true rfl) rfl (⟨by omega, by omega⟩) ?_
          refine go_if_ne (tgt := 183) (at_of tL_judges 5 12 rfl) (by decide) (fun h176 => ?_) (fun h176 => ?_)
          · exfalso; omega
          refine go_iconst (at_of tL_judges 5 13 rfl) (by unfold in32; omega) ?_
          refine go_goto (tgt := 184) (at_of tL_judges 5 14 rfl) (by decide) ?_
          refine go_istore (at_of tL_judges 6 0 rfl) rfl rfl ?_
          refine go_aload_n (at_of tL_judges 6 1 rfl) rfl ?_
          refine go_getrD (q := (F A.2.1).1) fl_L_25 rfl (by first | exact hgt | (simp (disch := omega) only [GamD_P1, GamD_M1, GamD_R1, GamD_dS]; exact hgt)) hpN (at_of tL_judges 6 2 rfl) ?_
          refine go_getrD (q := (F A.2.1).2.2.2.1) fl_L_54 rfl (by first | exact hgd | (simp (disch := omega) only [GamD_P1, GamD_M1, GamD_R1, GamD_dS]; exact hgd)) hpS (at_of tL_judges 6 3 rfl) ?_
          refine go_iload_n (at_of tL_judges 6 4 rfl) rfl ?_
          refine go_caldD (by first | exact hgS | (simp (disch := omega) only [GamD_P1, GamD_M1, GamD_R1, GamD_dS]; exact hgS)) (by omega) (by omega) (at_of tL_judges 6 5 rfl) ?_
          refine go_bipush (at_of tL_judges 6 6 rfl) (by decide) ?_
          rw [hl2]
          refine go_icmp_eq (tgt := 223) (at_of tL_judges 6 7 rfl) (by decide) (fun h197 => ?_) (fun h197 => ?_)
          rotate_left
          · exfalso; omega
          exact s2 _ _ _ _ (Nat.le_refl _) (Nat.le_refl _)
        · obtain ⟨σ2, F2, A2, s1, s2⟩ := jd_C h (v := v) (c := lowF (shr v 3) (A.1 A.2.1).2.1.1) (acc := false) hc hw
          refine ⟨σ2, F2, A2, ?_, s1⟩
          refine con_of_go mfL_judges.1 (Or.inr rfl) (Nat.le_of_ble_eq_true rfl) rfl (by decide) ?_
          show Go _ _ _ _ 0 [vA _, vA _, vI _, vT 9 0, vT 9 0, vT 9 0, vT 9 0, vT 9 0] [] _ _
          refine go_iload_n (at_of tL_judges 0 0 rfl) rfl ?_
          refine go_iconst (at_of tL_judges 0 1 rfl) (by unfold in32; omega) ?_
          refine go_cS (con_low (by omega)) lk_L_40 rfl (at_of tL_judges 0 2 rfl) rfl (by decide) rfl (Nat.le_of_ble_eq_true rfl) rfl (⟨by omega, by omega⟩) ?_
          refine go_if_ne (tgt := 131) (at_of tL_judges 0 3 rfl) (by decide) (fun h5 => ?_) (fun h5 => ?_)
          rotate_left
          · exfalso; omega
          refine go_aload_n (at_of tL_judges 4 4 rfl) rfl ?_
          refine go_getrD (q := (F A.2.1).1) fl_L_25 rfl (by first | exact hgt | (simp (disch := omega) only [GamD_P1, GamD_M1, GamD_R1, GamD_dS]; exact hgt)) hpN (at_of tL_judges 4 5 rfl) ?_
          refine go_getfD fl_L_49 rfl (by first | exact hgd | (simp (disch := omega) only [GamD_P1, GamD_M1, GamD_R1, GamD_dS]; exact hgd)) (at_of tL_judges 4 6 rfl) ?_
          rw [hch]
          refine go_if_ne (tgt := 154) (at_of tL_judges 4 7 rfl) (by decide) (fun h138 => ?_) (fun h138 => ?_)
          rotate_left
          · exfalso; omega
          refine go_iload_n (at_of tL_judges 4 15 rfl) rfl ?_
          refine go_iconst (at_of tL_judges 5 0 rfl) (by unfold in32; omega) ?_
          refine go_ishr (at_of tL_judges 5 1 rfl) ?_
          refine go_aload_n (at_of tL_judges 5 2 rfl) rfl ?_
          refine go_getrD (q := (F A.2.1).1) fl_L_25 rfl (by first | exact hgt | (simp (disch := omega) only [GamD_P1, GamD_M1, GamD_R1, GamD_dS]; exact hgt)) hpN (at_of tL_judges 5 3 rfl) ?_
          refine go_getfD fl_L_49 rfl (by first | exact hgd | (simp (disch := omega) only [GamD_P1, GamD_M1, GamD_R1, GamD_dS]; exact hgd)) (at_of tL_judges 5 4 rfl) ?_
          rw [hch]
          refine go_cS (con_low (by omega)) lk_L_40 rfl (at_of tL_judges 5 5 rfl) rfl (by decide) rfl (Nat.le_of_ble_eq_true rfl) rfl (⟨by omega, by omega⟩) ?_
          refine go_istore_n (at_of tL_judges 5 6 rfl) rfl rfl ?_
          refine go_iload_n (at_of tL_judges 5 7 rfl) rfl ?_
          refine go_bipush (at_of tL_judges 5 8 rfl) (by decide) ?_
          refine go_ishr (at_of tL_judges 5 9 rfl) ?_
          refine go_iconst (at_of tL_judges 5 10 rfl) (by unfold in32; omega) ?_
          refine go_cS (con_low (by omega)) lk_L_40 rfl (at_of tL_judges 5 11 rfl) rfl (by decide) rfl (Nat.le_of_ble_eq_true rfl) rfl (⟨by omega, by omega⟩) ?_
          refine go_if_ne (tgt := 183) (at_of tL_judges 5 12 rfl) (by decide) (fun h176 => ?_) (fun h176 => ?_)
          rotate_left
          · exfalso; omega
          refine go_iconst (at_of tL_judges 5 15 rfl) (by unfold in32; omega) ?_
          refine go_istore (at_of tL_judges 6 0 rfl) rfl rfl ?_
          refine go_aload_n (at_of tL_judges 6 1 rfl) rfl ?_
          refine go_getrD (q := (F A.2.1).1) fl_L_25 rfl (by first | exact hgt | (simp (disch := omega) only [GamD_P1, GamD_M1, GamD_R1, GamD_dS]; exact hgt)) hpN (at_of tL_judges 6 2 rfl) ?_
          refine go_getrD (q := (F A.2.1).2.2.2.1) fl_L_54 rfl (by first | exact hgd | (simp (disch := omega) only [GamD_P1, GamD_M1, GamD_R1, GamD_dS]; exact hgd)) hpS (at_of tL_judges 6 3 rfl) ?_
          refine go_iload_n (at_of tL_judges 6 4 rfl) rfl ?_
          refine go_caldD (by first | exact hgS | (simp (disch := omega) only [GamD_P1, GamD_M1, GamD_R1, GamD_dS]; exact hgS)) (by omega) (by omega) (at_of tL_judges 6 5 rfl) ?_
          refine go_bipush (at_of tL_judges 6 6 rfl) (by decide) ?_
          rw [hl2]
          refine go_icmp_eq (tgt := 223) (at_of tL_judges 6 7 rfl) (by decide) (fun h197 => ?_) (fun h197 => ?_)
          rotate_left
          · exfalso; omega
          exact s2 _ _ _ _ (Nat.le_refl _) (Nat.le_refl _)
      · refine ⟨σ, F, A, ?_, h⟩
        by_cases q1 : lowF (shr v 9) 2 = 0
        · skip
          refine con_of_go mfL_judges.1 (Or.inr rfl) (Nat.le_of_ble_eq_true rfl) rfl (by decide) ?_
          show Go _ _ _ _ 0 [vA _, vA _, vI _, vT 9 0, vT 9 0, vT 9 0, vT 9 0, vT 9 0] [] _ _
          refine go_iload_n (at_of tL_judges 0 0 rfl) rfl ?_
          refine go_iconst (at_of tL_judges 0 1 rfl) (by unfold in32; omega) ?_
          refine go_cS (con_low (by omega)) lk_L_40 rfl (at_of tL_judges 0 2 rfl) rfl (by decide) rfl (Nat.le_of_ble_eq_true rfl) rfl (⟨by omega, by omega⟩) ?_
          refine go_if_ne (tgt := 131) (at_of tL_judges 0 3 rfl) (by decide) (fun h5 => ?_) (fun h5 => ?_)
          rotate_left
          · exfalso; omega
          refine go_aload_n (at_of tL_judges 4 4 rfl) rfl ?_
          refine go_getrD (q := (F A.2.1).1) fl_L_25 rfl (by first | exact hgt | (simp (disch := omega) only [GamD_P1, GamD_M1, GamD_R1, GamD_dS]; exact hgt)) hpN (at_of tL_judges 4 5 rfl) ?_
          refine go_getfD fl_L_49 rfl (by first | exact hgd | (simp (disch := omega) only [GamD_P1, GamD_M1, GamD_R1, GamD_dS]; exact hgd)) (at_of tL_judges 4 6 rfl) ?_
          rw [hch]
          refine go_if_ne (tgt := 154) (at_of tL_judges 4 7 rfl) (by decide) (fun h138 => ?_) (fun h138 => ?_)
          rotate_left
          · exfalso; omega
          refine go_iload_n (at_of tL_judges 4 15 rfl) rfl ?_
          refine go_iconst (at_of tL_judges 5 0 rfl) (by unfold in32; omega) ?_
          refine go_ishr (at_of tL_judges 5 1 rfl) ?_
          refine go_aload_n (at_of tL_judges 5 2 rfl) rfl ?_
          refine go_getrD (q := (F A.2.1).1) fl_L_25 rfl (by first | exact hgt | (simp (disch := omega) only [GamD_P1, GamD_M1, GamD_R1, GamD_dS]; exact hgt)) hpN (at_of tL_judges 5 3 rfl) ?_
          refine go_getfD fl_L_49 rfl (by first | exact hgd | (simp (disch := omega) only [GamD_P1, GamD_M1, GamD_R1, GamD_dS]; exact hgd)) (at_of tL_judges 5 4 rfl) ?_
          rw [hch]
          refine go_cS (con_low (by omega)) lk_L_40 rfl (at_of tL_judges 5 5 rfl) rfl (by decide) rfl (Nat.le_of_ble_eq_true rfl) rfl (⟨by omega, by omega⟩) ?_
          refine go_istore_n (at_of tL_judges 5 6 rfl) rfl rfl ?_
          refine go_iload_n (at_of tL_judges 5 7 rfl) rfl ?_
          refine go_bipush (at_of tL_judges 5 8 rfl) (by decide) ?_
          refine go_ishr (at_of tL_judges 5 9 rfl) ?_
          refine go_iconst (at_of tL_judges 5 10 rfl) (by unfold in32; omega) ?_
          refine go_cS (con_low (by omega)) lk_L_40 rfl (at_of tL_judges 5 11 rfl) rfl (by decide) rfl (Nat.le_of_ble_eq_true rfl) rfl (⟨by omega, by omega⟩) ?_
          refine go_if_ne (tgt := 183) (at_of tL_judges 5 12 rfl) (by decide) (fun h176 => ?_) (fun h176 => ?_)
          · exfalso; omega
          refine go_iconst (at_of tL_judges 5 13 rfl) (by unfold in32; omega) ?_
          refine go_goto (tgt := 184) (at_of tL_judges 5 14 rfl) (by decide) ?_
          refine go_istore (at_of tL_judges 6 0 rfl) rfl rfl ?_
          refine go_aload_n (at_of tL_judges 6 1 rfl) rfl ?_
          refine go_getrD (q := (F A.2.1).1) fl_L_25 rfl (by first | exact hgt | (simp (disch := omega) only [GamD_P1, GamD_M1, GamD_R1, GamD_dS]; exact hgt)) hpN (at_of tL_judges 6 2 rfl) ?_
          refine go_getrD (q := (F A.2.1).2.2.2.1) fl_L_54 rfl (by first | exact hgd | (simp (disch := omega) only [GamD_P1, GamD_M1, GamD_R1, GamD_dS]; exact hgd)) hpS (at_of tL_judges 6 3 rfl) ?_
          refine go_iload_n (at_of tL_judges 6 4 rfl) rfl ?_
          refine go_caldD (by first | exact hgS | (simp (disch := omega) only [GamD_P1, GamD_M1, GamD_R1, GamD_dS]; exact hgS)) (by omega) (by omega) (at_of tL_judges 6 5 rfl) ?_
          refine go_bipush (at_of tL_judges 6 6 rfl) (by decide) ?_
          rw [hl2]
          refine go_icmp_eq (tgt := 223) (at_of tL_judges 6 7 rfl) (by decide) (fun h197 => ?_) (fun h197 => ?_)
          · exfalso; omega
          refine go_aload_n (at_of tL_judges 6 8 rfl) rfl ?_
          refine go_iload_n (at_of tL_judges 6 9 rfl) rfl ?_
          refine go_cV (ok_stateOf hS hA hc) lk_L_69 rfl G_0 (at_of tL_judges 6 10 rfl) rfl (by decide) rfl (Nat.le_of_ble_eq_true rfl) rfl (⟨by omega, by omega⟩) ?_
          refine go_aload_n (at_of tL_judges 6 11 rfl) rfl ?_
          refine go_getrD (q := (F A.2.1).1) fl_L_25 rfl (by first | exact hgt | (simp (disch := omega) only [GamD_P1, GamD_M1, GamD_R1, GamD_dS]; exact hgt)) hpN (at_of tL_judges 6 12 rfl) ?_
          refine go_getrD (q := (F A.2.1).2.2.2.1) fl_L_54 rfl (by first | exact hgd | (simp (disch := omega) only [GamD_P1, GamD_M1, GamD_R1, GamD_dS]; exact hgd)) hpS (at_of tL_judges 6 13 rfl) ?_
          refine go_iload_n (at_of tL_judges 6 14 rfl) rfl ?_
          refine go_caldD (by first | exact hgS | (simp (disch := omega) only [GamD_P1, GamD_M1, GamD_R1, GamD_dS]; exact hgS)) (by omega) (by omega) (at_of tL_judges 6 15 rfl) ?_
          rw [hl2]
          refine go_icmp_ne (tgt := 221) (at_of tL_judges 7 0 rfl) (by decide) (fun h214 => ?_) (fun h214 => ?_)
          · exfalso; omega
          refine go_iconst (at_of tL_judges 7 1 rfl) (by unfold in32; omega) ?_
          refine go_goto (tgt := 222) (at_of tL_judges 7 2 rfl) (by decide) ?_
          first | exact go_reti (at_of tL_judges 7 4 rfl) rfl | exact go_reti (at_of tL_judges 7 4 rfl) (le_i (by omega)) | exact go_reti (at_of tL_judges 7 4 rfl) (le_i (by first | exact bI_t (by omega) | exact bI_f (by omega)))
        · skip
          refine con_of_go mfL_judges.1 (Or.inr rfl) (Nat.le_of_ble_eq_true rfl) rfl (by decide) ?_
          show Go _ _ _ _ 0 [vA _, vA _, vI _, vT 9 0, vT 9 0, vT 9 0, vT 9 0, vT 9 0] [] _ _
          refine go_iload_n (at_of tL_judges 0 0 rfl) rfl ?_
          refine go_iconst (at_of tL_judges 0 1 rfl) (by unfold in32; omega) ?_
          refine go_cS (con_low (by omega)) lk_L_40 rfl (at_of tL_judges 0 2 rfl) rfl (by decide) rfl (Nat.le_of_ble_eq_true rfl) rfl (⟨by omega, by omega⟩) ?_
          refine go_if_ne (tgt := 131) (at_of tL_judges 0 3 rfl) (by decide) (fun h5 => ?_) (fun h5 => ?_)
          rotate_left
          · exfalso; omega
          refine go_aload_n (at_of tL_judges 4 4 rfl) rfl ?_
          refine go_getrD (q := (F A.2.1).1) fl_L_25 rfl (by first | exact hgt | (simp (disch := omega) only [GamD_P1, GamD_M1, GamD_R1, GamD_dS]; exact hgt)) hpN (at_of tL_judges 4 5 rfl) ?_
          refine go_getfD fl_L_49 rfl (by first | exact hgd | (simp (disch := omega) only [GamD_P1, GamD_M1, GamD_R1, GamD_dS]; exact hgd)) (at_of tL_judges 4 6 rfl) ?_
          rw [hch]
          refine go_if_ne (tgt := 154) (at_of tL_judges 4 7 rfl) (by decide) (fun h138 => ?_) (fun h138 => ?_)
          rotate_left
          · exfalso; omega
          refine go_iload_n (at_of tL_judges 4 15 rfl) rfl ?_
          refine go_iconst (at_of tL_judges 5 0 rfl) (by unfold in32; omega) ?_
          refine go_ishr (at_of tL_judges 5 1 rfl) ?_
          refine go_aload_n (at_of tL_judges 5 2 rfl) rfl ?_
          refine go_getrD (q := (F A.2.1).1) fl_L_25 rfl (by first | exact hgt | (simp (disch := omega) only [GamD_P1, GamD_M1, GamD_R1, GamD_dS]; exact hgt)) hpN (at_of tL_judges 5 3 rfl) ?_
          refine go_getfD fl_L_49 rfl (by first | exact hgd | (simp (disch := omega) only [GamD_P1, GamD_M1, GamD_R1, GamD_dS]; exact hgd)) (at_of tL_judges 5 4 rfl) ?_
          rw [hch]
          refine go_cS (con_low (by omega)) lk_L_40 rfl (at_of tL_judges 5 5 rfl) rfl (by decide) rfl (Nat.le_of_ble_eq_true rfl) rfl (⟨by omega, by omega⟩) ?_
          refine go_istore_n (at_of tL_judges 5 6 rfl) rfl rfl ?_
          refine go_iload_n (at_of tL_judges 5 7 rfl) rfl ?_
          refine go_bipush (at_of tL_judges 5 8 rfl) (by decide) ?_
          refine go_ishr (at_of tL_judges 5 9 rfl) ?_
          refine go_iconst (at_of tL_judges 5 10 rfl) (by unfold in32; omega) ?_
          refine go_cS (con_low (by omega)) lk_L_40 rfl (at_of tL_judges 5 11 rfl) rfl (by decide) rfl (Nat.le_of_ble_eq_true rfl) rfl (⟨by omega, by omega⟩) ?_
          refine go_if_ne (tgt := 183) (at_of tL_judges 5 12 rfl) (by decide) (fun h176 => ?_) (fun h176 => ?_)
          rotate_left
          · exfalso; omega
          refine go_iconst (at_of tL_judges 5 15 rfl) (by unfold in32; omega) ?_
          refine go_istore (at_of tL_judges 6 0 rfl) rfl rfl ?_
          refine go_aload_n (at_of tL_judges 6 1 rfl) rfl ?_
          refine go_getrD (q := (F A.2.1).1) fl_L_25 rfl (by first | exact hgt | (simp (disch := omega) only [GamD_P1, GamD_M1, GamD_R1, GamD_dS]; exact hgt)) hpN (at_of tL_judges 6 2 rfl) ?_
          refine go_getrD (q := (F A.2.1).2.2.2.1) fl_L_54 rfl (by first | exact hgd | (simp (disch := omega) only [GamD_P1, GamD_M1, GamD_R1, GamD_dS]; exact hgd)) hpS (at_of tL_judges 6 3 rfl) ?_
          refine go_iload_n (at_of tL_judges 6 4 rfl) rfl ?_
          refine go_caldD (by first | exact hgS | (simp (disch := omega) only [GamD_P1, GamD_M1, GamD_R1, GamD_dS]; exact hgS)) (by omega) (by omega) (at_of tL_judges 6 5 rfl) ?_
          refine go_bipush (at_of tL_judges 6 6 rfl) (by decide) ?_
          rw [hl2]
          refine go_icmp_eq (tgt := 223) (at_of tL_judges 6 7 rfl) (by decide) (fun h197 => ?_) (fun h197 => ?_)
          · exfalso; omega
          refine go_aload_n (at_of tL_judges 6 8 rfl) rfl ?_
          refine go_iload_n (at_of tL_judges 6 9 rfl) rfl ?_
          refine go_cV (ok_stateOf hS hA hc) lk_L_69 rfl G_0 (at_of tL_judges 6 10 rfl) rfl (by decide) rfl (Nat.le_of_ble_eq_true rfl) rfl (⟨by omega, by omega⟩) ?_
          refine go_aload_n (at_of tL_judges 6 11 rfl) rfl ?_
          refine go_getrD (q := (F A.2.1).1) fl_L_25 rfl (by first | exact hgt | (simp (disch := omega) only [GamD_P1, GamD_M1, GamD_R1, GamD_dS]; exact hgt)) hpN (at_of tL_judges 6 12 rfl) ?_
          refine go_getrD (q := (F A.2.1).2.2.2.1) fl_L_54 rfl (by first | exact hgd | (simp (disch := omega) only [GamD_P1, GamD_M1, GamD_R1, GamD_dS]; exact hgd)) hpS (at_of tL_judges 6 13 rfl) ?_
          refine go_iload_n (at_of tL_judges 6 14 rfl) rfl ?_
          refine go_caldD (by first | exact hgS | (simp (disch := omega) only [GamD_P1, GamD_M1, GamD_R1, GamD_dS]; exact hgS)) (by omega) (by omega) (at_of tL_judges 6 15 rfl) ?_
          rw [hl2]
          refine go_icmp_ne (tgt := 221) (at_of tL_judges 7 0 rfl) (by decide) (fun h214 => ?_) (fun h214 => ?_)
          · exfalso; omega
          refine go_iconst (at_of tL_judges 7 1 rfl) (by unfold in32; omega) ?_
          refine go_goto (tgt := 222) (at_of tL_judges 7 2 rfl) (by decide) ?_
          first | exact go_reti (at_of tL_judges 7 4 rfl) rfl | exact go_reti (at_of tL_judges 7 4 rfl) (le_i (by omega)) | exact go_reti (at_of tL_judges 7 4 rfl) (le_i (by first | exact bI_t (by omega) | exact bI_f (by omega)))
end Judges3
