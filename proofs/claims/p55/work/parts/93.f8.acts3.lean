/-! One act, on both sides. -/
section Acts2
variable {σ σ' τ : St} {A : PastD} {D : PapD} {F : Nat → DocF} {k : Nat}
theorem PastR.lo1 {pi : Nat → Nat} (h : PastR σ pi A) (hF : ∀ x, 1 ≤ x → x < 109 → (∀ j, σ'.1 x j = σ.1 x j) ∧ ∀ j, σ'.2.1 x j = σ.2.1 x j) : PastR σ' pi A := by
  obtain ⟨⟨a, b⟩, c, d, e, f⟩ := h
  refine ⟨⟨fun j hj => ⟨((hF 2 (by omega) (by omega)).2 j).trans (a j hj).1, (a j hj).2⟩, b⟩, ((hF 1 (by omega) (by omega)).1 1).trans c, ((hF 1 (by omega) (by omega)).1 2).trans d, e, fun j hj => (f j hj).eqs (fun x h1 h2 => (hF x (by omega) ?_).1)⟩
  have := (a j (by omega)).2
  omega
/-- tracking switched on both sides -/
theorem Sim.track (h : Sim σ F A k) {z : Int} (hz : z = 0 ∨ z = 1) : Sim (P1 (P1 σ 109 5 z) 0 0 z) F A k := by
  obtain ⟨⟨hO1, ⟨pi, hO2⟩, hO3, hO4⟩, hK, h5, hP⟩ := id h
  have hcap := h.cap
  have o1 : OutD σ (P1 (P1 σ 109 5 z) 0 0 z) (fun x => x = 109 ∨ x = 0) := OutD.p1.trans OutD.p1
  have gam : ∀ x, GamD (P1 (P1 σ 109 5 z) 0 0 z) x = GamD σ x := fun x => (GamD_P1 (by decide)).trans (GamD_P1 (by decide))
  have v9 : ∀ j, j ≠ 5 → (P1 (P1 σ 109 5 z) 0 0 z).1 109 j = σ.1 109 j := fun j hj => (P1_ne (by decide)).trans (P1_nj hj)
  obtain ⟨hT, ⟨a1, a2, a3⟩, b, c, d, e, f⟩ := id hK
  refine ⟨⟨hO1, ⟨pi, hO2.lo1 (fun x h1 h2 => o1.2 x (by omega) (by omega))⟩, ?_, ?_⟩, ⟨hT.out o1 (fun x _ => gam x) ⟨rfl, rfl⟩, ⟨(v9 2 (by decide)).trans a1, (v9 4 (by decide)).trans a2, a3⟩, b, c, d, fun j hj => (e j hj).out o1 (fun x hx => ?_), f⟩, ?_, hP⟩
  · unfold WH
    rw [(o1.2 98 (by omega) (by omega)).1, (o1.2 98 (by omega) (by omega)).1]
    exact hO3
  · rw [P1_eq]; exact hz
  · have q1 := (e j hj).no hT hx
    have q2 := ((e j hj).g hx).2.1
    omega
  · rw [P1_eq, P1_ne (by decide), P1_eq]
theorem con_acts (hLet : LetR) (h : Sim σ F A k) (hk : k < 200) {v : Int} : ∃ σ2 F2 A2, Con 7 mL_acts 205 1137 [vA 0, vA 109, vI v] σ (vI 1, σ2) ∧ Sim σ2 F2 A2 (k + 1) := by
  have h9 := h.2.1.same
  obtain ⟨hS, ⟨pi, hA⟩, hWH, h01⟩ := id h.1
  obtain ⟨hP, hk9⟩ := h.pp
  obtain ⟨hT, ⟨a1, a2, a3⟩, hpN, -⟩ := id h9
  obtain ⟨⟨hgt, hgB, hgH⟩, ⟨hpB, hpH⟩, hcc⟩ := id hT
  have hnow := h9.nowD
  obtain ⟨⟨⟨hgd, hgU, hgA, hgS⟩, ⟨hpU, hpA, hpS⟩, hge, hlt⟩, ⟨hn, hn2, -, -, -⟩, -, -, hch, hch2, hcl⟩ := id hnow
  have hDR : DocR σ (F A.2.1).1 (F A.2.1).2.1 (F A.2.1).2.2.1 (F A.2.1).2.2.2.1 (F A.2.1).2.2.2.2 (toL (A.1 A.2.1).1) (A.1 A.2.1).2.1.1 (A.1 A.2.1).2.1.2.2.1 (A.1 A.2.1).2.1.2.2.2 := hnow
  have hN := hP.nn
  have hcs := cntS_le (toL (A.1 A.2.1).1)
  have htl := toL_len (R := (A.1 A.2.1).1)
  have w0 := lowF_lt (v := v) (n := 16) (by decide)
  have w1 := lowF_lt (v := shr v 4) (n := 4) (by decide)
  have w2 := lowF_lt (v := shr v 8) (n := (cntS (toL (A.1 A.2.1).1)) + 1) (by omega)
  by_cases cI : lowF v 16 < 7 ∧ (A.1 A.2.1).2.1.1 < 60
  · by_cases q1 : lowF (shr v 6) 3 = 0
    · obtain ⟨σ2, F2, A2, s1, s2⟩ := act_I h hk (v := v) (n := (cntS (toL (A.1 A.2.1).1))) (w := lowF v 16) (a := lowF (shr v 4) 4) (p := (lowF (shr v 8) ((cntS (toL (A.1 A.2.1).1)) + 1))) (l := (letC (lowF (shr v 14) 5))) (by omega) (by omega) letC_ok (by omega)
      refine ⟨σ2, F2, A2, ?_, s1⟩
      refine con_of_go mfL_acts.1 (Or.inr rfl) (Nat.le_of_ble_eq_true rfl) rfl (by decide) ?_
      show Go _ _ _ _ 0 [vA _, vA _, vI _, vT 9 0, vT 9 0, vT 9 0, vT 9 0, vT 9 0] [] _ _
      refine go_aload_n (at_of tL_acts 0 0 rfl) rfl ?_
      refine go_getrD (q := (F A.2.1).1) fl_L_25 rfl (by first | exact hgt | (simp (disch := omega) only [GamD_P1, GamD_M1, GamD_R1, GamD_dS]; exact hgt)) hpN (at_of tL_acts 0 1 rfl) ?_
      refine go_cVD (con_lenD hDR) lk_L_80 rfl (by first | exact hgd | (simp (disch := omega) only [GamD_P1, GamD_M1, GamD_R1, GamD_dS]; exact hgd)) (at_of tL_acts 0 2 rfl) rfl (by decide) rfl (Nat.le_of_ble_eq_true rfl) rfl (⟨by omega, by omega⟩) ?_
      refine go_istore_n (at_of tL_acts 0 3 rfl) rfl rfl ?_
      refine go_iload_n (at_of tL_acts 0 4 rfl) rfl ?_
      refine go_iconst (at_of tL_acts 0 5 rfl) (by unfold in32; omega) ?_
      refine go_ishr (at_of tL_acts 0 6 rfl) ?_
      refine go_iconst (at_of tL_acts 0 7 rfl) (by unfold in32; omega) ?_
      refine go_cS (con_low (by omega)) lk_L_40 rfl (at_of tL_acts 0 8 rfl) rfl (by decide) rfl (Nat.le_of_ble_eq_true rfl) rfl (⟨by omega, by omega⟩) ?_
      refine go_istore (at_of tL_acts 0 9 rfl) rfl rfl ?_
      refine go_iload_n (at_of tL_acts 0 10 rfl) rfl ?_
      refine go_bipush (at_of tL_acts 0 11 rfl) (by decide) ?_
      refine go_cS (con_low (by omega)) lk_L_40 rfl (at_of tL_acts 0 12 rfl) rfl (by decide) rfl (Nat.le_of_ble_eq_true rfl) rfl (⟨by omega, by omega⟩) ?_
      refine go_istore (at_of tL_acts 0 13 rfl) rfl rfl ?_
      refine go_iload (at_of tL_acts 0 14 rfl) rfl rfl ?_
      refine go_bipush (at_of tL_acts 0 15 rfl) (by decide) ?_
      refine go_icmp_ge (tgt := 126) (at_of tL_acts 1 0 rfl) (by decide) (fun h29 => ?_) (fun h29 => ?_)
      · exfalso; omega
      refine go_aload_n (at_of tL_acts 1 1 rfl) rfl ?_
      refine go_getrD (q := (F A.2.1).1) fl_L_25 rfl (by first | exact hgt | (simp (disch := omega) only [GamD_P1, GamD_M1, GamD_R1, GamD_dS]; exact hgt)) hpN (at_of tL_acts 1 2 rfl) ?_
      refine go_getfD fl_L_49 rfl (by first | exact hgd | (simp (disch := omega) only [GamD_P1, GamD_M1, GamD_R1, GamD_dS]; exact hgd)) (at_of tL_acts 1 3 rfl) ?_
      refine go_bipush (at_of tL_acts 1 4 rfl) (by decide) ?_
      rw [hch]
      refine go_icmp_ge (tgt := 126) (at_of tL_acts 1 5 rfl) (by decide) (fun h41 => ?_) (fun h41 => ?_)
      · exfalso; omega
      refine go_iload_n (at_of tL_acts 1 6 rfl) rfl ?_
      refine go_bipush (at_of tL_acts 1 7 rfl) (by decide) ?_
      refine go_ishr (at_of tL_acts 1 8 rfl) ?_
      refine go_iconst (at_of tL_acts 1 9 rfl) (by unfold in32; omega) ?_
      refine go_cS (con_low (by omega)) lk_L_40 rfl (at_of tL_acts 1 10 rfl) rfl (by decide) rfl (Nat.le_of_ble_eq_true rfl) rfl (⟨by omega, by omega⟩) ?_
      refine go_if_ne (tgt := 68) (at_of tL_acts 1 11 rfl) (by decide) (fun h52 => ?_) (fun h52 => ?_)
      · exfalso; omega
      refine go_iload_n (at_of tL_acts 1 12 rfl) rfl ?_
      refine go_bipush (at_of tL_acts 1 13 rfl) (by decide) ?_
      refine go_ishr (at_of tL_acts 1 14 rfl) ?_
      refine go_iload_n (at_of tL_acts 1 15 rfl) rfl ?_
      refine go_iconst (at_of tL_acts 2 0 rfl) (by unfold in32; omega) ?_
      refine go_iadd (at_of tL_acts 2 1 rfl) (by unfold in32; omega) ?_
      refine go_cS (con_low (by omega)) lk_L_40 rfl (at_of tL_acts 2 2 rfl) rfl (by decide) rfl (Nat.le_of_ble_eq_true rfl) rfl (⟨by omega, by omega⟩) ?_
      refine go_goto (tgt := 69) (at_of tL_acts 2 3 rfl) (by decide) ?_
      refine go_istore (at_of tL_acts 2 5 rfl) rfl rfl ?_
      refine hLet rfl ?_
      refine go_istore (at_of tL_acts 2 13 rfl) rfl rfl ?_
      exact s2 _ (Nat.le_refl _) (Nat.le_refl _)
    · obtain ⟨σ2, F2, A2, s1, s2⟩ := act_I h hk (v := v) (n := (cntS (toL (A.1 A.2.1).1))) (w := lowF v 16) (a := lowF (shr v 4) 4) (p := (cntS (toL (A.1 A.2.1).1))) (l := (letC (lowF (shr v 14) 5))) (by omega) (by omega) letC_ok (by omega)
      refine ⟨σ2, F2, A2, ?_, s1⟩
      refine con_of_go mfL_acts.1 (Or.inr rfl) (Nat.le_of_ble_eq_true rfl) rfl (by decide) ?_
      show Go _ _ _ _ 0 [vA _, vA _, vI _, vT 9 0, vT 9 0, vT 9 0, vT 9 0, vT 9 0] [] _ _
      refine go_aload_n (at_of tL_acts 0 0 rfl) rfl ?_
      refine go_getrD (q := (F A.2.1).1) fl_L_25 rfl (by first | exact hgt | (simp (disch := omega) only [GamD_P1, GamD_M1, GamD_R1, GamD_dS]; exact hgt)) hpN (at_of tL_acts 0 1 rfl) ?_
      refine go_cVD (con_lenD hDR) lk_L_80 rfl (by first | exact hgd | (simp (disch := omega) only [GamD_P1, GamD_M1, GamD_R1, GamD_dS]; exact hgd)) (at_of tL_acts 0 2 rfl) rfl (by decide) rfl (Nat.le_of_ble_eq_true rfl) rfl (⟨by omega, by omega⟩) ?_
      refine go_istore_n (at_of tL_acts 0 3 rfl) rfl rfl ?_
      refine go_iload_n (at_of tL_acts 0 4 rfl) rfl ?_
      refine go_iconst (at_of tL_acts 0 5 rfl) (by unfold in32; omega) ?_
      refine go_ishr (at_of tL_acts 0 6 rfl) ?_
      refine go_iconst (at_of tL_acts 0 7 rfl) (by unfold in32; omega) ?_
      refine go_cS (con_low (by omega)) lk_L_40 rfl (at_of tL_acts 0 8 rfl) rfl (by decide) rfl (Nat.le_of_ble_eq_true rfl) rfl (⟨by omega, by omega⟩) ?_
      refine go_istore (at_of tL_acts 0 9 rfl) rfl rfl ?_
      refine go_iload_n (at_of tL_acts 0 10 rfl) rfl ?_
      refine go_bipush (at_of tL_acts 0 11 rfl) (by decide) ?_
      refine go_cS (con_low (by omega)) lk_L_40 rfl (at_of tL_acts 0 12 rfl) rfl (by decide) rfl (Nat.le_of_ble_eq_true rfl) rfl (⟨by omega, by omega⟩) ?_
      refine go_istore (at_of tL_acts 0 13 rfl) rfl rfl ?_
      refine go_iload (at_of tL_acts 0 14 rfl) rfl rfl ?_
      refine go_bipush (at_of tL_acts 0 15 rfl) (by decide) ?_
      refine go_icmp_ge (tgt := 126) (at_of tL_acts 1 0 rfl) (by decide) (fun h29 => ?_) (fun h29 => ?_)
      · exfalso; omega
      refine go_aload_n (at_of tL_acts 1 1 rfl) rfl ?_
      refine go_getrD (q := (F A.2.1).1) fl_L_25 rfl (by first | exact hgt | (simp (disch := omega) only [GamD_P1, GamD_M1, GamD_R1, GamD_dS]; exact hgt)) hpN (at_of tL_acts 1 2 rfl) ?_
      refine go_getfD fl_L_49 rfl (by first | exact hgd | (simp (disch := omega) only [GamD_P1, GamD_M1, GamD_R1, GamD_dS]; exact hgd)) (at_of tL_acts 1 3 rfl) ?_
      refine go_bipush (at_of tL_acts 1 4 rfl) (by decide) ?_
      rw [hch]
      refine go_icmp_ge (tgt := 126) (at_of tL_acts 1 5 rfl) (by decide) (fun h41 => ?_) (fun h41 => ?_)
      · exfalso; omega
      refine go_iload_n (at_of tL_acts 1 6 rfl) rfl ?_
      refine go_bipush (at_of tL_acts 1 7 rfl) (by decide) ?_
      refine go_ishr (at_of tL_acts 1 8 rfl) ?_
      refine go_iconst (at_of tL_acts 1 9 rfl) (by unfold in32; omega) ?_
      refine go_cS (con_low (by omega)) lk_L_40 rfl (at_of tL_acts 1 10 rfl) rfl (by decide) rfl (Nat.le_of_ble_eq_true rfl) rfl (⟨by omega, by omega⟩) ?_
      refine go_if_ne (tgt := 68) (at_of tL_acts 1 11 rfl) (by decide) (fun h52 => ?_) (fun h52 => ?_)
      rotate_left
      · exfalso; omega
      refine go_iload_n (at_of tL_acts 2 4 rfl) rfl ?_
      refine go_istore (at_of tL_acts 2 5 rfl) rfl rfl ?_
      refine hLet rfl ?_
      refine go_istore (at_of tL_acts 2 13 rfl) rfl rfl ?_
      exact s2 _ (Nat.le_refl _) (Nat.le_refl _)
  by_cases cE : lowF v 16 < 10 ∧ (A.1 A.2.1).2.1.1 < 60 ∧ 0 < (cntS (toL (A.1 A.2.1).1))
  · have w3 := lowF_lt (v := shr v 6) (n := (cntS (toL (A.1 A.2.1).1))) (by omega)
    have hm : 0 < (if (cntS (toL (A.1 A.2.1).1)) - lowF (shr v 6) (cntS (toL (A.1 A.2.1).1)) < 4 then (cntS (toL (A.1 A.2.1).1)) - lowF (shr v 6) (cntS (toL (A.1 A.2.1).1)) else 4) ∧ (if (cntS (toL (A.1 A.2.1).1)) - lowF (shr v 6) (cntS (toL (A.1 A.2.1).1)) < 4 then (cntS (toL (A.1 A.2.1).1)) - lowF (shr v 6) (cntS (toL (A.1 A.2.1).1)) else 4) ≤ (cntS (toL (A.1 A.2.1).1)) - lowF (shr v 6) (cntS (toL (A.1 A.2.1).1)) := by split <;> omega
    have w4 := lowF_lt (v := shr v 12) (n := (if (cntS (toL (A.1 A.2.1).1)) - lowF (shr v 6) (cntS (toL (A.1 A.2.1).1)) < 4 then (cntS (toL (A.1 A.2.1).1)) - lowF (shr v 6) (cntS (toL (A.1 A.2.1).1)) else 4)) hm.1
    obtain ⟨σ2, F2, A2, s1, s2⟩ := act_E h (v := v) (n := (cntS (toL (A.1 A.2.1).1))) (w := lowF v 16) (a := lowF (shr v 4) 4) (p := lowF (shr v 6) (cntS (toL (A.1 A.2.1).1))) (z := lowF (shr v 6) (cntS (toL (A.1 A.2.1).1)) + 1 + lowF (shr v 12) (if (cntS (toL (A.1 A.2.1).1)) - lowF (shr v 6) (cntS (toL (A.1 A.2.1).1)) < 4 then (cntS (toL (A.1 A.2.1).1)) - lowF (shr v 6) (cntS (toL (A.1 A.2.1).1)) else 4)) (by omega) (by omega) (by omega)
    refine ⟨σ2, F2, A2, ?_, s1.mono (Nat.le_succ k)⟩
    refine con_of_go mfL_acts.1 (Or.inr rfl) (Nat.le_of_ble_eq_true rfl) rfl (by decide) ?_
    show Go _ _ _ _ 0 [vA _, vA _, vI _, vT 9 0, vT 9 0, vT 9 0, vT 9 0, vT 9 0] [] _ _
    refine go_aload_n (at_of tL_acts 0 0 rfl) rfl ?_
    refine go_getrD (q := (F A.2.1).1) fl_L_25 rfl (by first | exact hgt | (simp (disch := omega) only [GamD_P1, GamD_M1, GamD_R1, GamD_dS]; exact hgt)) hpN (at_of tL_acts 0 1 rfl) ?_
    refine go_cVD (con_lenD hDR) lk_L_80 rfl (by first | exact hgd | (simp (disch := omega) only [GamD_P1, GamD_M1, GamD_R1, GamD_dS]; exact hgd)) (at_of tL_acts 0 2 rfl) rfl (by decide) rfl (Nat.le_of_ble_eq_true rfl) rfl (⟨by omega, by omega⟩) ?_
    refine go_istore_n (at_of tL_acts 0 3 rfl) rfl rfl ?_
    refine go_iload_n (at_of tL_acts 0 4 rfl) rfl ?_
    refine go_iconst (at_of tL_acts 0 5 rfl) (by unfold in32; omega) ?_
    refine go_ishr (at_of tL_acts 0 6 rfl) ?_
    refine go_iconst (at_of tL_acts 0 7 rfl) (by unfold in32; omega) ?_
    refine go_cS (con_low (by omega)) lk_L_40 rfl (at_of tL_acts 0 8 rfl) rfl (by decide) rfl (Nat.le_of_ble_eq_true rfl) rfl (⟨by omega, by omega⟩) ?_
    refine go_istore (at_of tL_acts 0 9 rfl) rfl rfl ?_
    refine go_iload_n (at_of tL_acts 0 10 rfl) rfl ?_
    refine go_bipush (at_of tL_acts 0 11 rfl) (by decide) ?_
    refine go_cS (con_low (by omega)) lk_L_40 rfl (at_of tL_acts 0 12 rfl) rfl (by decide) rfl (Nat.le_of_ble_eq_true rfl) rfl (⟨by omega, by omega⟩) ?_
    refine go_istore (at_of tL_acts 0 13 rfl) rfl rfl ?_
    refine go_iload (at_of tL_acts 0 14 rfl) rfl rfl ?_
    refine go_bipush (at_of tL_acts 0 15 rfl) (by decide) ?_
    refine go_icmp_ge (tgt := 126) (at_of tL_acts 1 0 rfl) (by decide) (fun h29 => ?_) (fun h29 => ?_)
    rotate_left
    · exfalso; omega
    refine go_iload (at_of tL_acts 4 2 rfl) rfl rfl ?_
    refine go_bipush (at_of tL_acts 4 3 rfl) (by decide) ?_
    refine go_icmp_ge (tgt := 221) (at_of tL_acts 4 4 rfl) (by decide) (fun h130 => ?_) (fun h130 => ?_)
    · exfalso; omega
    refine go_aload_n (at_of tL_acts 4 5 rfl) rfl ?_
    refine go_getrD (q := (F A.2.1).1) fl_L_25 rfl (by first | exact hgt | (simp (disch := omega) only [GamD_P1, GamD_M1, GamD_R1, GamD_dS]; exact hgt)) hpN (at_of tL_acts 4 6 rfl) ?_
    refine go_getfD fl_L_49 rfl (by first | exact hgd | (simp (disch := omega) only [GamD_P1, GamD_M1, GamD_R1, GamD_dS]; exact hgd)) (at_of tL_acts 4 7 rfl) ?_
    refine go_bipush (at_of tL_acts 4 8 rfl) (by decide) ?_
    rw [hch]
    refine go_icmp_ge (tgt := 221) (at_of tL_acts 4 9 rfl) (by decide) (fun h142 => ?_) (fun h142 => ?_)
    · exfalso; omega
    refine go_iload_n (at_of tL_acts 4 10 rfl) rfl ?_
    refine go_if_le (tgt := 221) (at_of tL_acts 4 11 rfl) (by decide) (fun h146 => ?_) (fun h146 => ?_)
    · exfalso; omega
    refine go_iload_n (at_of tL_acts 4 12 rfl) rfl ?_
    refine go_bipush (at_of tL_acts 4 13 rfl) (by decide) ?_
    refine go_ishr (at_of tL_acts 4 14 rfl) ?_
    refine go_iload_n (at_of tL_acts 4 15 rfl) rfl ?_
    refine go_cS (con_low (by omega)) lk_L_40 rfl (at_of tL_acts 5 0 rfl) rfl (by decide) rfl (Nat.le_of_ble_eq_true rfl) rfl (⟨by omega, by omega⟩) ?_
    refine go_istore (at_of tL_acts 5 1 rfl) rfl rfl ?_
    refine go_iload (at_of tL_acts 5 2 rfl) rfl rfl ?_
    refine go_iconst (at_of tL_acts 5 3 rfl) (by unfold in32; omega) ?_
    refine go_iadd (at_of tL_acts 5 4 rfl) (by unfold in32; omega) ?_
    refine go_iload_n (at_of tL_acts 5 5 rfl) rfl ?_
    refine go_bipush (at_of tL_acts 5 6 rfl) (by decide) ?_
    refine go_ishr (at_of tL_acts 5 7 rfl) ?_
    refine go_iconst (at_of tL_acts 5 8 rfl) (by unfold in32; omega) ?_
    refine go_iload_n (at_of tL_acts 5 9 rfl) rfl ?_
    refine go_iload (at_of tL_acts 5 10 rfl) rfl rfl ?_
    refine go_isub (at_of tL_acts 5 11 rfl) (by unfold in32; omega) ?_
    refine go_min (inL 718 (by decide +kernel) (by decide +kernel)) (at_of tL_acts 5 12 rfl) (Nat.le_of_ble_eq_true rfl) ?_
    refine go_cS (con_low hm.1) lk_L_40 rfl (at_of tL_acts 5 13 rfl) rfl (by decide) rfl (Nat.le_of_ble_eq_true rfl) rfl (⟨by omega, by omega⟩) ?_
    refine go_iadd (at_of tL_acts 5 14 rfl) (by unfold in32; omega) ?_
    refine go_istore (at_of tL_acts 5 15 rfl) rfl rfl ?_
    exact s2 _ (Nat.le_refl _) (Nat.le_refl _)
  have mk : ∀ {σ2 : St}, (∀ v6 v7 : MV, Go (fun _ => 0) 7 mL_acts (205, 1137) 221 [vA 0, vA 109, vI v, vI (cntS (toL (A.1 A.2.1).1)), vI (lowF (shr v 4) 4), vI (lowF v 16), v6, v7] [] σ (vI 1, σ2)) → Con 7 mL_acts 205 1137 [vA 0, vA 109, vI v] σ (vI 1, σ2) := fun {σ2} K => by
    refine con_of_go mfL_acts.1 (Or.inr rfl) (Nat.le_of_ble_eq_true rfl) rfl (by decide) ?_
    show Go _ _ _ _ 0 [vA _, vA _, vI _, vT 9 0, vT 9 0, vT 9 0, vT 9 0, vT 9 0] [] _ _
    refine go_aload_n (at_of tL_acts 0 0 rfl) rfl ?_
    refine go_getrD (q := (F A.2.1).1) fl_L_25 rfl (by first | exact hgt | (simp (disch := omega) only [GamD_P1, GamD_M1, GamD_R1, GamD_dS]; exact hgt)) hpN (at_of tL_acts 0 1 rfl) ?_
    refine go_cVD (con_lenD hDR) lk_L_80 rfl (by first | exact hgd | (simp (disch := omega) only [GamD_P1, GamD_M1, GamD_R1, GamD_dS]; exact hgd)) (at_of tL_acts 0 2 rfl) rfl (by decide) rfl (Nat.le_of_ble_eq_true rfl) rfl (⟨by omega, by omega⟩) ?_
    refine go_istore_n (at_of tL_acts 0 3 rfl) rfl rfl ?_
    refine go_iload_n (at_of tL_acts 0 4 rfl) rfl ?_
    refine go_iconst (at_of tL_acts 0 5 rfl) (by unfold in32; omega) ?_
    refine go_ishr (at_of tL_acts 0 6 rfl) ?_
    refine go_iconst (at_of tL_acts 0 7 rfl) (by unfold in32; omega) ?_
    refine go_cS (con_low (by omega)) lk_L_40 rfl (at_of tL_acts 0 8 rfl) rfl (by decide) rfl (Nat.le_of_ble_eq_true rfl) rfl (⟨by omega, by omega⟩) ?_
    refine go_istore (at_of tL_acts 0 9 rfl) rfl rfl ?_
    refine go_iload_n (at_of tL_acts 0 10 rfl) rfl ?_
    refine go_bipush (at_of tL_acts 0 11 rfl) (by decide) ?_
    refine go_cS (con_low (by omega)) lk_L_40 rfl (at_of tL_acts 0 12 rfl) rfl (by decide) rfl (Nat.le_of_ble_eq_true rfl) rfl (⟨by omega, by omega⟩) ?_
    refine go_istore (at_of tL_acts 0 13 rfl) rfl rfl ?_
    refine go_iload (at_of tL_acts 0 14 rfl) rfl rfl ?_
    refine go_bipush (at_of tL_acts 0 15 rfl) (by decide) ?_
    refine go_icmp_ge (tgt := 126) (at_of tL_acts 1 0 rfl) (by decide) (fun h29 => ?_) (fun h29 => ?_)
    · first
      | exfalso; omega
      | refine go_iload (at_of tL_acts 4 2 rfl) rfl rfl ?_
        refine go_bipush (at_of tL_acts 4 3 rfl) (by decide) ?_
        refine go_icmp_ge (tgt := 221) (at_of tL_acts 4 4 rfl) (by decide) (fun h130 => ?_) (fun h130 => ?_)
        · first
          | exfalso; omega
          | exact K _ _
        · first
          | exfalso; omega
          | refine go_aload_n (at_of tL_acts 4 5 rfl) rfl ?_
            refine go_getrD (q := (F A.2.1).1) fl_L_25 rfl (by first | exact hgt | (simp (disch := omega) only [GamD_P1, GamD_M1, GamD_R1, GamD_dS]; exact hgt)) hpN (at_of tL_acts 4 6 rfl) ?_
            refine go_getfD fl_L_49 rfl (by first | exact hgd | (simp (disch := omega) only [GamD_P1, GamD_M1, GamD_R1, GamD_dS]; exact hgd)) (at_of tL_acts 4 7 rfl) ?_
            refine go_bipush (at_of tL_acts 4 8 rfl) (by decide) ?_
            rw [hch]
            refine go_icmp_ge (tgt := 221) (at_of tL_acts 4 9 rfl) (by decide) (fun h142 => ?_) (fun h142 => ?_)
            · first
              | exfalso; omega
              | exact K _ _
            · first
              | exfalso; omega
              | refine go_iload_n (at_of tL_acts 4 10 rfl) rfl ?_
                refine go_if_le (tgt := 221) (at_of tL_acts 4 11 rfl) (by decide) (fun h146 => ?_) (fun h146 => ?_)
                · first
                  | exfalso; omega
                  | exact K _ _
                · first
                  | exfalso; omega
                  | exfalso; omega
    · first
      | exfalso; omega
      | refine go_aload_n (at_of tL_acts 1 1 rfl) rfl ?_
        refine go_getrD (q := (F A.2.1).1) fl_L_25 rfl (by first | exact hgt | (simp (disch := omega) only [GamD_P1, GamD_M1, GamD_R1, GamD_dS]; exact hgt)) hpN (at_of tL_acts 1 2 rfl) ?_
        refine go_getfD fl_L_49 rfl (by first | exact hgd | (simp (disch := omega) only [GamD_P1, GamD_M1, GamD_R1, GamD_dS]; exact hgd)) (at_of tL_acts 1 3 rfl) ?_
        refine go_bipush (at_of tL_acts 1 4 rfl) (by decide) ?_
        rw [hch]
        refine go_icmp_ge (tgt := 126) (at_of tL_acts 1 5 rfl) (by decide) (fun h41 => ?_) (fun h41 => ?_)
        · first
          | exfalso; omega
          | refine go_iload (at_of tL_acts 4 2 rfl) rfl rfl ?_
            refine go_bipush (at_of tL_acts 4 3 rfl) (by decide) ?_
            refine go_icmp_ge (tgt := 221) (at_of tL_acts 4 4 rfl) (by decide) (fun h130 => ?_) (fun h130 => ?_)
            · first
              | exfalso; omega
              | exact K _ _
            · first
              | exfalso; omega
              | refine go_aload_n (at_of tL_acts 4 5 rfl) rfl ?_
                refine go_getrD (q := (F A.2.1).1) fl_L_25 rfl (by first | exact hgt | (simp (disch := omega) only [GamD_P1, GamD_M1, GamD_R1, GamD_dS]; exact hgt)) hpN (at_of tL_acts 4 6 rfl) ?_
                refine go_getfD fl_L_49 rfl (by first | exact hgd | (simp (disch := omega) only [GamD_P1, GamD_M1, GamD_R1, GamD_dS]; exact hgd)) (at_of tL_acts 4 7 rfl) ?_
                refine go_bipush (at_of tL_acts 4 8 rfl) (by decide) ?_
                rw [hch]
                refine go_icmp_ge (tgt := 221) (at_of tL_acts 4 9 rfl) (by decide) (fun h142 => ?_) (fun h142 => ?_)
                · first
                  | exfalso; omega
                  | exact K _ _
                · first
                  | exfalso; omega
                  | refine go_iload_n (at_of tL_acts 4 10 rfl) rfl ?_
                    refine go_if_le (tgt := 221) (at_of tL_acts 4 11 rfl) (by decide) (fun h146 => ?_) (fun h146 => ?_)
                    · first
                      | exfalso; omega
                      | exact K _ _
                    · first
                      | exfalso; omega
                      | exfalso; omega
        · first
          | exfalso; omega
          | exfalso; omega
  have LSx : True := trivial
  by_cases cJ : lowF v 16 < 12
  · obtain ⟨σ2, F2, A2, j1, j2⟩ := con_judges h (v := shr v 4)
    refine ⟨σ2, F2, A2, mk fun v6 v7 => ?_, j2.mono (Nat.le_succ k)⟩
    refine go_iload (at_of tL_acts 7 4 rfl) rfl rfl ?_
    refine go_bipush (at_of tL_acts 7 5 rfl) (by decide) ?_
    refine go_icmp_ge (tgt := 237) (at_of tL_acts 7 6 rfl) (by decide) (fun h225 => ?_) (fun h225 => ?_)
    · exfalso; omega
    refine go_aload_n (at_of tL_acts 7 7 rfl) rfl ?_
    refine go_aload_n (at_of tL_acts 7 8 rfl) rfl ?_
    refine go_iload_n (at_of tL_acts 7 9 rfl) rfl ?_
    refine go_iconst (at_of tL_acts 7 10 rfl) (by unfold in32; omega) ?_
    refine go_ishr (at_of tL_acts 7 11 rfl) ?_
    refine go_cS (j1) lk_L_114 rfl (at_of tL_acts 7 12 rfl) rfl (by decide) rfl (Nat.le_of_ble_eq_true rfl) rfl (⟨by omega, by omega⟩) ?_
    first | exact go_reti (at_of tL_acts 7 13 rfl) rfl | exact go_reti (at_of tL_acts 7 13 rfl) (le_i (by omega)) | exact go_reti (at_of tL_acts 7 13 rfl) (le_i (by first | exact bI_t (by omega) | exact bI_f (by omega)))
  by_cases cT : lowF v 16 = 12
  · by_cases q1 : 0 < lowF (shr v 4) 4
    · refine ⟨_, F, A, mk fun v6 v7 => ?_, (h.track (z := 1) (Or.inr rfl)).mono (Nat.le_succ k)⟩
      refine go_iload (at_of tL_acts 7 4 rfl) rfl rfl ?_
      refine go_bipush (at_of tL_acts 7 5 rfl) (by decide) ?_
      refine go_icmp_ge (tgt := 237) (at_of tL_acts 7 6 rfl) (by decide) (fun h225 => ?_) (fun h225 => ?_)
      rotate_left
      · exfalso; omega
      refine go_iload (at_of tL_acts 7 14 rfl) rfl rfl ?_
      refine go_bipush (at_of tL_acts 7 15 rfl) (by decide) ?_
      refine go_icmp_ne (tgt := 288) (at_of tL_acts 8 0 rfl) (by decide) (fun h241 => ?_) (fun h241 => ?_)
      · exfalso; omega
      refine go_aload_n (at_of tL_acts 8 1 rfl) rfl ?_
      refine go_getfD fl_L_94 rfl (by first | exact hgt | (simp (disch := omega) only [GamD_P1, GamD_M1, GamD_R1, GamD_dS]; exact hgt)) (at_of tL_acts 8 2 rfl) ?_
      refine go_istore (at_of tL_acts 8 3 rfl) rfl rfl ?_
      refine go_aload_n (at_of tL_acts 8 4 rfl) rfl ?_
      refine go_iload_n (at_of tL_acts 8 5 rfl) rfl ?_
      refine go_iconst (at_of tL_acts 8 6 rfl) (by unfold in32; omega) ?_
      refine go_ishr (at_of tL_acts 8 7 rfl) ?_
      refine go_iconst (at_of tL_acts 8 8 rfl) (by unfold in32; omega) ?_
      refine go_cS (con_low (by omega)) lk_L_40 rfl (at_of tL_acts 8 9 rfl) rfl (by decide) rfl (Nat.le_of_ble_eq_true rfl) rfl (⟨by omega, by omega⟩) ?_
      refine go_if_le (tgt := 265) (at_of tL_acts 8 10 rfl) (by decide) (fun h258 => ?_) (fun h258 => ?_)
      · exfalso; omega
      refine go_iconst (at_of tL_acts 8 11 rfl) (by unfold in32; omega) ?_
      refine go_goto (tgt := 266) (at_of tL_acts 8 12 rfl) (by decide) ?_
      refine go_put1D fp_L_94 rfl (Or.inl rfl) hgt (Or.inl (Or.inr (by omega))) (at_of tL_acts 8 14 rfl) ?_
      refine go_aload_n (at_of tL_acts 8 15 rfl) rfl ?_
      refine go_aload_n (at_of tL_acts 9 0 rfl) rfl ?_
      refine go_getfD fl_L_94 rfl ((GamD_P1 (by decide)).trans hgt) (at_of tL_acts 9 1 rfl) ?_
      rw [P1_eq]
      refine go_cV (ok_setTracking (σ := P1 σ 109 5 1) hS (hA.lo1 (fun x _ hx => ⟨fun j => P1_ne (by omega), fun j => rfl⟩)) (Or.inr rfl) (by rw [P1_ne (by decide)]; exact h01)) lk_L_118 rfl G_0 (at_of tL_acts 9 2 rfl) rfl (by decide) rfl (Nat.le_of_ble_eq_true rfl) rfl (⟨by omega, by omega⟩) ?_
      refine go_iload (at_of tL_acts 9 3 rfl) rfl rfl ?_
      rw [P1_ne (by decide)]
      refine go_icmp_ne (tgt := 286) (at_of tL_acts 9 4 rfl) (by decide) (fun h279 => ?_) (fun h279 => ?_)
      · exfalso; exact h279 h.2.2.1.symm
      refine go_iconst (at_of tL_acts 9 5 rfl) (by unfold in32; omega) ?_
      refine go_goto (tgt := 287) (at_of tL_acts 9 6 rfl) (by decide) ?_
      first | exact go_reti (at_of tL_acts 9 8 rfl) rfl | exact go_reti (at_of tL_acts 9 8 rfl) (le_i (by omega)) | exact go_reti (at_of tL_acts 9 8 rfl) (le_i (by first | exact bI_t (by omega) | exact bI_f (by omega)))
    · refine ⟨_, F, A, mk fun v6 v7 => ?_, (h.track (z := 0) (Or.inl rfl)).mono (Nat.le_succ k)⟩
      refine go_iload (at_of tL_acts 7 4 rfl) rfl rfl ?_
      refine go_bipush (at_of tL_acts 7 5 rfl) (by decide) ?_
      refine go_icmp_ge (tgt := 237) (at_of tL_acts 7 6 rfl) (by decide) (fun h225 => ?_) (fun h225 => ?_)
      rotate_left
      · exfalso; omega
      refine go_iload (at_of tL_acts 7 14 rfl) rfl rfl ?_
      refine go_bipush (at_of tL_acts 7 15 rfl) (by decide) ?_
      refine go_icmp_ne (tgt := 288) (at_of tL_acts 8 0 rfl) (by decide) (fun h241 => ?_) (fun h241 => ?_)
      · exfalso; omega
      refine go_aload_n (at_of tL_acts 8 1 rfl) rfl ?_
      refine go_getfD fl_L_94 rfl (by first | exact hgt | (simp (disch := omega) only [GamD_P1, GamD_M1, GamD_R1, GamD_dS]; exact hgt)) (at_of tL_acts 8 2 rfl) ?_
      refine go_istore (at_of tL_acts 8 3 rfl) rfl rfl ?_
      refine go_aload_n (at_of tL_acts 8 4 rfl) rfl ?_
      refine go_iload_n (at_of tL_acts 8 5 rfl) rfl ?_
      refine go_iconst (at_of tL_acts 8 6 rfl) (by unfold in32; omega) ?_
      refine go_ishr (at_of tL_acts 8 7 rfl) ?_
      refine go_iconst (at_of tL_acts 8 8 rfl) (by unfold in32; omega) ?_
      refine go_cS (con_low (by omega)) lk_L_40 rfl (at_of tL_acts 8 9 rfl) rfl (by decide) rfl (Nat.le_of_ble_eq_true rfl) rfl (⟨by omega, by omega⟩) ?_
      refine go_if_le (tgt := 265) (at_of tL_acts 8 10 rfl) (by decide) (fun h258 => ?_) (fun h258 => ?_)
      rotate_left
      · exfalso; omega
      refine go_iconst (at_of tL_acts 8 13 rfl) (by unfold in32; omega) ?_
      refine go_put1D fp_L_94 rfl (Or.inl rfl) hgt (Or.inl (Or.inr (by omega))) (at_of tL_acts 8 14 rfl) ?_
      refine go_aload_n (at_of tL_acts 8 15 rfl) rfl ?_
      refine go_aload_n (at_of tL_acts 9 0 rfl) rfl ?_
      refine go_getfD fl_L_94 rfl ((GamD_P1 (by decide)).trans hgt) (at_of tL_acts 9 1 rfl) ?_
      rw [P1_eq]
      refine go_cV (ok_setTracking (σ := P1 σ 109 5 0) hS (hA.lo1 (fun x _ hx => ⟨fun j => P1_ne (by omega), fun j => rfl⟩)) (Or.inl rfl) (by rw [P1_ne (by decide)]; exact h01)) lk_L_118 rfl G_0 (at_of tL_acts 9 2 rfl) rfl (by decide) rfl (Nat.le_of_ble_eq_true rfl) rfl (⟨by omega, by omega⟩) ?_
      refine go_iload (at_of tL_acts 9 3 rfl) rfl rfl ?_
      rw [P1_ne (by decide)]
      refine go_icmp_ne (tgt := 286) (at_of tL_acts 9 4 rfl) (by decide) (fun h279 => ?_) (fun h279 => ?_)
      · exfalso; exact h279 h.2.2.1.symm
      refine go_iconst (at_of tL_acts 9 5 rfl) (by unfold in32; omega) ?_
      refine go_goto (tgt := 287) (at_of tL_acts 9 6 rfl) (by decide) ?_
      first | exact go_reti (at_of tL_acts 9 8 rfl) rfl | exact go_reti (at_of tL_acts 9 8 rfl) (le_i (by omega)) | exact go_reti (at_of tL_acts 9 8 rfl) (le_i (by first | exact bI_t (by omega) | exact bI_f (by omega)))
  by_cases cR : lowF v 16 = 15
  · obtain ⟨σ2, A2, j1, j2⟩ := con_redoes h
    refine ⟨σ2, F, A2, mk fun v6 v7 => ?_, j2.mono (Nat.le_succ k)⟩
    refine go_iload (at_of tL_acts 7 4 rfl) rfl rfl ?_
    refine go_bipush (at_of tL_acts 7 5 rfl) (by decide) ?_
    refine go_icmp_ge (tgt := 237) (at_of tL_acts 7 6 rfl) (by decide) (fun h225 => ?_) (fun h225 => ?_)
    rotate_left
    · exfalso; omega
    refine go_iload (at_of tL_acts 7 14 rfl) rfl rfl ?_
    refine go_bipush (at_of tL_acts 7 15 rfl) (by decide) ?_
    refine go_icmp_ne (tgt := 288) (at_of tL_acts 8 0 rfl) (by decide) (fun h241 => ?_) (fun h241 => ?_)
    rotate_left
    · exfalso; omega
    refine go_iload (at_of tL_acts 9 9 rfl) rfl rfl ?_
    refine go_bipush (at_of tL_acts 9 10 rfl) (by decide) ?_
    refine go_icmp_ne (tgt := 303) (at_of tL_acts 9 11 rfl) (by decide) (fun h292 => ?_) (fun h292 => ?_)
    · exfalso; omega
    refine go_aload_n (at_of tL_acts 9 12 rfl) rfl ?_
    refine go_aload_n (at_of tL_acts 9 13 rfl) rfl ?_
    refine go_cX (j1) lk_L_122 rfl (at_of tL_acts 9 14 rfl) rfl (by decide) rfl (Nat.le_of_ble_eq_true rfl) rfl (⟨by omega, by omega⟩) ?_
    refine go_goto (tgt := 323) (at_of tL_acts 9 15 rfl) (by decide) ?_
    first | exact go_reti (at_of tL_acts 10 10 rfl) rfl | exact go_reti (at_of tL_acts 10 10 rfl) (le_i (by omega)) | exact go_reti (at_of tL_acts 10 10 rfl) (le_i (by first | exact bI_t (by omega) | exact bI_f (by omega)))
  · obtain ⟨σ2, A2, j1, j2⟩ := con_undoes h
    refine ⟨σ2, F, A2, mk fun v6 v7 => ?_, j2.mono (Nat.le_succ k)⟩
    refine go_iload (at_of tL_acts 7 4 rfl) rfl rfl ?_
    refine go_bipush (at_of tL_acts 7 5 rfl) (by decide) ?_
    refine go_icmp_ge (tgt := 237) (at_of tL_acts 7 6 rfl) (by decide) (fun h225 => ?_) (fun h225 => ?_)
    rotate_left
    · exfalso; omega
    refine go_iload (at_of tL_acts 7 14 rfl) rfl rfl ?_
    refine go_bipush (at_of tL_acts 7 15 rfl) (by decide) ?_
    refine go_icmp_ne (tgt := 288) (at_of tL_acts 8 0 rfl) (by decide) (fun h241 => ?_) (fun h241 => ?_)
    rotate_left
    · exfalso; omega
    refine go_iload (at_of tL_acts 9 9 rfl) rfl rfl ?_
    refine go_bipush (at_of tL_acts 9 10 rfl) (by decide) ?_
    refine go_icmp_ne (tgt := 303) (at_of tL_acts 9 11 rfl) (by decide) (fun h292 => ?_) (fun h292 => ?_)
    rotate_left
    · exfalso; omega
    refine go_iload (at_of tL_acts 10 0 rfl) rfl rfl ?_
    refine go_bipush (at_of tL_acts 10 1 rfl) (by decide) ?_
    refine go_icmp_lt (tgt := 318) (at_of tL_acts 10 2 rfl) (by decide) (fun h307 => ?_) (fun h307 => ?_)
    · exfalso; omega
    refine go_aload_n (at_of tL_acts 10 3 rfl) rfl ?_
    refine go_aload_n (at_of tL_acts 10 4 rfl) rfl ?_
    refine go_cX (j1) lk_L_126 rfl (at_of tL_acts 10 5 rfl) rfl (by decide) rfl (Nat.le_of_ble_eq_true rfl) rfl (⟨by omega, by omega⟩) ?_
    refine go_if_eq (tgt := 322) (at_of tL_acts 10 6 rfl) (by decide) (fun h315 => ?_) (fun h315 => ?_)
    · exfalso; omega
    refine go_iconst (at_of tL_acts 10 7 rfl) (by unfold in32; omega) ?_
    refine go_goto (tgt := 323) (at_of tL_acts 10 8 rfl) (by decide) ?_
    first | exact go_reti (at_of tL_acts 10 10 rfl) rfl | exact go_reti (at_of tL_acts 10 10 rfl) (le_i (by omega)) | exact go_reti (at_of tL_acts 10 10 rfl) (le_i (by first | exact bI_t (by omega) | exact bI_f (by omega)))
end Acts2
