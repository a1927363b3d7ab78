/-! Undoing and redoing. -/
section Undo
variable {σ σ' τ : St} {A : PastD} {F : Nat → DocF} {un rn : Nat} {P : Nat → PapD}
theorem DocP.dk {f : DocF} {D : PapD} (h : DocP σ f D) (hT : DkT σ) (hF : OutD σ σ' (fun x => x = 109 ∨ x = 114 ∨ x = 115)) : DocP σ' f D := h.out hF (fun x hx => by
  have := h.no hT hx
  omega)
theorem cat_undoes : Cat mL_undoes 1 4 65 := ⟨[], [], 0, 64, 35, rfl, by decide, by decide, by decide, cl_L_35, by decide, fun z hz => nomatch hz⟩
theorem cat_redoes : Cat mL_redoes 1 4 65 := ⟨[], [], 0, 64, 35, rfl, by decide, by decide, by decide, cl_L_35, by decide, fun z hz => nomatch hz⟩
theorem cat_changeAt : Cat mL_changeAt 2 4 6 := ⟨[], [], 0, 5, 35, rfl, by decide, by decide, by decide, cl_L_35, by decide, fun z hz => nomatch hz⟩
def unS (σ : St) (un rn : Nat) (q q2 : Nat) : St := R1 (P1 (P1 (R1 σ 115 rn q) 109 4 ((rn : Int) + 1)) 109 2 ((un : Int) - 1)) 109 0 q2
def reS (σ : St) (un rn : Nat) (q q2 : Nat) : St := R1 (P1 (P1 (R1 σ 114 un q) 109 2 ((un : Int) + 1)) 109 4 ((rn : Int) - 1)) 109 0 q2
theorem unS_R (h : DkR σ F un rn P) (h0 : 0 < un) : DkR (unS σ un rn (F un).1 (F (un - 1)).1) F (un - 1) (rn + 1) P ∧ OutD σ (unS σ un rn (F un).1 (F (un - 1)).1) (fun x => x = 109 ∨ x = 114 ∨ x = 115) := by
  obtain ⟨hT, ⟨a1, a2, a3⟩, hpN, hB, hH, hD, hS⟩ := id h
  obtain ⟨⟨hgt, hgB, hgH⟩, ⟨hpB, hpH⟩, hcc⟩ := id hT
  have o1 : OutD σ (unS σ un rn (F un).1 (F (un - 1)).1) (fun x => x = 109 ∨ x = 114 ∨ x = 115) := (((OutD.r1.trans OutD.p1).trans OutD.p1).trans OutD.r1).mono (fun x _ hx => by omega)
  have gam : ∀ x, GamD (unS σ un rn (F un).1 (F (un - 1)).1) x = GamD σ x := fun x => GamD_R1.trans ((GamD_P1 (by decide)).trans ((GamD_P1 (by decide)).trans GamD_R1))
  refine ⟨⟨hT.out o1 (fun x _ => gam x) ⟨(R1_nj (by decide)).trans (R1_ne (by decide)), (R1_nj (by decide)).trans (R1_ne (by decide))⟩, ⟨?_, ?_, by omega⟩, R1_eq, fun i hi => ?_, fun i hi => ?_, fun j hj => (hD j (by omega)).dk hT o1, fun i j hi hj => hS i j (by omega) (by omega)⟩, o1⟩
  · show (P1 (P1 (R1 σ 115 rn (F un).1) 109 4 ((rn : Int) + 1)) 109 2 ((un : Int) - 1)).1 109 2 = _
    rw [P1_eq]
    omega
  · show (P1 (P1 (R1 σ 115 rn (F un).1) 109 4 ((rn : Int) + 1)) 109 2 ((un : Int) - 1)).1 109 4 = _
    rw [P1_nj (by decide), P1_eq]
    omega
  · exact ((R1_ne (by decide)).trans (R1_ne (by decide))).trans (hB i (by omega))
  · refine (R1_ne (by decide)).trans ?_
    by_cases hi2 : i = rn
    · rw [hi2, show un - 1 + (rn + 1) - rn = un by omega]
      exact R1_eq
    · refine (R1_nj hi2).trans ?_
      rw [hH i (by omega), show un - 1 + (rn + 1) - i = un + rn - i by omega]
theorem reS_R (h : DkR σ F un rn P) (h0 : 0 < rn) : DkR (reS σ un rn (F un).1 (F (un + 1)).1) F (un + 1) (rn - 1) P ∧ OutD σ (reS σ un rn (F un).1 (F (un + 1)).1) (fun x => x = 109 ∨ x = 114 ∨ x = 115) := by
  obtain ⟨hT, ⟨a1, a2, a3⟩, hpN, hB, hH, hD, hS⟩ := id h
  obtain ⟨⟨hgt, hgB, hgH⟩, ⟨hpB, hpH⟩, hcc⟩ := id hT
  have o1 : OutD σ (reS σ un rn (F un).1 (F (un + 1)).1) (fun x => x = 109 ∨ x = 114 ∨ x = 115) := (((OutD.r1.trans OutD.p1).trans OutD.p1).trans OutD.r1).mono (fun x _ hx => by omega)
  have gam : ∀ x, GamD (reS σ un rn (F un).1 (F (un + 1)).1) x = GamD σ x := fun x => GamD_R1.trans ((GamD_P1 (by decide)).trans ((GamD_P1 (by decide)).trans GamD_R1))
  refine ⟨⟨hT.out o1 (fun x _ => gam x) ⟨(R1_nj (by decide)).trans (R1_ne (by decide)), (R1_nj (by decide)).trans (R1_ne (by decide))⟩, ⟨?_, ?_, by omega⟩, R1_eq, fun i hi => ?_, fun i hi => ?_, fun j hj => (hD j (by omega)).dk hT o1, fun i j hi hj => hS i j (by omega) (by omega)⟩, o1⟩
  · show (P1 (P1 (R1 σ 114 un (F un).1) 109 2 ((un : Int) + 1)) 109 4 ((rn : Int) - 1)).1 109 2 = _
    rw [P1_nj (by decide), P1_eq]
    omega
  · show (P1 (P1 (R1 σ 114 un (F un).1) 109 2 ((un : Int) + 1)) 109 4 ((rn : Int) - 1)).1 109 4 = _
    rw [P1_eq]
    omega
  · refine (R1_ne (by decide)).trans ?_
    by_cases hi2 : i = un
    · rw [hi2]
      exact R1_eq
    · exact (R1_nj hi2).trans (hB i (by omega))
  · refine ((R1_ne (by decide)).trans (R1_ne (by decide))).trans ?_
    rw [hH i (by omega), show un + 1 + (rn - 1) - i = un + rn - i by omega]
theorem undoes_tail (h : DkR σ F un rn P) (h0 : 0 < un) (b : Nat × Nat) {z : Int} (hz : z = (un : Int) - 1) : Go (fun _ => 0) 3 mL_undoes b 4 [vA 0, vA 109, vT 9 0] [vI z] σ (vI 1, unS σ un rn (F un).1 (F (un - 1)).1) := by
  obtain ⟨hT, ⟨a1, a2, a3⟩, hpN, hB, hH, hD, hS⟩ := id h
  obtain ⟨⟨hgt, hgB, hgH⟩, ⟨hpB, hpH⟩, hcc⟩ := id hT
  have hgd : GamD σ (F un).1 = (21, 0) := (hD un (by omega)).1.1.1
  have hpX : (R1 σ 115 rn (F un).1).2.1 109 1 = some 114 := (R1_ne (by decide)).trans hpB
  have hq : (R1 σ 115 rn (F un).1).2.1 114 ((un : Int) - 1).toNat = some (F (un - 1)).1 := (R1_ne (by decide)).trans (by
    rw [show ((un : Int) - 1).toNat = un - 1 by omega]
    exact hB (un - 1) (by omega))
  refine go_istore_n (at_of tL_undoes 0 2 rfl) rfl rfl ?_
  refine go_aload_n (at_of tL_undoes 0 3 rfl) rfl ?_
  refine go_getrD (q := 115) fl_L_15 rfl (by first | exact hgt | (simp (disch := omega) only [GamD_P1, GamD_M1, GamD_R1, GamD_dS]; exact hgt)) hpH (at_of tL_undoes 0 4 rfl) ?_
  refine go_aload_n (at_of tL_undoes 0 5 rfl) rfl ?_
  refine go_getfD fl_L_21 rfl (by first | exact hgt | (simp (disch := omega) only [GamD_P1, GamD_M1, GamD_R1, GamD_dS]; exact hgt)) (at_of tL_undoes 0 6 rfl) ?_
  rw [a2]
  refine go_aload_n (at_of tL_undoes 0 7 rfl) rfl ?_
  refine go_getrD (q := (F un).1) fl_L_25 rfl (by first | exact hgt | (simp (disch := omega) only [GamD_P1, GamD_M1, GamD_R1, GamD_dS]; exact hgt)) hpN (at_of tL_undoes 0 8 rfl) ?_
  refine go_aast1D (by first | exact hgH | (simp (disch := omega) only [GamD_P1, GamD_M1, GamD_R1, GamD_dS]; exact hgH)) (Or.inr (Or.inl rfl)) (by omega) (by omega) hgd (at_of tL_undoes 0 9 rfl) ?_
  rw [show ((rn : Int)).toNat = rn from rfl]
  refine go_aload_n (at_of tL_undoes 0 10 rfl) rfl ?_
  refine go_dup (at_of tL_undoes 0 11 rfl) rfl ?_
  refine go_getfD fl_L_21 rfl (by first | exact hgt | (simp (disch := omega) only [GamD_P1, GamD_M1, GamD_R1, GamD_dS]; exact hgt)) (at_of tL_undoes 0 12 rfl) ?_
  rw [show (R1 σ 115 rn (F un).1).1 109 4 = (rn : Int) from a2]
  refine go_iconst (at_of tL_undoes 0 13 rfl) (by unfold in32; omega) ?_
  refine go_iadd (at_of tL_undoes 0 14 rfl) (by unfold in32; omega) ?_
  refine go_put1D fp_L_21 rfl (Or.inl rfl) (by first | exact hgt | (simp (disch := omega) only [GamD_P1, GamD_M1, GamD_R1, GamD_dS]; exact hgt)) (Or.inl (Or.inl rfl)) (at_of tL_undoes 0 15 rfl) ?_
  refine go_aload_n (at_of tL_undoes 1 0 rfl) rfl ?_
  refine go_dup (at_of tL_undoes 1 1 rfl) rfl ?_
  refine go_getfD fl_L_29 rfl (by first | exact hgt | (simp (disch := omega) only [GamD_P1, GamD_M1, GamD_R1, GamD_dS]; exact hgt)) (at_of tL_undoes 1 2 rfl) ?_
  rw [show (P1 (R1 σ 115 rn (F un).1) 109 4 ((rn : Int) + 1)).1 109 2 = (un : Int) from (P1_nj (by decide)).trans a1]
  refine go_iconst (at_of tL_undoes 1 3 rfl) (by unfold in32; omega) ?_
  refine go_isub (at_of tL_undoes 1 4 rfl) (by unfold in32; omega) ?_
  refine go_put1D fp_L_29 rfl (Or.inl rfl) (by first | exact hgt | (simp (disch := omega) only [GamD_P1, GamD_M1, GamD_R1, GamD_dS]; exact hgt)) (Or.inl (Or.inl rfl)) (at_of tL_undoes 1 5 rfl) ?_
  refine go_aload_n (at_of tL_undoes 1 6 rfl) rfl ?_
  refine go_aload_n (at_of tL_undoes 1 7 rfl) rfl ?_
  refine go_getrD (q := 114) fl_L_32 rfl (by first | exact hgt | (simp (disch := omega) only [GamD_P1, GamD_M1, GamD_R1, GamD_dS]; exact hgt)) (by exact hpX) (at_of tL_undoes 1 8 rfl) ?_
  refine go_aload_n (at_of tL_undoes 1 9 rfl) rfl ?_
  refine go_getfD fl_L_29 rfl (by first | exact hgt | (simp (disch := omega) only [GamD_P1, GamD_M1, GamD_R1, GamD_dS]; exact hgt)) (at_of tL_undoes 1 10 rfl) ?_
  rw [P1_eq]
  refine go_aaldD (by first | exact hgB | (simp (disch := omega) only [GamD_P1, GamD_M1, GamD_R1, GamD_dS]; exact hgB)) (Or.inr (Or.inl rfl)) (by omega) (by omega) hq (at_of tL_undoes 1 11 rfl) ?_
  refine go_putr1D fp_L_25 rfl (Or.inl rfl) (by first | exact hgt | (simp (disch := omega) only [GamD_P1, GamD_M1, GamD_R1, GamD_dS]; exact hgt)) (at_of tL_undoes 1 12 rfl) ?_
  refine go_iload_n (at_of tL_undoes 1 13 rfl) rfl ?_
  refine go_aload_n (at_of tL_undoes 1 14 rfl) rfl ?_
  refine go_getfD fl_L_29 rfl (by first | exact hgt | (simp (disch := omega) only [GamD_P1, GamD_M1, GamD_R1, GamD_dS]; exact hgt)) (at_of tL_undoes 1 15 rfl) ?_
  rw [show (R1 (P1 (P1 (R1 σ 115 rn (F un).1) 109 4 ((rn : Int) + 1)) 109 2 ((un : Int) - 1)) 109 0 (F (un - 1)).1).1 109 2 = (un : Int) - 1 from P1_eq (σ := P1 (R1 σ 115 rn (F un).1) 109 4 ((rn : Int) + 1)) (a := 109) (j := 2) (z := (un : Int) - 1)]
  refine go_icmp_ne (tgt := 63) (at_of tL_undoes 2 0 rfl) (by decide) (fun h56 => ?_) (fun h56 => ?_)
  · exfalso; omega
  refine go_iconst (at_of tL_undoes 2 1 rfl) (by unfold in32; omega) ?_
  refine go_goto (tgt := 64) (at_of tL_undoes 2 2 rfl) (by decide) ?_
  first | exact go_reti (at_of tL_undoes 2 4 rfl) rfl | exact go_reti (at_of tL_undoes 2 4 rfl) (le_i (by omega)) | exact go_reti (at_of tL_undoes 2 4 rfl) (le_i (by first | exact bI_t (by omega) | exact bI_f (by omega)))
theorem redoes_tail (h : DkR σ F un rn P) (h0 : 0 < rn) (b : Nat × Nat) {z : Int} (hz : z = (rn : Int) - 1) : Go (fun _ => 0) 3 mL_redoes b 4 [vA 0, vA 109, vT 9 0] [vI z] σ (vI 1, reS σ un rn (F un).1 (F (un + 1)).1) := by
  obtain ⟨hT, ⟨a1, a2, a3⟩, hpN, hB, hH, hD, hS⟩ := id h
  obtain ⟨⟨hgt, hgB, hgH⟩, ⟨hpB, hpH⟩, hcc⟩ := id hT
  have hgd : GamD σ (F un).1 = (21, 0) := (hD un (by omega)).1.1.1
  have hpX : (R1 σ 114 un (F un).1).2.1 109 3 = some 115 := (R1_ne (by decide)).trans hpH
  have hq : (R1 σ 114 un (F un).1).2.1 115 ((rn : Int) - 1).toNat = some (F (un + 1)).1 := (R1_ne (by decide)).trans (by
    rw [show ((rn : Int) - 1).toNat = rn - 1 by omega]
    exact by rw [hH (rn - 1) (by omega), show un + rn - (rn - 1) = un + 1 by omega])
  refine go_istore_n (at_of tL_redoes 0 2 rfl) rfl rfl ?_
  refine go_aload_n (at_of tL_redoes 0 3 rfl) rfl ?_
  refine go_getrD (q := 114) fl_L_32 rfl (by first | exact hgt | (simp (disch := omega) only [GamD_P1, GamD_M1, GamD_R1, GamD_dS]; exact hgt)) hpB (at_of tL_redoes 0 4 rfl) ?_
  refine go_aload_n (at_of tL_redoes 0 5 rfl) rfl ?_
  refine go_getfD fl_L_29 rfl (by first | exact hgt | (simp (disch := omega) only [GamD_P1, GamD_M1, GamD_R1, GamD_dS]; exact hgt)) (at_of tL_redoes 0 6 rfl) ?_
  rw [a1]
  refine go_aload_n (at_of tL_redoes 0 7 rfl) rfl ?_
  refine go_getrD (q := (F un).1) fl_L_25 rfl (by first | exact hgt | (simp (disch := omega) only [GamD_P1, GamD_M1, GamD_R1, GamD_dS]; exact hgt)) hpN (at_of tL_redoes 0 8 rfl) ?_
  refine go_aast1D (by first | exact hgB | (simp (disch := omega) only [GamD_P1, GamD_M1, GamD_R1, GamD_dS]; exact hgB)) (Or.inr (Or.inl rfl)) (by omega) (by omega) hgd (at_of tL_redoes 0 9 rfl) ?_
  rw [show ((un : Int)).toNat = un from rfl]
  refine go_aload_n (at_of tL_redoes 0 10 rfl) rfl ?_
  refine go_dup (at_of tL_redoes 0 11 rfl) rfl ?_
  refine go_getfD fl_L_29 rfl (by first | exact hgt | (simp (disch := omega) only [GamD_P1, GamD_M1, GamD_R1, GamD_dS]; exact hgt)) (at_of tL_redoes 0 12 rfl) ?_
  rw [show (R1 σ 114 un (F un).1).1 109 2 = (un : Int) from a1]
  refine go_iconst (at_of tL_redoes 0 13 rfl) (by unfold in32; omega) ?_
  refine go_iadd (at_of tL_redoes 0 14 rfl) (by unfold in32; omega) ?_
  refine go_put1D fp_L_29 rfl (Or.inl rfl) (by first | exact hgt | (simp (disch := omega) only [GamD_P1, GamD_M1, GamD_R1, GamD_dS]; exact hgt)) (Or.inl (Or.inl rfl)) (at_of tL_redoes 0 15 rfl) ?_
  refine go_aload_n (at_of tL_redoes 1 0 rfl) rfl ?_
  refine go_dup (at_of tL_redoes 1 1 rfl) rfl ?_
  refine go_getfD fl_L_21 rfl (by first | exact hgt | (simp (disch := omega) only [GamD_P1, GamD_M1, GamD_R1, GamD_dS]; exact hgt)) (at_of tL_redoes 1 2 rfl) ?_
  rw [show (P1 (R1 σ 114 un (F un).1) 109 2 ((un : Int) + 1)).1 109 4 = (rn : Int) from (P1_nj (by decide)).trans a2]
  refine go_iconst (at_of tL_redoes 1 3 rfl) (by unfold in32; omega) ?_
  refine go_isub (at_of tL_redoes 1 4 rfl) (by unfold in32; omega) ?_
  refine go_put1D fp_L_21 rfl (Or.inl rfl) (by first | exact hgt | (simp (disch := omega) only [GamD_P1, GamD_M1, GamD_R1, GamD_dS]; exact hgt)) (Or.inl (Or.inl rfl)) (at_of tL_redoes 1 5 rfl) ?_
  refine go_aload_n (at_of tL_redoes 1 6 rfl) rfl ?_
  refine go_aload_n (at_of tL_redoes 1 7 rfl) rfl ?_
  refine go_getrD (q := 115) fl_L_15 rfl (by first | exact hgt | (simp (disch := omega) only [GamD_P1, GamD_M1, GamD_R1, GamD_dS]; exact hgt)) (by exact hpX) (at_of tL_redoes 1 8 rfl) ?_
  refine go_aload_n (at_of tL_redoes 1 9 rfl) rfl ?_
  refine go_getfD fl_L_21 rfl (by first | exact hgt | (simp (disch := omega) only [GamD_P1, GamD_M1, GamD_R1, GamD_dS]; exact hgt)) (at_of tL_redoes 1 10 rfl) ?_
  rw [P1_eq]
  refine go_aaldD (by first | exact hgH | (simp (disch := omega) only [GamD_P1, GamD_M1, GamD_R1, GamD_dS]; exact hgH)) (Or.inr (Or.inl rfl)) (by omega) (by omega) hq (at_of tL_redoes 1 11 rfl) ?_
  refine go_putr1D fp_L_25 rfl (Or.inl rfl) (by first | exact hgt | (simp (disch := omega) only [GamD_P1, GamD_M1, GamD_R1, GamD_dS]; exact hgt)) (at_of tL_redoes 1 12 rfl) ?_
  refine go_iload_n (at_of tL_redoes 1 13 rfl) rfl ?_
  refine go_aload_n (at_of tL_redoes 1 14 rfl) rfl ?_
  refine go_getfD fl_L_21 rfl (by first | exact hgt | (simp (disch := omega) only [GamD_P1, GamD_M1, GamD_R1, GamD_dS]; exact hgt)) (at_of tL_redoes 1 15 rfl) ?_
  rw [show (R1 (P1 (P1 (R1 σ 114 un (F un).1) 109 2 ((un : Int) + 1)) 109 4 ((rn : Int) - 1)) 109 0 (F (un + 1)).1).1 109 4 = (rn : Int) - 1 from P1_eq (σ := P1 (R1 σ 114 un (F un).1) 109 2 ((un : Int) + 1)) (a := 109) (j := 4) (z := (rn : Int) - 1)]
  refine go_icmp_ne (tgt := 63) (at_of tL_redoes 2 0 rfl) (by decide) (fun h56 => ?_) (fun h56 => ?_)
  · exfalso; omega
  refine go_iconst (at_of tL_redoes 2 1 rfl) (by unfold in32; omega) ?_
  refine go_goto (tgt := 64) (at_of tL_redoes 2 2 rfl) (by decide) ?_
  first | exact go_reti (at_of tL_redoes 2 4 rfl) rfl | exact go_reti (at_of tL_redoes 2 4 rfl) (le_i (by omega)) | exact go_reti (at_of tL_redoes 2 4 rfl) (le_i (by first | exact bI_t (by omega) | exact bI_f (by omega)))
theorem con_undoes {k : Nat} (h : Sim σ F A k) : ∃ σ2 A2, Con 3 mL_undoes 1 6 [vA 0, vA 109] σ (vI 1, σ2) ∧ Sim σ2 F A2 k := by
  obtain ⟨⟨hO1, ⟨pi, hO2⟩, hO3, hO4⟩, hK, h5, hP⟩ := id h
  by_cases h0 : A.2.1 = 0
  · refine ⟨σ, A, ?_, h⟩
    obtain ⟨hT, ⟨a1, a2, a3⟩, -⟩ := id hK
    obtain ⟨⟨hgt, -, -⟩, -⟩ := id hT
    refine con_of_go mfL_undoes.1 (Or.inr rfl) (Nat.le_of_ble_eq_true rfl) rfl (by decide) ?_
    show Go _ _ _ _ 0 [vA _, vA _, vT 9 0] [] _ _
    refine go_aload_n (at_of tL_undoes 0 0 rfl) rfl ?_
    refine go_callC (as := [vA 0]) (i := 4) (h := 65) (k := 2) (n' := 1) (Or.inl ⟨9, 0, [], rfl, rfl, gs G_0 (by decide), lk_L_9, (at_of tL_undoes 0 1 rfl)⟩) (th4_undo hO1 hO2 h0) rfl cat_undoes (Or.inr ⟨rfl, 2, rfl, (at_of tL_undoes 2 5 rfl)⟩) rfl rfl (by decide) rfl (Nat.le_of_ble_eq_true rfl) rfl ⟨Nat.le_refl _, Nat.le_refl _⟩ ?_
    refine go_aload_n (at_of tL_undoes 2 6 rfl) rfl ?_
    refine go_getfD fl_L_29 rfl (by first | exact hgt | (simp (disch := omega) only [GamD_P1, GamD_M1, GamD_R1, GamD_dS]; exact hgt)) (at_of tL_undoes 2 7 rfl) ?_
    rw [a1]
    refine go_if_ne (tgt := 77) (at_of tL_undoes 2 8 rfl) (by decide) (fun h70 => ?_) (fun h70 => ?_)
    · exfalso; omega
    refine go_iconst (at_of tL_undoes 2 9 rfl) (by unfold in32; omega) ?_
    refine go_goto (tgt := 78) (at_of tL_undoes 2 10 rfl) (by decide) ?_
    first | exact go_reti (at_of tL_undoes 2 12 rfl) rfl | exact go_reti (at_of tL_undoes 2 12 rfl) (le_i (by omega)) | exact go_reti (at_of tL_undoes 2 12 rfl) (le_i (by first | exact bI_t (by omega) | exact bI_f (by omega)))
  · obtain ⟨σ1, q1, q2, q3⟩ := ok_undo hO1 hO2 (by omega)
    have hH := q3.hi (by omega)
    have hK1 := hK.hi hH
    obtain ⟨r1, r2⟩ := unS_R hK1 (by omega)
    have hc1 : 109 ≤ σ1.2.2 := by have := hK1.1.2.2; omega
    have hlo : Lo σ1 (unS σ1 A.2.1 A.2.2 (F A.2.1).1 (F (A.2.1 - 1)).1) := r2.lo hc1 (fun x hx => by omega)
    have hO : Off σ1 (A.1, A.2.1 - 1, A.2.2 + 1) := ⟨by rw [q3.1]; exact hO1, ⟨pi, q2⟩, by
      unfold WH
      rw [q3.2 98 (by omega), q3.2 98 (by omega)]
      exact hO3, by rw [q3.2 0 (by omega)]; exact hO4⟩
    refine ⟨_, (A.1, A.2.1 - 1, A.2.2 + 1), ?_, hO.lo hlo, r1, ?_, fun j hj => hP j ?_⟩
    · have hgo := fun b => undoes_tail hK1 (by omega) b (z := ((A.2.1 - 1 : Nat) : Int)) (by omega)
      refine con_of_go mfL_undoes.1 (Or.inr rfl) (Nat.le_of_ble_eq_true rfl) rfl (by decide) ?_
      show Go _ _ _ _ 0 [vA _, vA _, vT 9 0] [] _ _
      refine go_aload_n (at_of tL_undoes 0 0 rfl) rfl ?_
      refine go_cV (q1) lk_L_9 rfl G_0 (at_of tL_undoes 0 1 rfl) rfl (by decide) rfl (Nat.le_of_ble_eq_true rfl) rfl (⟨by omega, by omega⟩) ?_
      exact hgo _
    · rw [(hlo 0 (by omega)).1 0, q3.2 0 (by omega), ← h5, ← q3.2 109 (by omega)]
      exact (P1_nj (σ := P1 (R1 σ1 115 A.2.2 (F A.2.1).1) 109 4 ((A.2.2 : Int) + 1)) (a := 109) (a' := 109) (j := 2) (j' := 5) (z := (A.2.1 : Int) - 1) (by decide)).trans (P1_nj (σ := R1 σ1 115 A.2.2 (F A.2.1).1) (a := 109) (a' := 109) (j := 4) (j' := 5) (z := (A.2.2 : Int) + 1) (by decide))
    · have hj2 : j ≤ A.2.1 - 1 + (A.2.2 + 1) := hj
      omega
theorem con_redoes {k : Nat} (h : Sim σ F A k) : ∃ σ2 A2, Con 3 mL_redoes 1 6 [vA 0, vA 109] σ (vI 1, σ2) ∧ Sim σ2 F A2 k := by
  obtain ⟨⟨hO1, ⟨pi, hO2⟩, hO3, hO4⟩, hK, h5, hP⟩ := id h
  by_cases h0 : A.2.2 = 0
  · refine ⟨σ, A, ?_, h⟩
    obtain ⟨hT, ⟨a1, a2, a3⟩, -⟩ := id hK
    obtain ⟨⟨hgt, -, -⟩, -⟩ := id hT
    refine con_of_go mfL_redoes.1 (Or.inr rfl) (Nat.le_of_ble_eq_true rfl) rfl (by decide) ?_
    show Go _ _ _ _ 0 [vA _, vA _, vT 9 0] [] _ _
    refine go_aload_n (at_of tL_redoes 0 0 rfl) rfl ?_
    refine go_callC (as := [vA 0]) (i := 4) (h := 65) (k := 2) (n' := 1) (Or.inl ⟨9, 0, [], rfl, rfl, gs G_0 (by decide), lk_L_37, (at_of tL_redoes 0 1 rfl)⟩) (th4_redo hO1 hO2 h0) rfl cat_redoes (Or.inr ⟨rfl, 2, rfl, (at_of tL_redoes 2 5 rfl)⟩) rfl rfl (by decide) rfl (Nat.le_of_ble_eq_true rfl) rfl ⟨Nat.le_refl _, Nat.le_refl _⟩ ?_
    refine go_aload_n (at_of tL_redoes 2 6 rfl) rfl ?_
    refine go_getfD fl_L_21 rfl (by first | exact hgt | (simp (disch := omega) only [GamD_P1, GamD_M1, GamD_R1, GamD_dS]; exact hgt)) (at_of tL_redoes 2 7 rfl) ?_
    rw [a2]
    refine go_if_ne (tgt := 77) (at_of tL_redoes 2 8 rfl) (by decide) (fun h70 => ?_) (fun h70 => ?_)
    · exfalso; omega
    refine go_iconst (at_of tL_redoes 2 9 rfl) (by unfold in32; omega) ?_
    refine go_goto (tgt := 78) (at_of tL_redoes 2 10 rfl) (by decide) ?_
    first | exact go_reti (at_of tL_redoes 2 12 rfl) rfl | exact go_reti (at_of tL_redoes 2 12 rfl) (le_i (by omega)) | exact go_reti (at_of tL_redoes 2 12 rfl) (le_i (by first | exact bI_t (by omega) | exact bI_f (by omega)))
  · obtain ⟨σ1, q1, q2, q3⟩ := ok_redo hO1 hO2 (by omega)
    have hH := q3.hi (by omega)
    have hK1 := hK.hi hH
    obtain ⟨r1, r2⟩ := reS_R hK1 (by omega)
    have hc1 : 109 ≤ σ1.2.2 := by have := hK1.1.2.2; omega
    have hlo : Lo σ1 (reS σ1 A.2.1 A.2.2 (F A.2.1).1 (F (A.2.1 + 1)).1) := r2.lo hc1 (fun x hx => by omega)
    have hO : Off σ1 (A.1, A.2.1 + 1, A.2.2 - 1) := ⟨by rw [q3.1]; exact hO1, ⟨pi, q2⟩, by
      unfold WH
      rw [q3.2 98 (by omega), q3.2 98 (by omega)]
      exact hO3, by rw [q3.2 0 (by omega)]; exact hO4⟩
    refine ⟨_, (A.1, A.2.1 + 1, A.2.2 - 1), ?_, hO.lo hlo, r1, ?_, fun j hj => hP j ?_⟩
    · have hgo := fun b => redoes_tail hK1 (by omega) b (z := ((A.2.2 - 1 : Nat) : Int)) (by omega)
      refine con_of_go mfL_redoes.1 (Or.inr rfl) (Nat.le_of_ble_eq_true rfl) rfl (by decide) ?_
      show Go _ _ _ _ 0 [vA _, vA _, vT 9 0] [] _ _
      refine go_aload_n (at_of tL_redoes 0 0 rfl) rfl ?_
      refine go_cV (q1) lk_L_37 rfl G_0 (at_of tL_redoes 0 1 rfl) rfl (by decide) rfl (Nat.le_of_ble_eq_true rfl) rfl (⟨by omega, by omega⟩) ?_
      exact hgo _
    · rw [(hlo 0 (by omega)).1 0, q3.2 0 (by omega), ← h5, ← q3.2 109 (by omega)]
      exact (P1_nj (σ := P1 (R1 σ1 114 A.2.1 (F A.2.1).1) 109 2 ((A.2.1 : Int) + 1)) (a := 109) (a' := 109) (j := 4) (j' := 5) (z := (A.2.2 : Int) - 1) (by decide)).trans (P1_nj (σ := R1 σ1 114 A.2.1 (F A.2.1).1) (a := 109) (a' := 109) (j := 2) (j' := 5) (z := (A.2.1 : Int) + 1) (by decide))
    · have hj2 : j ≤ A.2.1 + 1 + (A.2.2 - 1) := hj
      omega
end Undo
