/-! The desk is made. -/
section Desk3
variable {σ σ' τ : St}
/-- the desk's first document -/
def mkK0 (σ : St) : St := inD (nxD σ 21 0) 110
/-- the desk made -/
def mkK (σ : St) : St := P1 (R1 (nxD (R1 (nxD (R1 (mkK0 σ) 109 0 110) 4 6) 109 1 114) 4 6) 109 3 115) 109 5 1
def f0 : DocF := (110, 111, 112, 113, [])
theorem con_initK (hc : σ.2.2 = 110) (hg : GamD σ 109 = (20, 0)) : Con 1 mX10_init 6 349 [vA 109] σ (vT 8 0, mkK σ) := by
  have hgd : GamD (nxD σ 21 0) 110 = (21, 0) := by
    have h := GamD_nxD (σ := σ) (t := 21) (n := 0) (by decide) (gam99 (by omega))
    rw [hc] at h
    exact h
  have hc1 : (nxD σ 21 0).2.2 = 111 := by show σ.2.2 + 1 = 111; omega
  obtain ⟨t1, t2, t3, -, -⟩ := inD_T hgd (by decide) (by omega)
  have hcK : (mkK0 σ).2.2 = 114 := by
    show (inD (nxD σ 21 0) 110).2.2 = 114
    rw [t3, hc1]
  have g1 : GamD (mkK0 σ) 109 = (20, 0) := (t2.gam (by omega) (by decide)).trans ((GamD_nx (by omega)).trans hg)
  have g2 : GamD (nxD (R1 (mkK0 σ) 109 0 110) 4 6) 109 = (20, 0) := (GamD_nx (by show 109 ≠ (mkK0 σ).2.2; omega)).trans (GamD_R1.trans g1)
  have g3 : GamD (nxD (R1 (nxD (R1 (mkK0 σ) 109 0 110) 4 6) 109 1 114) 4 6) 109 = (20, 0) := (GamD_nx (by show 109 ≠ (mkK0 σ).2.2 + 1; omega)).trans (GamD_R1.trans g2)
  refine con_of_go mfX10_init.1 trivial (Nat.le_of_ble_eq_true rfl) rfl (by decide) ?_
  show Go _ _ _ _ 0 [vA _] [] _ _
  refine go_aload_n (at_of tX10_init 0 0 rfl) rfl ?_
  refine go_objInit (inL 306 (by decide +kernel) (by decide +kernel)) (at_of tX10_init 0 1 rfl) (Nat.le_of_ble_eq_true rfl) ?_
  refine go_aload_n (at_of tX10_init 0 2 rfl) rfl ?_
  refine go_newOD (a := 110) (ci := 11) hc (by omega) (by decide) cl_X10_7 ins_11 ini_11 ⟨Nat.le_of_ble_eq_true rfl, Nat.le_of_ble_eq_true rfl⟩ (at_of tX10_init 0 3 rfl) ?_
  refine go_dup (at_of tX10_init 0 4 rfl) rfl ?_
  refine go_cJ (con_initD hgd (by decide) (by show 110 < (nxD σ 21 0).2.2; omega)) lk_X10_9 rfl (at_of tX10_init 0 5 rfl) rfl (by decide) rfl (Nat.le_of_ble_eq_true rfl) rfl (by first | decide | exact ⟨Nat.zero_le _, Nat.zero_le _⟩) ?_
  show Go _ _ _ _ _ _ _ (mkK0 σ) _
  refine go_putr1D fp_X10_10 rfl (Or.inl rfl) g1 (at_of tX10_init 0 6 rfl) ?_
  refine go_aload_n (at_of tX10_init 0 7 rfl) rfl ?_
  refine go_bipush (at_of tX10_init 0 8 rfl) (by decide) ?_
  refine go_newPD (tq := 4) (n := 6) (a := 114) hcK (by show 109 ≤ (mkK0 σ).2.2; omega) (Or.inr (Or.inl rfl)) (by omega) cl_X10_7 ⟨Nat.le_of_ble_eq_true rfl, Nat.le_of_ble_eq_true rfl⟩ (at_of tX10_init 0 9 rfl) ?_
  refine go_putr1D fp_X10_16 rfl (Or.inr ⟨rfl, rfl, rfl⟩) g2 (at_of tX10_init 0 10 rfl) ?_
  refine go_aload_n (at_of tX10_init 0 11 rfl) rfl ?_
  refine go_bipush (at_of tX10_init 0 12 rfl) (by decide) ?_
  refine go_newPD (tq := 4) (n := 6) (a := 115) (by show (mkK0 σ).2.2 + 1 = 115; omega) (by show 109 ≤ (mkK0 σ).2.2 + 1; omega) (Or.inr (Or.inl rfl)) (by omega) cl_X10_7 ⟨Nat.le_of_ble_eq_true rfl, Nat.le_of_ble_eq_true rfl⟩ (at_of tX10_init 0 13 rfl) ?_
  refine go_putr1D fp_X10_20 rfl (Or.inr ⟨rfl, rfl, rfl⟩) g3 (at_of tX10_init 0 14 rfl) ?_
  refine go_aload_n (at_of tX10_init 0 15 rfl) rfl ?_
  refine go_iconst (at_of tX10_init 1 0 rfl) (by unfold in32; omega) ?_
  refine go_put1D fp_X10_23 rfl (Or.inl rfl) (GamD_R1.trans g3) (Or.inl (Or.inr (by omega))) (at_of tX10_init 1 1 rfl) ?_
  exact go_retv (at_of tX10_init 1 2 rfl) rfl
theorem mkK_R (hc : σ.2.2 = 110) (hg : GamD σ 109 = (20, 0)) (hz : ∀ x j, j ≠ TY → 109 ≤ x → σ.1 x j = 0) : DkR (mkK σ) (fun _ => f0) 0 0 (fun _ => D0) ∧ (mkK σ).1 109 5 = 1 ∧ OutD σ (mkK σ) (fun x => x = 109) ∧ (mkK σ).2.2 = 116 := by
  have hgd : GamD (nxD σ 21 0) 110 = (21, 0) := by
    have h := GamD_nxD (σ := σ) (t := 21) (n := 0) (by decide) (gam99 (by omega))
    rw [hc] at h
    exact h
  have hc1 : (nxD σ 21 0).2.2 = 111 := by show σ.2.2 + 1 = 111; omega
  obtain ⟨t1, t2, t3, t4, t5⟩ := inD_T hgd (by decide) (by omega)
  rw [hc1] at t1
  have hcK : (mkK0 σ).2.2 = 114 := by
    show (inD (nxD σ 21 0) 110).2.2 = 114
    rw [t3, hc1]
  have g1 : GamD (mkK0 σ) 109 = (20, 0) := (t2.gam (by omega) (by decide)).trans ((GamD_nx (by omega)).trans hg)
  have e0 : ∀ j, j ≠ TY → (mkK0 σ).1 109 j = 0 := fun j hj => ((t2.2 109 (by omega) (by decide)).1 j).trans ((nxD_at (Or.inr hj)).trans (hz 109 j hj (Nat.le_refl _)))
  have n2 : (nxD (R1 (mkK0 σ) 109 0 110) 4 6).2.2 = 115 := by show (mkK0 σ).2.2 + 1 = 115; omega
  have g2 : GamD (nxD (R1 (mkK0 σ) 109 0 110) 4 6) 109 = (20, 0) := (GamD_nx (by show 109 ≠ (mkK0 σ).2.2; omega)).trans (GamD_R1.trans g1)
  have g3 : GamD (nxD (R1 (nxD (R1 (mkK0 σ) 109 0 110) 4 6) 109 1 114) 4 6) 109 = (20, 0) := (GamD_nx (by show 109 ≠ (mkK0 σ).2.2 + 1; omega)).trans (GamD_R1.trans g2)
  have gB : GamD (nxD (R1 (mkK0 σ) 109 0 110) 4 6) 114 = (4, 6) := by
    have h := GamD_nxD (σ := R1 (mkK0 σ) 109 0 110) (t := 4) (n := 6) (by decide) (gam99 (by show 109 ≤ (mkK0 σ).2.2; omega))
    rw [show (R1 (mkK0 σ) 109 0 110).2.2 = 114 from hcK] at h
    exact h
  have gB3 : GamD (nxD (R1 (nxD (R1 (mkK0 σ) 109 0 110) 4 6) 109 1 114) 4 6) 114 = (4, 6) := (GamD_nx (by show 114 ≠ (mkK0 σ).2.2 + 1; omega)).trans (GamD_R1.trans gB)
  have gH : GamD (nxD (R1 (nxD (R1 (mkK0 σ) 109 0 110) 4 6) 109 1 114) 4 6) 115 = (4, 6) := by
    have h := GamD_nxD (σ := R1 (nxD (R1 (mkK0 σ) 109 0 110) 4 6) 109 1 114) (t := 4) (n := 6) (by decide) (gam99 (by show 109 ≤ (mkK0 σ).2.2 + 1; omega))
    rw [show (R1 (nxD (R1 (mkK0 σ) 109 0 110) 4 6) 109 1 114).2.2 = 115 from n2] at h
    exact h
  have gam : ∀ x, GamD (mkK σ) x = GamD (nxD (R1 (nxD (R1 (mkK0 σ) 109 0 110) 4 6) 109 1 114) 4 6) x := fun x => (GamD_P1 (by decide)).trans GamD_R1
  have oK : OutD (mkK0 σ) (mkK σ) (fun x => x = 109) := (((((OutD.r1.trans OutD.nx).trans OutD.r1).trans OutD.nx).trans OutD.r1).trans OutD.p1).mono (fun x _ hx => by
    rcases hx with ((((hx | hx) | hx) | hx) | hx) | hx
    · exact hx
    · exact hx.elim
    · exact hx
    · exact hx.elim
    · exact hx
    · exact hx)
  have v0 : ∀ j, j ≠ 5 → j ≠ TY → (mkK σ).1 109 j = 0 := fun j h5 hj => (P1_nj h5).trans ((nxD_at (σ := R1 (nxD (R1 (mkK0 σ) 109 0 110) 4 6) 109 1 114) (Or.inr hj)).trans ((nxD_at (σ := R1 (mkK0 σ) 109 0 110) (Or.inr hj)).trans (e0 j hj)))
  have hcF : (mkK σ).2.2 = 116 := by show (mkK0 σ).2.2 + 1 + 1 = 116; omega
  have d0 : DocP (mkK0 σ) f0 D0 := by
    refine ⟨t1, ⟨?_, Nat.zero_le _, fun i hi => absurd hi (Nat.not_lt_zero _), List.nodup_nil, fun u hu => nomatch hu⟩, rfl, (fun v hv => nomatch hv), ?_, by decide, fun c h0 h1 => ?_⟩
    · exact t4.trans ((nxD_at (Or.inr (by decide))).trans (hz 110 0 (by decide) (by decide)))
    · exact t5.trans ((nxD_at (Or.inr (by decide))).trans (hz 110 2 (by decide) (by decide)))
    · have h9 : c < 0 := h1
      omega
  have q1 : (mkK σ).2.1 109 1 = some 114 := (R1_nj (σ := nxD (R1 (nxD (R1 (mkK0 σ) 109 0 110) 4 6) 109 1 114) 4 6) (by decide)).trans (R1_eq (σ := nxD (R1 (mkK0 σ) 109 0 110) 4 6) (a := 109) (k := 1) (q := 114))
  have q0 : (mkK σ).2.1 109 0 = some 110 := (R1_nj (σ := nxD (R1 (nxD (R1 (mkK0 σ) 109 0 110) 4 6) 109 1 114) 4 6) (by decide)).trans ((R1_nj (σ := nxD (R1 (mkK0 σ) 109 0 110) 4 6) (a := 109) (a' := 109) (j := 0) (k := 1) (q := 114) (by decide)).trans (R1_eq (σ := mkK0 σ) (a := 109) (k := 0) (q := 110)))
  refine ⟨⟨⟨⟨(gam _).trans g3, (gam _).trans gB3, (gam _).trans gH⟩, ⟨q1, R1_eq⟩, by omega⟩, ⟨v0 2 (by decide) (by decide), v0 4 (by decide) (by decide), by decide⟩, q0, fun i hi => absurd hi (Nat.not_lt_zero _), fun i hi => absurd hi (Nat.not_lt_zero _), fun j hj => d0.out oK (fun x hx => ?_), fun i j hi hj hij => ?_⟩, P1_eq, ?_, hcF⟩
  · have h9 := (d0.g hx).2.1
    rcases hx with h | h | h | h | h
    · have : x = 110 := h; omega
    · have : x = 111 := h; omega
    · have : x = 112 := h; omega
    · have : x = 113 := h; omega
    · exact nomatch h
  · omega
  · exact ((OutD.nx.trans (t2.mono (P2 := fun x => x = 110) (fun x _ hx => hx))).trans oK).mono (fun x hx h => by
      rcases h with (h | h) | h
      · exact h.elim
      · omega
      · exact h)
end Desk3
