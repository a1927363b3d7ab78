/-! Units and documents are made. -/
section Doc3
variable {σ σ' : St} {d U A S : Nat} {us : List Nat} {vs : List Un} {ch : Int} {au sg : Int → Int}
def inU (σ : St) (u : Nat) (l w : Int) : St := P1 (P1 (P1 σ u 2 (-1)) u 0 l) u 1 w
theorem GamD_inU {u x : Nat} {l w : Int} : GamD (inU σ u l w) x = GamD σ x := (GamD_P1 (by decide)).trans ((GamD_P1 (by decide)).trans (GamD_P1 (by decide)))
theorem inU_ne {u x j : Nat} {l w : Int} (h : x ≠ u) : (inU σ u l w).1 x j = σ.1 x j := (P1_ne h).trans ((P1_ne h).trans (P1_ne h))
theorem inU_v {u : Nat} {l w : Int} : uv (inU σ u l w) u = (l, w, -1) := by
  unfold uv
  refine Prod.ext ?_ (Prod.ext ?_ ?_)
  · show (inU σ u l w).1 u 0 = l
    exact (P1_nj (by decide)).trans P1_eq
  · show (inU σ u l w).1 u 1 = w
    exact P1_eq
  · show (inU σ u l w).1 u 2 = -1
    exact (P1_nj (by decide)).trans ((P1_nj (by decide)).trans P1_eq)
theorem con_initU {u : Nat} {l w : Int} (hgu : GamD σ u = (22, 0)) (hl : 0 ≤ l ∧ l < 65536) : Con 0 mX12_init 0 0 [vA u, vI l, vI w] σ (vT 8 0, inU σ u l w) := by
  refine con_of_go mfX12_init.1 trivial (Nat.le_of_ble_eq_true rfl) rfl (by decide) ?_
  show Go _ _ _ _ 0 [vA _, vI _, vI _] [] _ _
  refine go_aload_n (at_of tX12_init 0 0 rfl) rfl ?_
  refine go_objInit (inL 437 (by decide +kernel) (by decide +kernel)) (at_of tX12_init 0 1 rfl) (Nat.le_of_ble_eq_true rfl) ?_
  refine go_aload_n (at_of tX12_init 0 2 rfl) rfl ?_
  refine go_iconst (at_of tX12_init 0 3 rfl) (by unfold in32; omega) ?_
  refine go_put1D fp_X12_7 rfl (Or.inl rfl) (by first | exact hgu | (simp (disch := omega) only [GamD_P1, GamD_M1, GamD_R1, GamD_nx]; exact hgu)) (Or.inl (Or.inl rfl)) (at_of tX12_init 0 4 rfl) ?_
  refine go_aload_n (at_of tX12_init 0 5 rfl) rfl ?_
  refine go_iload_n (at_of tX12_init 0 6 rfl) rfl ?_
  refine go_put1D fp_X12_13 rfl (Or.inr ⟨rfl, rfl, rfl⟩) (by first | exact hgu | (simp (disch := omega) only [GamD_P1, GamD_M1, GamD_R1, GamD_nx]; exact hgu)) (Or.inr ⟨rfl, by omega, by omega⟩) (at_of tX12_init 0 7 rfl) ?_
  refine go_aload_n (at_of tX12_init 0 8 rfl) rfl ?_
  refine go_iload_n (at_of tX12_init 0 9 rfl) rfl ?_
  refine go_put1D fp_X12_17 rfl (Or.inl rfl) (by first | exact hgu | (simp (disch := omega) only [GamD_P1, GamD_M1, GamD_R1, GamD_nx]; exact hgu)) (Or.inl (Or.inl rfl)) (at_of tX12_init 0 10 rfl) ?_
  exact go_retv (at_of tX12_init 0 11 rfl) rfl
/-- a unit's copy -/
def cpU (σ : St) (u : Nat) : St := P1 (inU (nxD σ 22 0) σ.2.2 (σ.1 u 0) (σ.1 u 1)) σ.2.2 2 (σ.1 u 2)
theorem con_copyU {u : Nat} (hgu : GamD σ u = (22, 0)) (h9 : 109 ≤ u) (hlt : u < σ.2.2) (hl : 0 ≤ σ.1 u 0 ∧ σ.1 u 0 < 65536) : Con 1 mX12_copy 1 3 [vA u] σ (vA σ.2.2, cpU σ u) := by
  have e0 : (nxD σ 22 0).1 u 0 = σ.1 u 0 := nxD_at (Or.inl (by omega))
  have e1 : (nxD σ 22 0).1 u 1 = σ.1 u 1 := nxD_at (Or.inl (by omega))
  have e2 : (inU (nxD σ 22 0) σ.2.2 (σ.1 u 0) (σ.1 u 1)).1 u 2 = σ.1 u 2 := (inU_ne (by omega)).trans (nxD_at (Or.inl (by omega)))
  have hgc : GamD (nxD σ 22 0) σ.2.2 = (22, 0) := GamD_nxD (by decide) (gam99 (by omega))
  have hgu2 : GamD (nxD σ 22 0) u = (22, 0) := (GamD_nx (by omega)).trans hgu
  have hgc3 : GamD (inU (nxD σ 22 0) σ.2.2 (σ.1 u 0) (σ.1 u 1)) σ.2.2 = (22, 0) := GamD_inU.trans hgc
  have hgu3 : GamD (inU (nxD σ 22 0) σ.2.2 (σ.1 u 0) (σ.1 u 1)) u = (22, 0) := GamD_inU.trans hgu2
  refine con_of_go mfX12_copy.1 trivial (Nat.le_of_ble_eq_true rfl) rfl (by decide) ?_
  show Go _ _ _ _ 0 [vA _, vT 9 0] [] _ _
  refine go_newOD (a := σ.2.2) (ci := 12) rfl (by omega) (by decide) cl_X12_8 ins_12 ini_12 ⟨Nat.le_refl _, Nat.le_refl _⟩ (at_of tX12_copy 0 0 rfl) ?_
  show Go _ _ _ _ _ _ _ (nxD σ 22 0) _
  refine go_dup (at_of tX12_copy 0 1 rfl) rfl ?_
  refine go_aload_n (at_of tX12_copy 0 2 rfl) rfl ?_
  refine go_getfD fl_X12_13 rfl hgu2 (at_of tX12_copy 0 3 rfl) ?_
  rw [e0]
  refine go_aload_n (at_of tX12_copy 0 4 rfl) rfl ?_
  refine go_getfD fl_X12_17 rfl hgu2 (at_of tX12_copy 0 5 rfl) ?_
  rw [e1]
  refine go_cI (con_initU hgc hl) lk_X12_20 rfl (at_of tX12_copy 0 6 rfl) rfl (by decide) rfl (Nat.le_of_ble_eq_true rfl) rfl (by first | decide | exact ⟨Nat.zero_le _, Nat.zero_le _⟩) ?_
  refine go_astore_n (at_of tX12_copy 0 7 rfl) rfl rfl ?_
  refine go_aload_n (at_of tX12_copy 0 8 rfl) rfl ?_
  refine go_aload_n (at_of tX12_copy 0 9 rfl) rfl ?_
  refine go_getfD fl_X12_7 rfl hgu3 (at_of tX12_copy 0 10 rfl) ?_
  rw [e2]
  refine go_put1D fp_X12_7 rfl (Or.inl rfl) hgc3 (Or.inl (Or.inl rfl)) (at_of tX12_copy 0 11 rfl) ?_
  refine go_aload_n (at_of tX12_copy 0 12 rfl) rfl ?_
  exact go_reta (at_of tX12_copy 0 13 rfl) rfl
/-- a document's rows are made -/
def inD (σ : St) (d : Nat) : St := R1 (nxD (R1 (nxD (R1 (nxD σ 3 210) d 1 σ.2.2) 0 61) d 3 (σ.2.2 + 1)) 2 61) d 4 (σ.2.2 + 2)
theorem con_initD (hgd : GamD σ d = (21, 0)) (h9 : 109 ≤ d) (hlt : d < σ.2.2) : Con 0 mX11_init 3 332 [vA d] σ (vT 8 0, inD σ d) := by
  have g1 : GamD (nxD σ 3 210) d = (21, 0) := (GamD_nx (by omega)).trans hgd
  have g2 : GamD (nxD (R1 (nxD σ 3 210) d 1 σ.2.2) 0 61) d = (21, 0) := (GamD_nx (by show d ≠ σ.2.2 + 1; omega)).trans (GamD_R1.trans g1)
  have g3 : GamD (nxD (R1 (nxD (R1 (nxD σ 3 210) d 1 σ.2.2) 0 61) d 3 (σ.2.2 + 1)) 2 61) d = (21, 0) := (GamD_nx (by show d ≠ σ.2.2 + 1 + 1; omega)).trans (GamD_R1.trans g2)
  refine con_of_go mfX11_init.1 trivial (Nat.le_of_ble_eq_true rfl) rfl (by decide) ?_
  show Go _ _ _ _ 0 [vA _] [] _ _
  refine go_aload_n (at_of tX11_init 0 0 rfl) rfl ?_
  refine go_objInit (inL 312 (by decide +kernel) (by decide +kernel)) (at_of tX11_init 0 1 rfl) (Nat.le_of_ble_eq_true rfl) ?_
  refine go_aload_n (at_of tX11_init 0 2 rfl) rfl ?_
  refine go_sipush (at_of tX11_init 0 3 rfl) (by decide) ?_
  refine go_newPD (tq := 3) (n := 210) (a := σ.2.2) rfl (by omega) (Or.inl rfl) (by omega) cl_X11_7 ⟨Nat.le_of_ble_eq_true rfl, Nat.le_of_ble_eq_true rfl⟩ (at_of tX11_init 0 4 rfl) ?_
  refine go_putr1D fp_X11_9 rfl (Or.inr ⟨rfl, rfl, rfl⟩) g1 (at_of tX11_init 0 5 rfl) ?_
  refine go_aload_n (at_of tX11_init 0 6 rfl) rfl ?_
  refine go_bipush (at_of tX11_init 0 7 rfl) (by decide) ?_
  refine go_newID (n := 61) (a := σ.2.2 + 1) rfl (by show 109 ≤ σ.2.2 + 1; omega) (by omega) (inL 98 (by decide +kernel) (by decide +kernel)) ⟨Nat.le_of_ble_eq_true rfl, Nat.le_of_ble_eq_true rfl⟩ (at_of tX11_init 0 8 rfl) ?_
  refine go_putr1D fp_X11_15 rfl (Or.inr ⟨rfl, rfl, rfl⟩) g2 (at_of tX11_init 0 9 rfl) ?_
  refine go_aload_n (at_of tX11_init 0 10 rfl) rfl ?_
  refine go_bipush (at_of tX11_init 0 11 rfl) (by decide) ?_
  refine go_newCD (n := 61) (a := σ.2.2 + 2) rfl (by show 109 ≤ σ.2.2 + 1 + 1; omega) (by omega) (inL 185 (by decide +kernel) (by decide +kernel)) ⟨Nat.le_of_ble_eq_true rfl, Nat.le_of_ble_eq_true rfl⟩ (at_of tX11_init 0 12 rfl) ?_
  refine go_putr1D fp_X11_19 rfl (Or.inr ⟨rfl, rfl, rfl⟩) g3 (at_of tX11_init 0 13 rfl) ?_
  exact go_retv (at_of tX11_init 0 14 rfl) rfl
end Doc3
