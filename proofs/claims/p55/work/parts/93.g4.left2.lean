/-! The text that is left. -/
section Left2
variable {σ σ' τ : St} {A : PastD} {D : PapD} {F : Nat → DocF} {k : Nat}
theorem M1_at {a : Nat} {i z : Int} {j : Nat} : (M1 σ a i z).1 a j = if j = i.toNat then z else σ.1 a j := by
  show (if a = a ∧ j = i.toNat then z else σ.1 a j) = _
  by_cases h : j = i.toNat
  · rw [if_pos ⟨rfl, h⟩, if_pos h]
  · rw [if_neg (fun q => h q.2), if_neg h]
theorem lp_fl_t {q c : Nat} {tx : Int → Int} (hc : 109 ≤ c ∧ q ≤ 200) (hr : ∀ i : Int, 0 ≤ i → i < (q : Int) → 0 ≤ tx i ∧ tx i < 65536) (hC : ∀ τ, Off τ A → ∀ i : Int, 0 ≤ i → i < (q : Int) → Con 5 mX9_unitAt 0 0 [vA 0, vI i] τ (vI (tx i), τ)) : ∀ (m : Nat) (i : Int) (τ : St), 0 ≤ i → i + m = q → Off τ A → GamD τ c = (2, q) → c < τ.2.2 → (∀ j : Int, 0 ≤ j → j < i → τ.1 c j.toNat = tx j) → ∃ τ2, (OutD τ τ2 (fun x => x = c) ∧ τ2.2 = τ.2) ∧ GamD τ2 c = (2, q) ∧ (∀ j : Int, 0 ≤ j → j < q → τ2.1 c j.toNat = tx j) ∧ ∀ (b : Nat × Nat) (out : MV × St) (v6 v7 : MV), (∀ b2 : Nat × Nat, Go (fun _ => 0) 8 mL_isLeft b2 60 [vA 0, vA 109, vI 1, vI (q : Int), vA c, vI (q : Int), v6, v7] [] τ2 out) → Go (fun _ => 0) 8 mL_isLeft b 24 [vA 0, vA 109, vI 1, vI (q : Int), vA c, vI i, v6, v7] [] τ out := by
  intro m
  induction m with
  | zero =>
    intro i τ h0 hi hO hgc hlt hv
    have ei : i = (q : Int) := by omega
    subst ei
    refine ⟨τ, ⟨OutD.refl, rfl⟩, hgc, hv, fun b out v6 v7 K => ?_⟩
    refine go_iload (at_of tL_isLeft 0 13 rfl) rfl rfl ?_
    refine go_iload_n (at_of tL_isLeft 0 14 rfl) rfl ?_
    refine go_icmp_ge (tgt := 60) (at_of tL_isLeft 0 15 rfl) (by decide) (fun h27 => ?_) (fun h27 => ?_)
    rotate_left
    · exfalso; omega
    exact K _
  | succ m ih =>
    intro i τ h0 hi hO hgc hlt hv
    have hri := hr i h0 (by omega)
    have o1 : OutD τ (M1 τ c i (tx i)) (fun x => x = c) := OutD.m1
    obtain ⟨τ2, ⟨p1, p2⟩, p3, p4, p5⟩ := ih (i + 1) (M1 τ c i (tx i)) (by omega) (by omega) (hO.lo (o1.lo (by omega) (fun x hx => by omega))) ((GamD_M1 (by omega)).trans hgc) hlt (fun j j0 j1 => by
      rw [M1_at]
      by_cases q : j.toNat = i.toNat
      · rw [if_pos q, show j = i by omega]
      · rw [if_neg q]
        exact hv j j0 (by omega))
    refine ⟨τ2, ⟨(o1.trans p1).mono (fun x _ hx => by rcases hx with hx | hx <;> exact hx), p2⟩, p3, p4, fun b out v6 v7 K => ?_⟩
    refine go_iload (at_of tL_isLeft 0 13 rfl) rfl rfl ?_
    refine go_iload_n (at_of tL_isLeft 0 14 rfl) rfl ?_
    refine go_icmp_ge (tgt := 60) (at_of tL_isLeft 0 15 rfl) (by decide) (fun h27 => ?_) (fun h27 => ?_)
    · exfalso; omega
    refine go_aload (at_of tL_isLeft 1 0 rfl) rfl ?_
    refine go_iload (at_of tL_isLeft 1 1 rfl) rfl rfl ?_
    refine go_iload_n (at_of tL_isLeft 1 2 rfl) rfl ?_
    refine go_if_eq (tgt := 47) (at_of tL_isLeft 1 3 rfl) (by decide) (fun h35 => ?_) (fun h35 => ?_)
    · exfalso; omega
    refine go_aload_n (at_of tL_isLeft 1 4 rfl) rfl ?_
    refine go_iload (at_of tL_isLeft 1 5 rfl) rfl rfl ?_
    refine go_cV (hC τ hO i h0 (by omega)) lk_L_145 rfl G_0 (at_of tL_isLeft 1 6 rfl) rfl (by decide) rfl (Nat.le_of_ble_eq_true rfl) rfl (⟨by omega, by omega⟩) ?_
    refine go_goto (tgt := 53) (at_of tL_isLeft 1 7 rfl) (by decide) ?_
    refine go_cast1D (by first | exact hgc | (simp (disch := omega) only [GamD_P1, GamD_M1, GamD_R1]; exact hgc)) (by omega) (by omega) (by omega) (at_of tL_isLeft 1 11 rfl) ?_
    refine go_iinc (at_of tL_isLeft 1 12 rfl) rfl (by unfold in32; omega) rfl rfl ?_
    refine go_goto (tgt := 24) (at_of tL_isLeft 1 13 rfl) (by decide) ?_
    exact p5 _ _ _ _ K
theorem lp_fl_f {q c : Nat} {tx : Int → Int} (hc : 109 ≤ c ∧ q ≤ 200) (hr : ∀ i : Int, 0 ≤ i → i < (q : Int) → 0 ≤ tx i ∧ tx i < 65536) (hC : ∀ τ, Off τ A → ∀ i : Int, 0 ≤ i → i < (q : Int) → Con 3 mX9_oldAt 0 0 [vA 0, vI i] τ (vI (tx i), τ)) : ∀ (m : Nat) (i : Int) (τ : St), 0 ≤ i → i + m = q → Off τ A → GamD τ c = (2, q) → c < τ.2.2 → (∀ j : Int, 0 ≤ j → j < i → τ.1 c j.toNat = tx j) → ∃ τ2, (OutD τ τ2 (fun x => x = c) ∧ τ2.2 = τ.2) ∧ GamD τ2 c = (2, q) ∧ (∀ j : Int, 0 ≤ j → j < q → τ2.1 c j.toNat = tx j) ∧ ∀ (b : Nat × Nat) (out : MV × St) (v6 v7 : MV), (∀ b2 : Nat × Nat, Go (fun _ => 0) 8 mL_isLeft b2 60 [vA 0, vA 109, vI 0, vI (q : Int), vA c, vI (q : Int), v6, v7] [] τ2 out) → Go (fun _ => 0) 8 mL_isLeft b 24 [vA 0, vA 109, vI 0, vI (q : Int), vA c, vI i, v6, v7] [] τ out := by
  intro m
  induction m with
  | zero =>
    intro i τ h0 hi hO hgc hlt hv
    have ei : i = (q : Int) := by omega
    subst ei
    refine ⟨τ, ⟨OutD.refl, rfl⟩, hgc, hv, fun b out v6 v7 K => ?_⟩
    refine go_iload (at_of tL_isLeft 0 13 rfl) rfl rfl ?_
    refine go_iload_n (at_of tL_isLeft 0 14 rfl) rfl ?_
    refine go_icmp_ge (tgt := 60) (at_of tL_isLeft 0 15 rfl) (by decide) (fun h27 => ?_) (fun h27 => ?_)
    rotate_left
    · exfalso; omega
    exact K _
  | succ m ih =>
    intro i τ h0 hi hO hgc hlt hv
    have hri := hr i h0 (by omega)
    have o1 : OutD τ (M1 τ c i (tx i)) (fun x => x = c) := OutD.m1
    obtain ⟨τ2, ⟨p1, p2⟩, p3, p4, p5⟩ := ih (i + 1) (M1 τ c i (tx i)) (by omega) (by omega) (hO.lo (o1.lo (by omega) (fun x hx => by omega))) ((GamD_M1 (by omega)).trans hgc) hlt (fun j j0 j1 => by
      rw [M1_at]
      by_cases q : j.toNat = i.toNat
      · rw [if_pos q, show j = i by omega]
      · rw [if_neg q]
        exact hv j j0 (by omega))
    refine ⟨τ2, ⟨(o1.trans p1).mono (fun x _ hx => by rcases hx with hx | hx <;> exact hx), p2⟩, p3, p4, fun b out v6 v7 K => ?_⟩
    refine go_iload (at_of tL_isLeft 0 13 rfl) rfl rfl ?_
    refine go_iload_n (at_of tL_isLeft 0 14 rfl) rfl ?_
    refine go_icmp_ge (tgt := 60) (at_of tL_isLeft 0 15 rfl) (by decide) (fun h27 => ?_) (fun h27 => ?_)
    · exfalso; omega
    refine go_aload (at_of tL_isLeft 1 0 rfl) rfl ?_
    refine go_iload (at_of tL_isLeft 1 1 rfl) rfl rfl ?_
    refine go_iload_n (at_of tL_isLeft 1 2 rfl) rfl ?_
    refine go_if_eq (tgt := 47) (at_of tL_isLeft 1 3 rfl) (by decide) (fun h35 => ?_) (fun h35 => ?_)
    rotate_left
    · exfalso; omega
    refine go_aload_n (at_of tL_isLeft 1 8 rfl) rfl ?_
    refine go_iload (at_of tL_isLeft 1 9 rfl) rfl rfl ?_
    refine go_cV (hC τ hO i h0 (by omega)) lk_L_159 rfl G_0 (at_of tL_isLeft 1 10 rfl) rfl (by decide) rfl (Nat.le_of_ble_eq_true rfl) rfl (⟨by omega, by omega⟩) ?_
    refine go_cast1D (by first | exact hgc | (simp (disch := omega) only [GamD_P1, GamD_M1, GamD_R1]; exact hgc)) (by omega) (by omega) (by omega) (at_of tL_isLeft 1 11 rfl) ?_
    refine go_iinc (at_of tL_isLeft 1 12 rfl) rfl (by unfold in32; omega) rfl rfl ?_
    refine go_goto (tgt := 24) (at_of tL_isLeft 1 13 rfl) (by decide) ?_
    exact p5 _ _ _ _ K
theorem lp_cp {q c : Nat} {tx : Int → Int} {z jn : Int} {out : MV × St} (hq : q ≤ 200) (c1 : ∀ i : Int, 0 ≤ i → i < (q : Int) → Con 5 mX9_unitAt 0 0 [vA 0, vI i] σ (vI (tx i), σ)) (c2 : ∀ i : Int, 0 ≤ i → i < (q : Int) → Con 3 mX9_oldAt 0 0 [vA 0, vI i] σ (vI (tx i), σ)) (hgc : GamD σ c = (2, q)) (hv : ∀ j : Int, 0 ≤ j → j < q → σ.1 c j.toNat = tx j) (K : ∀ b : Nat × Nat, Go (fun _ => 0) 8 mL_isLeft b 151 [vA 0, vA 109, vI z, vI (q : Int), vA c, vI jn, vI 1, vI (q : Int)] [] σ out) : ∀ (m : Nat) (i : Int) (b : Nat × Nat), 0 ≤ i → i + m = q → Go (fun _ => 0) 8 mL_isLeft b 99 [vA 0, vA 109, vI z, vI (q : Int), vA c, vI jn, vI 1, vI i] [] σ out := by
  intro m
  induction m with
  | zero =>
    intro i b h0 hi
    have ei : i = (q : Int) := by omega
    subst ei
    refine go_iload (at_of tL_isLeft 3 3 rfl) rfl rfl ?_
    refine go_iload_n (at_of tL_isLeft 3 4 rfl) rfl ?_
    refine go_icmp_ge (tgt := 151) (at_of tL_isLeft 3 5 rfl) (by decide) (fun h102 => ?_) (fun h102 => ?_)
    rotate_left
    · exfalso; omega
    exact K _
  | succ m ih =>
    intro i b h0 hi
    have hvi := hv i h0 (by omega)
    refine go_iload (at_of tL_isLeft 3 3 rfl) rfl rfl ?_
    refine go_iload_n (at_of tL_isLeft 3 4 rfl) rfl ?_
    refine go_icmp_ge (tgt := 151) (at_of tL_isLeft 3 5 rfl) (by decide) (fun h102 => ?_) (fun h102 => ?_)
    · exfalso; omega
    refine go_iload (at_of tL_isLeft 3 6 rfl) rfl rfl ?_
    refine go_if_eq (tgt := 151) (at_of tL_isLeft 3 7 rfl) (by decide) (fun h107 => ?_) (fun h107 => ?_)
    · exfalso; omega
    refine go_aload_n (at_of tL_isLeft 3 8 rfl) rfl ?_
    refine go_iload (at_of tL_isLeft 3 9 rfl) rfl rfl ?_
    refine go_cV (c1 i h0 (by omega)) lk_L_145 rfl G_0 (at_of tL_isLeft 3 10 rfl) rfl (by decide) rfl (Nat.le_of_ble_eq_true rfl) rfl (⟨by omega, by omega⟩) ?_
    refine go_aload (at_of tL_isLeft 3 11 rfl) rfl ?_
    refine go_iload (at_of tL_isLeft 3 12 rfl) rfl rfl ?_
    refine go_caldD (by first | exact hgc | (simp (disch := omega) only [GamD_P1, GamD_M1, GamD_R1]; exact hgc)) (by omega) (by omega) (at_of tL_isLeft 3 13 rfl) ?_
    rw [hvi]
    refine go_icmp_ne (tgt := 142) (at_of tL_isLeft 3 14 rfl) (by decide) (fun h121 => ?_) (fun h121 => ?_)
    · exfalso; exact h121 rfl
    refine go_aload_n (at_of tL_isLeft 3 15 rfl) rfl ?_
    refine go_iload (at_of tL_isLeft 4 0 rfl) rfl rfl ?_
    refine go_cV (c2 i h0 (by omega)) lk_L_159 rfl G_0 (at_of tL_isLeft 4 1 rfl) rfl (by decide) rfl (Nat.le_of_ble_eq_true rfl) rfl (⟨by omega, by omega⟩) ?_
    refine go_aload (at_of tL_isLeft 4 2 rfl) rfl ?_
    refine go_iload (at_of tL_isLeft 4 3 rfl) rfl rfl ?_
    refine go_caldD (by first | exact hgc | (simp (disch := omega) only [GamD_P1, GamD_M1, GamD_R1]; exact hgc)) (by omega) (by omega) (at_of tL_isLeft 4 4 rfl) ?_
    rw [hvi]
    refine go_icmp_ne (tgt := 142) (at_of tL_isLeft 4 5 rfl) (by decide) (fun h135 => ?_) (fun h135 => ?_)
    · exfalso; exact h135 rfl
    refine go_iconst (at_of tL_isLeft 4 6 rfl) (by unfold in32; omega) ?_
    refine go_goto (tgt := 143) (at_of tL_isLeft 4 7 rfl) (by decide) ?_
    refine go_istore (at_of tL_isLeft 4 9 rfl) rfl rfl ?_
    refine go_iinc (at_of tL_isLeft 4 10 rfl) rfl (by unfold in32; omega) rfl rfl ?_
    refine go_goto (tgt := 99) (at_of tL_isLeft 4 11 rfl) (by decide) ?_
    exact ih (i + 1) _ (by omega) (by omega)
theorem isLeft_t (h : Sim σ F A k) : ∃ σ2, Con 8 mL_isLeft 1 200 [vA 0, vA 109, vI 1] σ (vI 1, σ2) := by
  obtain ⟨hS, ⟨pi, hA⟩, hWH, h01⟩ := id h.1
  obtain ⟨hP, hk9⟩ := h.pp
  have hN := hP.nn
  have hcap := h.cap
  obtain ⟨q, hq⟩ : ∃ q : Nat, (TxR (wOf true) (A.1 A.2.1).1).length = q := ⟨_, rfl⟩
  obtain ⟨tx, htx⟩ : ∃ tx : Int → Int, ∀ j : Int, tx j = ((TxR (wOf true) (A.1 A.2.1).1)[j.toNat]?).getD 0 := ⟨_, fun _ => rfl⟩
  have hlen : plOf (A.1 A.2.1).1.1 (A.1 A.2.1).1.2.1 (A.1 A.2.1).1.2.1 = (q : Int) := by rw [← hq]; exact (txr_len3 hN.1).symm
  have hq2 : q ≤ 200 := by
    have := cntF_le (fun i => decide ((A.1 A.2.1).1.1 3 i = -1)) (A.1 A.2.1).1.2.1.toNat 0
    have e : ((TxR (wOf true) (A.1 A.2.1).1).length : Int) = _ := txt_len _ _
    have e : ((TxR (wOf true) (A.1 A.2.1).1).length : Int) = cntF (fun i => decide ((A.1 A.2.1).1.1 3 i = -1)) (A.1 A.2.1).1.2.1.toNat 0 := e
    omega
  have hat : ∀ i, 0 ≤ i → i < (q : Int) → tx i = (A.1 A.2.1).1.1 0 (ixOf (A.1 A.2.1).1.1 (A.1 A.2.1).1.2.1 i) ∧ 0 ≤ ixOf (A.1 A.2.1).1.1 (A.1 A.2.1).1.2.1 i ∧ ixOf (A.1 A.2.1).1.1 (A.1 A.2.1).1.2.1 i < (A.1 A.2.1).1.2.1 := fun i i0 i1 => by
    obtain ⟨g1, g2, g3⟩ := txr_get3 hN.1 i0 (by rw [hlen]; exact i1)
    refine ⟨?_, g2, g3⟩
    rw [htx]
    show ((TxR 3 (A.1 A.2.1).1)[i.toNat]?).getD 0 = _
    rw [g1]
    rfl
  have hr : ∀ i, 0 ≤ i → i < (q : Int) → 0 ≤ tx i ∧ tx i < 65536 := fun i i0 i1 => by
    obtain ⟨g1, g2, g3⟩ := hat i i0 i1
    obtain ⟨-, -, -, m4⟩ := hP.u g2 (by omega)
    rw [g1]
    omega
  have hC : ∀ τ, Off τ A → ∀ i, 0 ≤ i → i < (q : Int) → Con 5 mX9_unitAt 0 0 [vA 0, vI i] τ (vI (tx i), τ) := fun τ hO i i0 i1 => by
    obtain ⟨hS, ⟨pi, hA⟩, -⟩ := hO
    obtain ⟨g1, g2, g3⟩ := hat i i0 i1
    have c := ok_unitAt hS hA (p := i) (by omega) g3
    have hri := hr i i0 i1
    rw [← g1, Int.emod_eq_of_lt hri.1 hri.2] at c
    exact c
  have hgc : GamD (nxD σ 2 q) σ.2.2 = (2, q) := GamD_nxD (by decide) (gam99 (by omega))
  have hlo1 : Lo σ (nxD σ 2 q) := OutD.nx.lo (by omega) (fun x hx => hx.elim)
  obtain ⟨τ, ⟨p1, p2⟩, p3, p4, p5⟩ := lp_fl_t (A := A) (q := q) (c := σ.2.2) (tx := tx) ⟨by omega, hq2⟩ hr hC q 0 (nxD σ 2 q) (Int.le_refl _) (by omega) (h.1.lo hlo1) hgc (by show σ.2.2 < σ.2.2 + 1; omega) (fun j j0 j1 => by omega)
  have hcap1 : (nxD σ 2 q).2.2 = σ.2.2 + 1 := rfl
  have hO2 := (h.1.lo hlo1).lo (p1.lo (by omega) (fun x hx => by omega))
  obtain ⟨hS2, ⟨pi2, hA2⟩, hWH2, -⟩ := id hO2
  obtain ⟨σ3, pi3, j1, j2⟩ := ok_judge hS2 hA2 (a := -1) (acc := true) (Or.inl rfl)
  obtain ⟨l1, l2, l3, l4⟩ := hP.left (acc := true)
  have hO3 := j2.off hO2
  obtain ⟨hS3, ⟨pi4, hA3⟩, hWH3, -⟩ := id hO3
  have eN : (edA (begA A) (stlAll (A.1 A.2.1) (-1) true).1).1 (edA (begA A) (stlAll (A.1 A.2.1) (-1) true).1).2.1 = (stlAll (A.1 A.2.1) (-1) true).1 := if_pos rfl
  obtain ⟨d1, d2, d3, d4⟩ := clean_row (R := (stlAll (A.1 A.2.1) (-1) true).1.1) l1.nn.1 l3
  have hnq : (stlAll (A.1 A.2.1) (-1) true).1.1.2.1 = (q : Int) := by
    have := d4 true
    rw [l4, hq] at this
    exact this.symm
  have hcap2 : τ.2.2 = σ.2.2 + 1 := by rw [p2]; rfl
  have hv3 : ∀ j : Int, 0 ≤ j → j < q → σ3.1 σ.2.2 j.toNat = tx j := fun j j0 j1 => ((j2.hi.2 σ.2.2 (by omega) (by omega)).1 _).trans (p4 j j0 j1)
  have hg3 : GamD σ3 σ.2.2 = (2, q) := (j2.hi.gam (by omega) (by omega)).trans p3
  have hat3 : ∀ i, 0 ≤ i → i < (q : Int) → (stlAll (A.1 A.2.1) (-1) true).1.1.1 0 i = tx i := fun i i0 i1 => by
    rw [htx, ← l4]
    obtain ⟨g1, -⟩ := txr_get3 (R := (stlAll (A.1 A.2.1) (-1) true).1.1) l1.nn.1 i0 (by omega)
    rw [(d3 i i0 (by omega)).1] at g1
    show _ = ((TxR 3 (stlAll (A.1 A.2.1) (-1) true).1.1)[i.toNat]?).getD 0
    rw [g1]
    rfl
  have k1 : ∀ i, 0 ≤ i → i < (q : Int) → Con 5 mX9_unitAt 0 0 [vA 0, vI i] σ3 (vI (tx i), σ3) := fun i i0 i1 => by
    have c := ok_unitAt hS3 hA3 (p := i) (by rw [eN, (d3 i i0 (by omega)).1]; omega) (by rw [eN, (d3 i i0 (by omega)).1]; omega)
    have hri := hr i i0 i1
    rw [eN, (d3 i i0 (by omega)).1, hat3 i i0 i1, Int.emod_eq_of_lt hri.1 hri.2] at c
    exact c
  have k2 : ∀ i, 0 ≤ i → i < (q : Int) → Con 3 mX9_oldAt 0 0 [vA 0, vI i] σ3 (vI (tx i), σ3) := fun i i0 i1 => by
    have c := ok_oldAt hS3 hA3 (p := i) (by rw [eN, (d3 i i0 (by omega)).2]; omega)
    have hri := hr i i0 i1
    rw [eN, (d3 i i0 (by omega)).2, hat3 i i0 i1, Int.emod_eq_of_lt hri.1 hri.2] at c
    exact c
  have k3 := ok_length hS3 hA3
  rw [eN, d1, hnq] at k3
  have k4 := ok_oldLength hS3 hA3
  rw [eN, d2, hnq] at k4
  obtain ⟨σ4, y1, y2, y3⟩ := ok_isSound hS3 hA3 hWH3 (by rw [eN]; exact l1.1.layp (by decide)) (by rw [eN]; exact jdT_all l1.1) (by rw [eN]; exact fun j j0 j1 => (l1.1.2.1.2 j j0 j1).2.1)
  have hdue := ok_length hS hA
  rw [hlen] at hdue
  refine ⟨σ4, ?_⟩
  refine con_of_go mfL_isLeft.1 (Or.inr rfl) (Nat.le_of_ble_eq_true rfl) rfl (by decide) ?_
  show Go _ _ _ _ 0 [vA _, vA _, vI _, vT 9 0, vT 9 0, vT 9 0, vT 9 0, vT 9 0] [] _ _
  refine go_iload_n (at_of tL_isLeft 0 0 rfl) rfl ?_
  refine go_if_eq (tgt := 11) (at_of tL_isLeft 0 1 rfl) (by decide) (fun h1 => ?_) (fun h1 => ?_)
  · exfalso; omega
  refine go_aload_n (at_of tL_isLeft 0 2 rfl) rfl ?_
  refine go_cV (hdue) lk_L_129 rfl G_0 (at_of tL_isLeft 0 3 rfl) rfl (by decide) rfl (Nat.le_of_ble_eq_true rfl) rfl (⟨by omega, by omega⟩) ?_
  refine go_goto (tgt := 15) (at_of tL_isLeft 0 4 rfl) (by decide) ?_
  refine go_istore_n (at_of tL_isLeft 0 7 rfl) rfl rfl ?_
  refine go_iload_n (at_of tL_isLeft 0 8 rfl) rfl ?_
  refine go_newCD (n := q) (a := σ.2.2) rfl (by omega) (by omega) (inL 185 (by decide +kernel) (by decide +kernel)) ⟨Nat.le_refl _, hq2⟩ (at_of tL_isLeft 0 9 rfl) ?_
  refine go_astore (at_of tL_isLeft 0 10 rfl) rfl rfl ?_
  refine go_iconst (at_of tL_isLeft 0 11 rfl) (by unfold in32; omega) ?_
  refine go_istore (at_of tL_isLeft 0 12 rfl) rfl rfl ?_
  refine p5 _ _ _ _ (fun b2 => ?_)
  refine go_aload_n (at_of tL_isLeft 1 14 rfl) rfl ?_
  refine go_iconst (at_of tL_isLeft 1 15 rfl) (by unfold in32; omega) ?_
  refine go_iload_n (at_of tL_isLeft 2 0 rfl) rfl ?_
  refine go_cV (j1) lk_L_66 rfl G_0 (at_of tL_isLeft 2 1 rfl) rfl (by decide) rfl (Nat.le_of_ble_eq_true rfl) rfl (⟨by omega, by omega⟩) ?_
  refine go_istore (at_of tL_isLeft 2 2 rfl) rfl rfl ?_
  refine go_iload (at_of tL_isLeft 2 3 rfl) rfl rfl ?_
  refine go_if_lt (tgt := 93) (at_of tL_isLeft 2 4 rfl) (by decide) (fun h70 => ?_) (fun h70 => ?_)
  · exfalso; omega
  refine go_aload_n (at_of tL_isLeft 2 5 rfl) rfl ?_
  refine go_cV (k3) lk_L_129 rfl G_0 (at_of tL_isLeft 2 6 rfl) rfl (by decide) rfl (Nat.le_of_ble_eq_true rfl) rfl (⟨by omega, by omega⟩) ?_
  refine go_iload_n (at_of tL_isLeft 2 7 rfl) rfl ?_
  refine go_icmp_ne (tgt := 93) (at_of tL_isLeft 2 8 rfl) (by decide) (fun h78 => ?_) (fun h78 => ?_)
  · exfalso; exact h78 rfl
  refine go_aload_n (at_of tL_isLeft 2 9 rfl) rfl ?_
  refine go_cV (k4) lk_L_171 rfl G_0 (at_of tL_isLeft 2 10 rfl) rfl (by decide) rfl (Nat.le_of_ble_eq_true rfl) rfl (⟨by omega, by omega⟩) ?_
  refine go_iload_n (at_of tL_isLeft 2 11 rfl) rfl ?_
  refine go_icmp_ne (tgt := 93) (at_of tL_isLeft 2 12 rfl) (by decide) (fun h86 => ?_) (fun h86 => ?_)
  · exfalso; exact h86 rfl
  refine go_iconst (at_of tL_isLeft 2 13 rfl) (by unfold in32; omega) ?_
  refine go_goto (tgt := 94) (at_of tL_isLeft 2 14 rfl) (by decide) ?_
  refine go_istore (at_of tL_isLeft 3 0 rfl) rfl rfl ?_
  refine go_iconst (at_of tL_isLeft 3 1 rfl) (by unfold in32; omega) ?_
  refine go_istore (at_of tL_isLeft 3 2 rfl) rfl rfl ?_
  refine lp_cp hq2 k1 k2 hg3 hv3 (fun b3 => ?_) q 0 _ (Int.le_refl _) (by omega)
  refine go_iload (at_of tL_isLeft 4 12 rfl) rfl rfl ?_
  refine go_if_eq (tgt := 167) (at_of tL_isLeft 4 13 rfl) (by decide) (fun h153 => ?_) (fun h153 => ?_)
  · exfalso; omega
  refine go_aload_n (at_of tL_isLeft 4 14 rfl) rfl ?_
  refine go_cV (y1) lk_L_186 rfl G_0 (at_of tL_isLeft 4 15 rfl) rfl (by decide) rfl (Nat.le_of_ble_eq_true rfl) rfl (⟨by omega, by omega⟩) ?_
  refine go_if_eq (tgt := 167) (at_of tL_isLeft 5 0 rfl) (by decide) (fun h160 => ?_) (fun h160 => ?_)
  · exfalso; omega
  refine go_iconst (at_of tL_isLeft 5 1 rfl) (by unfold in32; omega) ?_
  refine go_goto (tgt := 168) (at_of tL_isLeft 5 2 rfl) (by decide) ?_
  first | exact go_reti (at_of tL_isLeft 5 4 rfl) rfl | exact go_reti (at_of tL_isLeft 5 4 rfl) (le_i (by omega)) | exact go_reti (at_of tL_isLeft 5 4 rfl) (le_i (by first | exact bI_t (by omega) | exact bI_f (by omega)))
theorem isLeft_f (h : Sim σ F A k) : ∃ σ2, Con 8 mL_isLeft 1 200 [vA 0, vA 109, vI 0] σ (vI 1, σ2) := by
  obtain ⟨hS, ⟨pi, hA⟩, hWH, h01⟩ := id h.1
  obtain ⟨hP, hk9⟩ := h.pp
  have hN := hP.nn
  have hcap := h.cap
  obtain ⟨q, hq⟩ : ∃ q : Nat, (TxR (wOf false) (A.1 A.2.1).1).length = q := ⟨_, rfl⟩
  obtain ⟨tx, htx⟩ : ∃ tx : Int → Int, ∀ j : Int, tx j = ((TxR (wOf false) (A.1 A.2.1).1)[j.toNat]?).getD 0 := ⟨_, fun _ => rfl⟩
  have hlen : oldN (A.1 A.2.1).1.1 (A.1 A.2.1).1.2.1 = (q : Int) := by rw [← hq]; exact (txr_len2 hN.1).symm
  have hq2 : q ≤ 200 := by
    have := cntF_le (fun i => decide ((A.1 A.2.1).1.1 2 i = -1)) (A.1 A.2.1).1.2.1.toNat 0
    have e : ((TxR (wOf false) (A.1 A.2.1).1).length : Int) = _ := txt_len _ _
    have e : ((TxR (wOf false) (A.1 A.2.1).1).length : Int) = cntF (fun i => decide ((A.1 A.2.1).1.1 2 i = -1)) (A.1 A.2.1).1.2.1.toNat 0 := e
    omega
  have hat : ∀ i, 0 ≤ i → i < (q : Int) → tx i = (A.1 A.2.1).1.1 0 (ixOld (A.1 A.2.1).1.1 (A.1 A.2.1).1.2.1 i) ∧ 0 ≤ ixOld (A.1 A.2.1).1.1 (A.1 A.2.1).1.2.1 i ∧ ixOld (A.1 A.2.1).1.1 (A.1 A.2.1).1.2.1 i < (A.1 A.2.1).1.2.1 := fun i i0 i1 => by
    obtain ⟨g1, g2, g3⟩ := txr_get2 hN.1 i0 (by rw [hlen]; exact i1)
    refine ⟨?_, g2, g3⟩
    rw [htx]
    show ((TxR 2 (A.1 A.2.1).1)[i.toNat]?).getD 0 = _
    rw [g1]
    rfl
  have hr : ∀ i, 0 ≤ i → i < (q : Int) → 0 ≤ tx i ∧ tx i < 65536 := fun i i0 i1 => by
    obtain ⟨g1, g2, g3⟩ := hat i i0 i1
    obtain ⟨-, -, -, m4⟩ := hP.u g2 (by omega)
    rw [g1]
    omega
  have hC : ∀ τ, Off τ A → ∀ i, 0 ≤ i → i < (q : Int) → Con 3 mX9_oldAt 0 0 [vA 0, vI i] τ (vI (tx i), τ) := fun τ hO i i0 i1 => by
    obtain ⟨hS, ⟨pi, hA⟩, -⟩ := hO
    obtain ⟨g1, g2, g3⟩ := hat i i0 i1
    have c := ok_oldAt hS hA (p := i) (by omega)
    have hri := hr i i0 i1
    rw [← g1, Int.emod_eq_of_lt hri.1 hri.2] at c
    exact c
  have hgc : GamD (nxD σ 2 q) σ.2.2 = (2, q) := GamD_nxD (by decide) (gam99 (by omega))
  have hlo1 : Lo σ (nxD σ 2 q) := OutD.nx.lo (by omega) (fun x hx => hx.elim)
  obtain ⟨τ, ⟨p1, p2⟩, p3, p4, p5⟩ := lp_fl_f (A := A) (q := q) (c := σ.2.2) (tx := tx) ⟨by omega, hq2⟩ hr hC q 0 (nxD σ 2 q) (Int.le_refl _) (by omega) (h.1.lo hlo1) hgc (by show σ.2.2 < σ.2.2 + 1; omega) (fun j j0 j1 => by omega)
  have hcap1 : (nxD σ 2 q).2.2 = σ.2.2 + 1 := rfl
  have hO2 := (h.1.lo hlo1).lo (p1.lo (by omega) (fun x hx => by omega))
  obtain ⟨hS2, ⟨pi2, hA2⟩, hWH2, -⟩ := id hO2
  obtain ⟨σ3, pi3, j1, j2⟩ := ok_judge hS2 hA2 (a := -1) (acc := false) (Or.inl rfl)
  obtain ⟨l1, l2, l3, l4⟩ := hP.left (acc := false)
  have hO3 := j2.off hO2
  obtain ⟨hS3, ⟨pi4, hA3⟩, hWH3, -⟩ := id hO3
  have eN : (edA (begA A) (stlAll (A.1 A.2.1) (-1) false).1).1 (edA (begA A) (stlAll (A.1 A.2.1) (-1) false).1).2.1 = (stlAll (A.1 A.2.1) (-1) false).1 := if_pos rfl
  obtain ⟨d1, d2, d3, d4⟩ := clean_row (R := (stlAll (A.1 A.2.1) (-1) false).1.1) l1.nn.1 l3
  have hnq : (stlAll (A.1 A.2.1) (-1) false).1.1.2.1 = (q : Int) := by
    have := d4 false
    rw [l4, hq] at this
    exact this.symm
  have hcap2 : τ.2.2 = σ.2.2 + 1 := by rw [p2]; rfl
  have hv3 : ∀ j : Int, 0 ≤ j → j < q → σ3.1 σ.2.2 j.toNat = tx j := fun j j0 j1 => ((j2.hi.2 σ.2.2 (by omega) (by omega)).1 _).trans (p4 j j0 j1)
  have hg3 : GamD σ3 σ.2.2 = (2, q) := (j2.hi.gam (by omega) (by omega)).trans p3
  have hat3 : ∀ i, 0 ≤ i → i < (q : Int) → (stlAll (A.1 A.2.1) (-1) false).1.1.1 0 i = tx i := fun i i0 i1 => by
    rw [htx, ← l4]
    obtain ⟨g1, -⟩ := txr_get2 (R := (stlAll (A.1 A.2.1) (-1) false).1.1) l1.nn.1 i0 (by omega)
    rw [(d3 i i0 (by omega)).2] at g1
    show _ = ((TxR 2 (stlAll (A.1 A.2.1) (-1) false).1.1)[i.toNat]?).getD 0
    rw [g1]
    rfl
  have k1 : ∀ i, 0 ≤ i → i < (q : Int) → Con 5 mX9_unitAt 0 0 [vA 0, vI i] σ3 (vI (tx i), σ3) := fun i i0 i1 => by
    have c := ok_unitAt hS3 hA3 (p := i) (by rw [eN, (d3 i i0 (by omega)).1]; omega) (by rw [eN, (d3 i i0 (by omega)).1]; omega)
    have hri := hr i i0 i1
    rw [eN, (d3 i i0 (by omega)).1, hat3 i i0 i1, Int.emod_eq_of_lt hri.1 hri.2] at c
    exact c
  have k2 : ∀ i, 0 ≤ i → i < (q : Int) → Con 3 mX9_oldAt 0 0 [vA 0, vI i] σ3 (vI (tx i), σ3) := fun i i0 i1 => by
    have c := ok_oldAt hS3 hA3 (p := i) (by rw [eN, (d3 i i0 (by omega)).2]; omega)
    have hri := hr i i0 i1
    rw [eN, (d3 i i0 (by omega)).2, hat3 i i0 i1, Int.emod_eq_of_lt hri.1 hri.2] at c
    exact c
  have k3 := ok_length hS3 hA3
  rw [eN, d1, hnq] at k3
  have k4 := ok_oldLength hS3 hA3
  rw [eN, d2, hnq] at k4
  obtain ⟨σ4, y1, y2, y3⟩ := ok_isSound hS3 hA3 hWH3 (by rw [eN]; exact l1.1.layp (by decide)) (by rw [eN]; exact jdT_all l1.1) (by rw [eN]; exact fun j j0 j1 => (l1.1.2.1.2 j j0 j1).2.1)
  have hdue := ok_oldLength hS hA
  rw [hlen] at hdue
  refine ⟨σ4, ?_⟩
  refine con_of_go mfL_isLeft.1 (Or.inr rfl) (Nat.le_of_ble_eq_true rfl) rfl (by decide) ?_
  show Go _ _ _ _ 0 [vA _, vA _, vI _, vT 9 0, vT 9 0, vT 9 0, vT 9 0, vT 9 0] [] _ _
  refine go_iload_n (at_of tL_isLeft 0 0 rfl) rfl ?_
  refine go_if_eq (tgt := 11) (at_of tL_isLeft 0 1 rfl) (by decide) (fun h1 => ?_) (fun h1 => ?_)
  rotate_left
  · exfalso; omega
  refine go_aload_n (at_of tL_isLeft 0 5 rfl) rfl ?_
  refine go_cV (hdue) lk_L_171 rfl G_0 (at_of tL_isLeft 0 6 rfl) rfl (by decide) rfl (Nat.le_of_ble_eq_true rfl) rfl (⟨by omega, by omega⟩) ?_
  refine go_istore_n (at_of tL_isLeft 0 7 rfl) rfl rfl ?_
  refine go_iload_n (at_of tL_isLeft 0 8 rfl) rfl ?_
  refine go_newCD (n := q) (a := σ.2.2) rfl (by omega) (by omega) (inL 185 (by decide +kernel) (by decide +kernel)) ⟨Nat.le_refl _, hq2⟩ (at_of tL_isLeft 0 9 rfl) ?_
  refine go_astore (at_of tL_isLeft 0 10 rfl) rfl rfl ?_
  refine go_iconst (at_of tL_isLeft 0 11 rfl) (by unfold in32; omega) ?_
  refine go_istore (at_of tL_isLeft 0 12 rfl) rfl rfl ?_
  refine p5 _ _ _ _ (fun b2 => ?_)
  refine go_aload_n (at_of tL_isLeft 1 14 rfl) rfl ?_
  refine go_iconst (at_of tL_isLeft 1 15 rfl) (by unfold in32; omega) ?_
  refine go_iload_n (at_of tL_isLeft 2 0 rfl) rfl ?_
  refine go_cV (j1) lk_L_66 rfl G_0 (at_of tL_isLeft 2 1 rfl) rfl (by decide) rfl (Nat.le_of_ble_eq_true rfl) rfl (⟨by omega, by omega⟩) ?_
  refine go_istore (at_of tL_isLeft 2 2 rfl) rfl rfl ?_
  refine go_iload (at_of tL_isLeft 2 3 rfl) rfl rfl ?_
  refine go_if_lt (tgt := 93) (at_of tL_isLeft 2 4 rfl) (by decide) (fun h70 => ?_) (fun h70 => ?_)
  · exfalso; omega
  refine go_aload_n (at_of tL_isLeft 2 5 rfl) rfl ?_
  refine go_cV (k3) lk_L_129 rfl G_0 (at_of tL_isLeft 2 6 rfl) rfl (by decide) rfl (Nat.le_of_ble_eq_true rfl) rfl (⟨by omega, by omega⟩) ?_
  refine go_iload_n (at_of tL_isLeft 2 7 rfl) rfl ?_
  refine go_icmp_ne (tgt := 93) (at_of tL_isLeft 2 8 rfl) (by decide) (fun h78 => ?_) (fun h78 => ?_)
  · exfalso; exact h78 rfl
  refine go_aload_n (at_of tL_isLeft 2 9 rfl) rfl ?_
  refine go_cV (k4) lk_L_171 rfl G_0 (at_of tL_isLeft 2 10 rfl) rfl (by decide) rfl (Nat.le_of_ble_eq_true rfl) rfl (⟨by omega, by omega⟩) ?_
  refine go_iload_n (at_of tL_isLeft 2 11 rfl) rfl ?_
  refine go_icmp_ne (tgt := 93) (at_of tL_isLeft 2 12 rfl) (by decide) (fun h86 => ?_) (fun h86 => ?_)
  · exfalso; exact h86 rfl
  refine go_iconst (at_of tL_isLeft 2 13 rfl) (by unfold in32; omega) ?_
  refine go_goto (tgt := 94) (at_of tL_isLeft 2 14 rfl) (by decide) ?_
  refine go_istore (at_of tL_isLeft 3 0 rfl) rfl rfl ?_
  refine go_iconst (at_of tL_isLeft 3 1 rfl) (by unfold in32; omega) ?_
  refine go_istore (at_of tL_isLeft 3 2 rfl) rfl rfl ?_
  refine lp_cp hq2 k1 k2 hg3 hv3 (fun b3 => ?_) q 0 _ (Int.le_refl _) (by omega)
  refine go_iload (at_of tL_isLeft 4 12 rfl) rfl rfl ?_
  refine go_if_eq (tgt := 167) (at_of tL_isLeft 4 13 rfl) (by decide) (fun h153 => ?_) (fun h153 => ?_)
  · exfalso; omega
  refine go_aload_n (at_of tL_isLeft 4 14 rfl) rfl ?_
  refine go_cV (y1) lk_L_186 rfl G_0 (at_of tL_isLeft 4 15 rfl) rfl (by decide) rfl (Nat.le_of_ble_eq_true rfl) rfl (⟨by omega, by omega⟩) ?_
  refine go_if_eq (tgt := 167) (at_of tL_isLeft 5 0 rfl) (by decide) (fun h160 => ?_) (fun h160 => ?_)
  · exfalso; omega
  refine go_iconst (at_of tL_isLeft 5 1 rfl) (by unfold in32; omega) ?_
  refine go_goto (tgt := 168) (at_of tL_isLeft 5 2 rfl) (by decide) ?_
  first | exact go_reti (at_of tL_isLeft 5 4 rfl) rfl | exact go_reti (at_of tL_isLeft 5 4 rfl) (le_i (by omega)) | exact go_reti (at_of tL_isLeft 5 4 rfl) (le_i (by first | exact bI_t (by omega) | exact bI_f (by omega)))
theorem con_isLeft (h : Sim σ F A k) {acc : Bool} : ∃ σ2, Con 8 mL_isLeft 1 200 [vA 0, vA 109, vI (bI (acc = true))] σ (vI 1, σ2) := by
  cases acc
  · exact isLeft_f h
  · exact isLeft_t h
end Left2
