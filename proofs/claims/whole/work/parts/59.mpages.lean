/-! The reference's layout: pages. -/
section Mod18
variable {σ : St}
def KVm (σ : St) : Int → Int := keepF (clF σ 113 8) (clF σ 115 8) 8
def FrY (σ σ' : St) : Prop := σ'.2 = σ.2 ∧ ∀ a j : Nat, ¬ ((126 ≤ a ∧ a ≤ 132) ∨ (a = 109 ∧ (j = 28 ∨ j = 32 ∨ j = 33))) → σ'.1 a j = σ.1 a j
theorem FrY.refl : FrY σ σ := ⟨rfl, fun _ _ _ => rfl⟩
theorem FrY.trans {σ' σ'' : St} (h : FrY σ σ') (h' : FrY σ' σ'') : FrY σ σ'' := ⟨h'.1.trans h.1, fun a j q => (h'.2 a j q).trans (h.2 a j q)⟩
theorem FrY.cN {σ' : St} (h : FrY σ σ') : cN σ' = cN σ := funext fun x => h.2 110 _ (by omega)
theorem FrY.kv {σ' : St} (h : FrY σ σ') : KVm σ' = KVm σ := by
  unfold KVm
  rw [show clF σ' 113 8 = clF σ 113 8 by funext x; unfold clF cl; rw [h.2 _ _ (by omega)], show clF σ' 115 8 = clF σ 115 8 by funext x; unfold clF cl; rw [h.2 _ _ (by omega)]]
theorem FrY.str {σ' : St} (h : FrY σ σ') (hS : Str σ.2.1) : Str σ'.2.1 := by rw [h.1]; exact hS
/-- styles of a paper's ends are there; styles stand behind their parents -/
def StyW (R : RowD) (m : Int) : Prop := ∀ i, 0 ≤ i → i ≤ R.2.1 → R.1 0 i = 47 → 0 ≤ R.1 5 i ∧ R.1 5 i < m
def StyM (σ : St) : Prop := (1 ≤ σ.1 109 7 ∧ σ.1 109 7 ≤ 8) ∧ ∀ s : Int, 0 ≤ s → s < σ.1 109 7 → -1 ≤ σ.1 113 s.toNat ∧ σ.1 113 s.toNat < s
def LayM (σ : St) (R : RowD) (Q KV : Int → Int) (w h : Int) : Prop :=
  (∀ v, 0 ≤ v → v ≤ R.2.1 → R.1 3 v = -1 → R.1 0 v ≠ 47 → σ.1 126 v.toNat = lnS R Q w (enN R v) (sgS R Q v) ∧ σ.1 127 v.toNat = lnS R Q w (enN R v) (sgS R Q (v + 1) - 1)) ∧
  (∀ q, 0 ≤ q → q < parN R → σ.1 130 q.toNat = pgR R Q KV w h q) ∧ σ.1 109 32 = (psR R Q KV w h (parN R) - 1) / h
theorem mvP_eq {h p t : Int} : mvP h p t = if h < p % h + t ∧ t ≤ h then p / h * h + h else p := rfl
theorem m_lays (hS : Str σ.2.1) {D : PapD} (hN : RepN (cN σ) D) (hW : WfM D) (hQW : QW D.2.2) (hLt : LtW D.1) (hB : sgS D.1 D.2.2 (D.1.2.1 + 1) ≤ 500) (hM : StyM σ) (hSt : StyW D.1 (σ.1 109 7)) (hw : 5 ≤ σ.1 109 19 ∧ σ.1 109 19 ≤ 60) (hh : 2 ≤ σ.1 109 20 ∧ σ.1 109 20 ≤ 40) : ∃ σ', Con 3 mX10_lays 0 0 [vA 109] σ (vT 8 0, σ') ∧ FrY σ σ' ∧ LayM σ' D.1 D.2.2 (KVm σ) (σ.1 109 19) (σ.1 109 20) := by
  obtain ⟨hL, hSg, hMk, hRw⟩ := id hW
  obtain ⟨e1, e2, e3, e4⟩ := id hL
  obtain ⟨h8, hPT⟩ := id hM
  obtain ⟨w, hwd⟩ : ∃ w, w = σ.1 109 19 := ⟨_, rfl⟩
  obtain ⟨h, hhd⟩ : ∃ h, h = σ.1 109 20 := ⟨_, rfl⟩
  rw [← hwd] at hw ⊢
  rw [← hhd] at hh ⊢
  obtain ⟨σ1, L1, L2⟩ := m_lays_1 hS hN.1 hN.2.2.1 hQW hL hSg hLt hB hw hwd.symm
  obtain ⟨i1, i3, i4, i5⟩ := id L1
  have hpar := hL.par
  have hpd : parN D.1 = enN D.1 (D.1.2.1 + 1) := rfl
  obtain ⟨E, hE⟩ : ∃ E, E = parN D.1 := ⟨_, rfl⟩
  rw [← hpd, ← hE] at i3 i4
  obtain ⟨ls, hls⟩ : ∃ ls, ls = lsR D.1 D.2.2 w := ⟨_, rfl⟩
  obtain ⟨kp, hkp⟩ : ∃ kp, kp = kpF D.1 (KVm σ) := ⟨_, rfl⟩
  obtain ⟨ps, hps⟩ : ∃ ps, ps = psR D.1 D.2.2 (KVm σ) w h := ⟨_, rfl⟩
  obtain ⟨pg, hpg⟩ : ∃ pg, pg = pgR D.1 D.2.2 (KVm σ) w h := ⟨_, rfl⟩
  rw [← hls] at i4
  have n0 := @enN_nn D.1 D.1.2.1
  have n1 := enN_ub (R := D.1) e1
  have fE := fsF_S (R := D.1) (Q := D.2.2) e1 (q := parN D.1) (by omega) (Int.le_refl _)
  have kp01 : ∀ q, kp q = 0 ∨ kp q = 1 := fun q => by rw [hkp]; exact keepF_01 _ _
  have lsb : ∀ q, 0 ≤ q → q ≤ E → 0 ≤ ls q ∧ ls q ≤ 701 := fun q a b => by
    rw [hls]
    have z := lsR_b (R := D.1) (Q := D.2.2) e1 (w := w) (q := q) (by omega) a (by omega)
    have y := fsF_S (R := D.1) (Q := D.2.2) e1 (q := q) (by omega) (by omega)
    omega
  have lss : ∀ q, 0 ≤ q → q < E → ls q < ls (q + 1) := fun q a b => by rw [hls]; exact lsR_lt e1 (by omega) a (by omega)
  have psb : ∀ q, 0 ≤ q → q ≤ E → 0 ≤ ps q ∧ ps q ≤ 9000 := fun q a b => by
    have z := psR_le (R := D.1) (Q := D.2.2) (KV := KVm σ) e1 (w := w) (h := h) (by omega) (by omega) q.toNat (by omega)
    rw [show ((q.toNat : Nat) : Int) = q by omega, ← hps, ← hls] at z
    have y := lsb q a b
    have x : q * h ≤ 201 * 40 := Int.mul_le_mul (by omega) hh.2 (by omega) (by omega)
    omega
  have pss : ∀ q, 0 ≤ q → ps (q + 1) = pg q + (ls (q + 1) - ls q) := fun q a => by rw [hps, hpg, hls]; exact psI_s a
  have pgd : ∀ q, pg q = if kp q = 1 ∧ ¬ (0 < q ∧ kp (q - 1) = 1) then mvP h (ps q) (togF ls kp E q) else ps q := fun q => by rw [hpg, hkp, hps, hls, hE]; rfl
  have togd : ∀ q, togF ls kp E q = ls (tgF kp (E - q).toNat q) - ls q + (if tgF kp (E - q).toNat q < E then 1 else 0) := fun _ => rfl
  obtain ⟨σ0, hσ0⟩ : ∃ σ0, σ0 = σ1 := ⟨_, rfl⟩
  have F01 : FrY σ σ0 := by rw [hσ0]; exact i1
  have key : ∀ (m : Nat) (q : Int) (σa : St), 0 ≤ q → q + m = E → (FrY σ σa ∧ (∀ a j : Nat, a ≠ 130 → σa.1 a j = σ1.1 a j) ∧ ∀ u, 0 ≤ u → u < q → σa.1 130 u.toNat = pg u) → ∃ σb, (FrY σ σb ∧ (∀ a j : Nat, a ≠ 130 → σb.1 a j = σ1.1 a j) ∧ ∀ u, 0 ≤ u → u < E → σb.1 130 u.toNat = pg u) ∧ ∀ (b : Nat × Nat) (v1 : Int) (v4 v5 v6 v7 : MV) (out : MV × St), (∀ (b : Nat × Nat) (v3 v4 v5 v6 v7 : MV), Go (fun _ => 0) 3 mX10_lays b 294 [vA 109, vI v1, vI (ps E), v3, v4, v5, v6, v7] [] σb out) → Go (fun _ => 0) 3 mX10_lays b 97 [vA 109, vI v1, vI (ps q), vI q, v4, v5, v6, v7] [] σa out := by
    intro m
    induction m with
    | zero =>
      intro q σa h0 h1 hI
      obtain rfl : q = E := by omega
      refine ⟨σa, hI, fun b v1 v4 v5 v6 v7 out K => ?_⟩
      have hS1 : Str σa.2.1 := hI.1.str hS
      have e28 : σa.1 109 28 = q := by rw [hI.2.1 _ _ (by omega)]; exact i3
      refine go_iload_n (at_of tX10_lays 3 9 rfl) rfl ?_
      refine go_aload_n (at_of tX10_lays 3 10 rfl) rfl ?_
      refine go_getf fl_X10_303 rfl G_109 (at_of tX10_lays 3 11 rfl) ?_
      refine go_icmp_ge (tgt := 294) (at_of tX10_lays 3 12 rfl) (by decide) (fun h102 => ?_) (fun h102 => ?_)
      rotate_left
      · exfalso; omega
      exact K _ _ _ _ _ _
    | succ m ih =>
      intro q σa h0 h1 hI
      obtain ⟨g1, g2, g3⟩ := id hI
      have hS1 : Str σa.2.1 := g1.str hS
      have e28 : σa.1 109 28 = E := by rw [g2 _ _ (by omega)]; exact i3
      have eh : σa.1 109 20 = h := by rw [g1.2 _ _ (by omega)]; exact hhd.symm
      have hN1 : RepN (cN σa) D := by rw [g1.cN]; exact hN
      have e7 : σa.1 109 7 = σ.1 109 7 := g1.2 _ _ (by omega)
      have kept : ∀ q, 0 ≤ q → q < E → Con 1 mX10_isKept 0 0 [vA 109, vI (ixEnd D.1.1 D.1.2.1 q)] σa (vI (kp q), σa) := fun q a b => by
        obtain ⟨x1, x2, x3, x4⟩ := enN_ixEnd (R := D.1) e1 a (by omega)
        have x5 := ((send_iff x1 x2).mp x3).2
        have z := m_isKept hS1 hN1 hW (by rw [e7]; exact h8) (fun s a b => by rw [g1.2 113 _ (by omega)]; exact hPT s a (by rw [e7] at b; exact b)) (i := ixEnd D.1.1 D.1.2.1 q) ⟨x1, x2⟩ x5 (by rw [e7]; exact hSt _ x1 x2 x5)
        rw [show keepF (clF σa 113 8) (clF σa 115 8) 8 (D.1.1 5 (ixEnd D.1.1 D.1.2.1 q)) = kp q by rw [hkp]; show KVm σa _ = KVm σ _; rw [g1.kv]] at z
        exact z
      have i4 : ∀ q, 0 ≤ q → q < E → σa.1 128 q.toNat = ixEnd D.1.1 D.1.2.1 q ∧ σa.1 129 q.toNat = ls (q + 1) - ls q := fun q a b => by rw [g2 _ _ (by omega), g2 _ _ (by omega)]; exact i4 q a b
      have i4q := i4 q h0 (by omega)
      have pq := psb q h0 (by omega)
      have pq1 := psb (q + 1) (by omega) (by omega)
      have ps1 := pss q h0
      have l0 := lsb q h0 (by omega)
      have l1 := lsb (q + 1) (by omega) (by omega)
      have l2 := lss q h0 (by omega)
      have d0 := Int.emod_nonneg (ps q) (show h ≠ 0 by omega)
      have d1 := Int.emod_lt_of_pos (ps q) (show 0 < h by omega)
      have d2 := Int.ediv_mul_le (ps q) (show h ≠ 0 by omega)
      have d3 := Int.mul_nonneg (Int.ediv_nonneg pq.1 (show 0 ≤ h by omega)) (show 0 ≤ h by omega)
      obtain ⟨σb, z1, z2⟩ := ih (q + 1) (M1 σa 130 q (pg q)) (by omega) (by omega) ⟨g1.trans ⟨rfl, fun a j y => M1_ne (by omega)⟩, fun a j y => by rw [M1_ne y]; exact g2 a j y, fun u a b => by
        by_cases hu : u = q
        · rw [hu, M1_eq rfl]
        · rw [M1_nj (by omega)]; exact g3 u a (by omega)⟩
      refine ⟨σb, z1, fun b v1 v4 v5 v6 v7 out K => ?_⟩
      have fin : ∀ (b : Nat × Nat) (v4 v5 v6 v7 : MV), Go (fun _ => 0) 3 mX10_lays b 272 [vA 109, vI v1, vI (pg q), vI q, v4, v5, v6, v7] [] σa out := fun b v4 v5 v6 v7 => by
        refine go_aload_n (at_of tX10_lays 9 6 rfl) rfl ?_
        refine go_getr (q := 130) fl_X10_86 rfl G_109 (by first | exact (hS _ _ rfl).trans rfl | exact (hS1 _ _ rfl).trans rfl | exact (hS2 _ _ rfl).trans rfl | exact (hS3 _ _ rfl).trans rfl | exact (hS4 _ _ rfl).trans rfl) (at_of tX10_lays 9 7 rfl) ?_
        refine go_iload_n (at_of tX10_lays 9 8 rfl) rfl ?_
        refine go_iload_n (at_of tX10_lays 9 9 rfl) rfl ?_
        refine go_iast1 G_130 (by omega) (by omega) (at_of tX10_lays 9 10 rfl) ?_
        refine go_iload_n (at_of tX10_lays 9 11 rfl) rfl ?_
        refine go_aload_n (at_of tX10_lays 9 12 rfl) rfl ?_
        refine go_getr (q := 129) fl_X10_83 rfl G_109 (by first | exact (hS _ _ rfl).trans rfl | exact (hS1 _ _ rfl).trans rfl | exact (hS2 _ _ rfl).trans rfl | exact (hS3 _ _ rfl).trans rfl | exact (hS4 _ _ rfl).trans rfl) (at_of tX10_lays 9 13 rfl) ?_
        refine go_iload_n (at_of tX10_lays 9 14 rfl) rfl ?_
        skip
        refine go_iald G_129 (by omega) (by omega) (at_of tX10_lays 9 15 rfl) ?_
        rw [M1_ne (by omega), i4q.2]
        refine go_iadd (at_of tX10_lays 10 0 rfl) (by unfold in32; omega) ?_
        rw [show pg q + (ls (q + 1) - ls q) = ps (q + 1) from ps1.symm]
        refine go_istore_n (at_of tX10_lays 10 1 rfl) rfl rfl ?_
        refine go_iinc (at_of tX10_lays 10 2 rfl) rfl (by unfold in32; omega) rfl rfl ?_
        refine go_goto (tgt := 97) (at_of tX10_lays 10 3 rfl) (by decide) ?_
        exact z2 _ _ _ _ _ _ _ K
      have k183 : ∀ (t j : Int) (b : Nat × Nat) (v6 : Int) (v7 : MV), q ≤ j → j ≤ E → 0 ≤ t → t ≤ 800 → pg q = (if q < j then mvP h (ps q) (t + (if j < E then 1 else 0)) else ps q) → Go (fun _ => 0) 3 mX10_lays b 183 [vA 109, vI v1, vI (ps q), vI q, vI t, vI j, vI v6, v7] [] σa out := by
        intro t j b v6 v7 j0 j1 t0 t1 hp
        by_cases hj : q < j
        · rw [if_pos hj, mvP_eq] at hp
          by_cases hE : j < E
          · rw [if_pos hE] at hp
            by_cases c1 : h < ps q % h + (t + 1)
            · by_cases c2 : t + 1 ≤ h
              · rw [if_pos ⟨c1, c2⟩] at hp
                rw [hp] at fin
                refine go_iload (at_of tX10_lays 6 6 rfl) rfl rfl ?_
                refine go_iload (at_of tX10_lays 6 7 rfl) rfl rfl ?_
                refine go_iload_n (at_of tX10_lays 6 8 rfl) rfl ?_
                refine go_icmp_le (tgt := 204) (at_of tX10_lays 6 9 rfl) (by decide) (fun h188 => ?_) (fun h188 => ?_)
                · exfalso; omega
                refine go_iload (at_of tX10_lays 6 10 rfl) rfl rfl ?_
                refine go_aload_n (at_of tX10_lays 6 11 rfl) rfl ?_
                refine go_getf fl_X10_303 rfl G_109 (at_of tX10_lays 6 12 rfl) ?_
                refine go_icmp_ge (tgt := 204) (at_of tX10_lays 6 13 rfl) (by decide) (fun h197 => ?_) (fun h197 => ?_)
                · exfalso; omega
                refine go_iconst (at_of tX10_lays 6 14 rfl) (by unfold in32; omega) ?_
                refine go_goto (tgt := 205) (at_of tX10_lays 6 15 rfl) (by decide) ?_
                refine go_iadd (at_of tX10_lays 7 1 rfl) (by unfold in32; omega) ?_
                refine go_istore (at_of tX10_lays 7 2 rfl) rfl rfl ?_
                refine go_iload (at_of tX10_lays 7 3 rfl) rfl rfl ?_
                refine go_iload_n (at_of tX10_lays 7 4 rfl) rfl ?_
                refine go_icmp_le (tgt := 243) (at_of tX10_lays 7 5 rfl) (by decide) (fun h211 => ?_) (fun h211 => ?_)
                · exfalso; omega
                refine go_iload_n (at_of tX10_lays 7 6 rfl) rfl ?_
                refine go_aload_n (at_of tX10_lays 7 7 rfl) rfl ?_
                refine go_getf fl_X10_59 rfl G_109 (at_of tX10_lays 7 8 rfl) ?_
                rw [eh]
                refine go_irem (at_of tX10_lays 7 9 rfl) (by omega) (by omega) ?_
                refine go_iload (at_of tX10_lays 7 10 rfl) rfl rfl ?_
                refine go_iadd (at_of tX10_lays 7 11 rfl) (by unfold in32; omega) ?_
                refine go_aload_n (at_of tX10_lays 7 12 rfl) rfl ?_
                refine go_getf fl_X10_59 rfl G_109 (at_of tX10_lays 7 13 rfl) ?_
                rw [eh]
                refine go_icmp_le (tgt := 243) (at_of tX10_lays 7 14 rfl) (by decide) (fun h227 => ?_) (fun h227 => ?_)
                · exfalso; omega
                refine go_iload (at_of tX10_lays 7 15 rfl) rfl rfl ?_
                refine go_aload_n (at_of tX10_lays 8 0 rfl) rfl ?_
                refine go_getf fl_X10_59 rfl G_109 (at_of tX10_lays 8 1 rfl) ?_
                rw [eh]
                refine go_icmp_gt (tgt := 243) (at_of tX10_lays 8 2 rfl) (by decide) (fun h236 => ?_) (fun h236 => ?_)
                · exfalso; omega
                refine go_iconst (at_of tX10_lays 8 3 rfl) (by unfold in32; omega) ?_
                refine go_goto (tgt := 244) (at_of tX10_lays 8 4 rfl) (by decide) ?_
                refine go_istore (at_of tX10_lays 8 6 rfl) rfl rfl ?_
                refine go_iload (at_of tX10_lays 8 7 rfl) rfl rfl ?_
                refine go_if_eq (tgt := 270) (at_of tX10_lays 8 8 rfl) (by decide) (fun h248 => ?_) (fun h248 => ?_)
                · exfalso; omega
                refine go_iload_n (at_of tX10_lays 8 9 rfl) rfl ?_
                refine go_aload_n (at_of tX10_lays 8 10 rfl) rfl ?_
                refine go_getf fl_X10_59 rfl G_109 (at_of tX10_lays 8 11 rfl) ?_
                rw [eh]
                refine go_idiv (at_of tX10_lays 8 12 rfl) (by omega) (by omega) ?_
                refine go_aload_n (at_of tX10_lays 8 13 rfl) rfl ?_
                refine go_getf fl_X10_59 rfl G_109 (at_of tX10_lays 8 14 rfl) ?_
                rw [eh]
                refine go_imul (at_of tX10_lays 8 15 rfl) (by unfold in32; omega) ?_
                refine go_aload_n (at_of tX10_lays 9 0 rfl) rfl ?_
                refine go_getf fl_X10_59 rfl G_109 (at_of tX10_lays 9 1 rfl) ?_
                rw [eh]
                refine go_iadd (at_of tX10_lays 9 2 rfl) (by unfold in32; omega) ?_
                refine go_goto (tgt := 271) (at_of tX10_lays 9 3 rfl) (by decide) ?_
                refine go_istore_n (at_of tX10_lays 9 5 rfl) rfl rfl ?_
                exact fin _ _ _ _ _
              · rw [if_neg (fun y => c2 y.2)] at hp
                rw [hp] at fin
                refine go_iload (at_of tX10_lays 6 6 rfl) rfl rfl ?_
                refine go_iload (at_of tX10_lays 6 7 rfl) rfl rfl ?_
                refine go_iload_n (at_of tX10_lays 6 8 rfl) rfl ?_
                refine go_icmp_le (tgt := 204) (at_of tX10_lays 6 9 rfl) (by decide) (fun h188 => ?_) (fun h188 => ?_)
                · exfalso; omega
                refine go_iload (at_of tX10_lays 6 10 rfl) rfl rfl ?_
                refine go_aload_n (at_of tX10_lays 6 11 rfl) rfl ?_
                refine go_getf fl_X10_303 rfl G_109 (at_of tX10_lays 6 12 rfl) ?_
                refine go_icmp_ge (tgt := 204) (at_of tX10_lays 6 13 rfl) (by decide) (fun h197 => ?_) (fun h197 => ?_)
                · exfalso; omega
                refine go_iconst (at_of tX10_lays 6 14 rfl) (by unfold in32; omega) ?_
                refine go_goto (tgt := 205) (at_of tX10_lays 6 15 rfl) (by decide) ?_
                refine go_iadd (at_of tX10_lays 7 1 rfl) (by unfold in32; omega) ?_
                refine go_istore (at_of tX10_lays 7 2 rfl) rfl rfl ?_
                refine go_iload (at_of tX10_lays 7 3 rfl) rfl rfl ?_
                refine go_iload_n (at_of tX10_lays 7 4 rfl) rfl ?_
                refine go_icmp_le (tgt := 243) (at_of tX10_lays 7 5 rfl) (by decide) (fun h211 => ?_) (fun h211 => ?_)
                · exfalso; omega
                refine go_iload_n (at_of tX10_lays 7 6 rfl) rfl ?_
                refine go_aload_n (at_of tX10_lays 7 7 rfl) rfl ?_
                refine go_getf fl_X10_59 rfl G_109 (at_of tX10_lays 7 8 rfl) ?_
                rw [eh]
                refine go_irem (at_of tX10_lays 7 9 rfl) (by omega) (by omega) ?_
                refine go_iload (at_of tX10_lays 7 10 rfl) rfl rfl ?_
                refine go_iadd (at_of tX10_lays 7 11 rfl) (by unfold in32; omega) ?_
                refine go_aload_n (at_of tX10_lays 7 12 rfl) rfl ?_
                refine go_getf fl_X10_59 rfl G_109 (at_of tX10_lays 7 13 rfl) ?_
                rw [eh]
                refine go_icmp_le (tgt := 243) (at_of tX10_lays 7 14 rfl) (by decide) (fun h227 => ?_) (fun h227 => ?_)
                · exfalso; omega
                refine go_iload (at_of tX10_lays 7 15 rfl) rfl rfl ?_
                refine go_aload_n (at_of tX10_lays 8 0 rfl) rfl ?_
                refine go_getf fl_X10_59 rfl G_109 (at_of tX10_lays 8 1 rfl) ?_
                rw [eh]
                refine go_icmp_gt (tgt := 243) (at_of tX10_lays 8 2 rfl) (by decide) (fun h236 => ?_) (fun h236 => ?_)
                rotate_left
                · exfalso; omega
                refine go_iconst (at_of tX10_lays 8 5 rfl) (by unfold in32; omega) ?_
                refine go_istore (at_of tX10_lays 8 6 rfl) rfl rfl ?_
                refine go_iload (at_of tX10_lays 8 7 rfl) rfl rfl ?_
                refine go_if_eq (tgt := 270) (at_of tX10_lays 8 8 rfl) (by decide) (fun h248 => ?_) (fun h248 => ?_)
                rotate_left
                · exfalso; omega
                refine go_iload_n (at_of tX10_lays 9 4 rfl) rfl ?_
                refine go_istore_n (at_of tX10_lays 9 5 rfl) rfl rfl ?_
                exact fin _ _ _ _ _
            · rw [if_neg (fun y => c1 y.1)] at hp
              rw [hp] at fin
              refine go_iload (at_of tX10_lays 6 6 rfl) rfl rfl ?_
              refine go_iload (at_of tX10_lays 6 7 rfl) rfl rfl ?_
              refine go_iload_n (at_of tX10_lays 6 8 rfl) rfl ?_
              refine go_icmp_le (tgt := 204) (at_of tX10_lays 6 9 rfl) (by decide) (fun h188 => ?_) (fun h188 => ?_)
              · exfalso; omega
              refine go_iload (at_of tX10_lays 6 10 rfl) rfl rfl ?_
              refine go_aload_n (at_of tX10_lays 6 11 rfl) rfl ?_
              refine go_getf fl_X10_303 rfl G_109 (at_of tX10_lays 6 12 rfl) ?_
              refine go_icmp_ge (tgt := 204) (at_of tX10_lays 6 13 rfl) (by decide) (fun h197 => ?_) (fun h197 => ?_)
              · exfalso; omega
              refine go_iconst (at_of tX10_lays 6 14 rfl) (by unfold in32; omega) ?_
              refine go_goto (tgt := 205) (at_of tX10_lays 6 15 rfl) (by decide) ?_
              refine go_iadd (at_of tX10_lays 7 1 rfl) (by unfold in32; omega) ?_
              refine go_istore (at_of tX10_lays 7 2 rfl) rfl rfl ?_
              refine go_iload (at_of tX10_lays 7 3 rfl) rfl rfl ?_
              refine go_iload_n (at_of tX10_lays 7 4 rfl) rfl ?_
              refine go_icmp_le (tgt := 243) (at_of tX10_lays 7 5 rfl) (by decide) (fun h211 => ?_) (fun h211 => ?_)
              · exfalso; omega
              refine go_iload_n (at_of tX10_lays 7 6 rfl) rfl ?_
              refine go_aload_n (at_of tX10_lays 7 7 rfl) rfl ?_
              refine go_getf fl_X10_59 rfl G_109 (at_of tX10_lays 7 8 rfl) ?_
              rw [eh]
              refine go_irem (at_of tX10_lays 7 9 rfl) (by omega) (by omega) ?_
              refine go_iload (at_of tX10_lays 7 10 rfl) rfl rfl ?_
              refine go_iadd (at_of tX10_lays 7 11 rfl) (by unfold in32; omega) ?_
              refine go_aload_n (at_of tX10_lays 7 12 rfl) rfl ?_
              refine go_getf fl_X10_59 rfl G_109 (at_of tX10_lays 7 13 rfl) ?_
              rw [eh]
              refine go_icmp_le (tgt := 243) (at_of tX10_lays 7 14 rfl) (by decide) (fun h227 => ?_) (fun h227 => ?_)
              rotate_left
              · exfalso; omega
              refine go_iconst (at_of tX10_lays 8 5 rfl) (by unfold in32; omega) ?_
              refine go_istore (at_of tX10_lays 8 6 rfl) rfl rfl ?_
              refine go_iload (at_of tX10_lays 8 7 rfl) rfl rfl ?_
              refine go_if_eq (tgt := 270) (at_of tX10_lays 8 8 rfl) (by decide) (fun h248 => ?_) (fun h248 => ?_)
              rotate_left
              · exfalso; omega
              refine go_iload_n (at_of tX10_lays 9 4 rfl) rfl ?_
              refine go_istore_n (at_of tX10_lays 9 5 rfl) rfl rfl ?_
              exact fin _ _ _ _ _
          · rw [if_neg hE, Int.add_zero] at hp
            by_cases c1 : h < ps q % h + t
            · by_cases c2 : t ≤ h
              · rw [if_pos ⟨c1, c2⟩] at hp
                rw [hp] at fin
                refine go_iload (at_of tX10_lays 6 6 rfl) rfl rfl ?_
                refine go_iload (at_of tX10_lays 6 7 rfl) rfl rfl ?_
                refine go_iload_n (at_of tX10_lays 6 8 rfl) rfl ?_
                refine go_icmp_le (tgt := 204) (at_of tX10_lays 6 9 rfl) (by decide) (fun h188 => ?_) (fun h188 => ?_)
                · exfalso; omega
                refine go_iload (at_of tX10_lays 6 10 rfl) rfl rfl ?_
                refine go_aload_n (at_of tX10_lays 6 11 rfl) rfl ?_
                refine go_getf fl_X10_303 rfl G_109 (at_of tX10_lays 6 12 rfl) ?_
                refine go_icmp_ge (tgt := 204) (at_of tX10_lays 6 13 rfl) (by decide) (fun h197 => ?_) (fun h197 => ?_)
                rotate_left
                · exfalso; omega
                refine go_iconst (at_of tX10_lays 7 0 rfl) (by unfold in32; omega) ?_
                refine go_iadd (at_of tX10_lays 7 1 rfl) (by unfold in32; omega) ?_
                rw [Int.add_zero]
                refine go_istore (at_of tX10_lays 7 2 rfl) rfl rfl ?_
                refine go_iload (at_of tX10_lays 7 3 rfl) rfl rfl ?_
                refine go_iload_n (at_of tX10_lays 7 4 rfl) rfl ?_
                refine go_icmp_le (tgt := 243) (at_of tX10_lays 7 5 rfl) (by decide) (fun h211 => ?_) (fun h211 => ?_)
                · exfalso; omega
                refine go_iload_n (at_of tX10_lays 7 6 rfl) rfl ?_
                refine go_aload_n (at_of tX10_lays 7 7 rfl) rfl ?_
                refine go_getf fl_X10_59 rfl G_109 (at_of tX10_lays 7 8 rfl) ?_
                rw [eh]
                refine go_irem (at_of tX10_lays 7 9 rfl) (by omega) (by omega) ?_
                refine go_iload (at_of tX10_lays 7 10 rfl) rfl rfl ?_
                refine go_iadd (at_of tX10_lays 7 11 rfl) (by unfold in32; omega) ?_
                refine go_aload_n (at_of tX10_lays 7 12 rfl) rfl ?_
                refine go_getf fl_X10_59 rfl G_109 (at_of tX10_lays 7 13 rfl) ?_
                rw [eh]
                refine go_icmp_le (tgt := 243) (at_of tX10_lays 7 14 rfl) (by decide) (fun h227 => ?_) (fun h227 => ?_)
                · exfalso; omega
                refine go_iload (at_of tX10_lays 7 15 rfl) rfl rfl ?_
                refine go_aload_n (at_of tX10_lays 8 0 rfl) rfl ?_
                refine go_getf fl_X10_59 rfl G_109 (at_of tX10_lays 8 1 rfl) ?_
                rw [eh]
                refine go_icmp_gt (tgt := 243) (at_of tX10_lays 8 2 rfl) (by decide) (fun h236 => ?_) (fun h236 => ?_)
                · exfalso; omega
                refine go_iconst (at_of tX10_lays 8 3 rfl) (by unfold in32; omega) ?_
                refine go_goto (tgt := 244) (at_of tX10_lays 8 4 rfl) (by decide) ?_
                refine go_istore (at_of tX10_lays 8 6 rfl) rfl rfl ?_
                refine go_iload (at_of tX10_lays 8 7 rfl) rfl rfl ?_
                refine go_if_eq (tgt := 270) (at_of tX10_lays 8 8 rfl) (by decide) (fun h248 => ?_) (fun h248 => ?_)
                · exfalso; omega
                refine go_iload_n (at_of tX10_lays 8 9 rfl) rfl ?_
                refine go_aload_n (at_of tX10_lays 8 10 rfl) rfl ?_
                refine go_getf fl_X10_59 rfl G_109 (at_of tX10_lays 8 11 rfl) ?_
                rw [eh]
                refine go_idiv (at_of tX10_lays 8 12 rfl) (by omega) (by omega) ?_
                refine go_aload_n (at_of tX10_lays 8 13 rfl) rfl ?_
                refine go_getf fl_X10_59 rfl G_109 (at_of tX10_lays 8 14 rfl) ?_
                rw [eh]
                refine go_imul (at_of tX10_lays 8 15 rfl) (by unfold in32; omega) ?_
                refine go_aload_n (at_of tX10_lays 9 0 rfl) rfl ?_
                refine go_getf fl_X10_59 rfl G_109 (at_of tX10_lays 9 1 rfl) ?_
                rw [eh]
                refine go_iadd (at_of tX10_lays 9 2 rfl) (by unfold in32; omega) ?_
                refine go_goto (tgt := 271) (at_of tX10_lays 9 3 rfl) (by decide) ?_
                refine go_istore_n (at_of tX10_lays 9 5 rfl) rfl rfl ?_
                exact fin _ _ _ _ _
              · rw [if_neg (fun y => c2 y.2)] at hp
                rw [hp] at fin
                refine go_iload (at_of tX10_lays 6 6 rfl) rfl rfl ?_
                refine go_iload (at_of tX10_lays 6 7 rfl) rfl rfl ?_
                refine go_iload_n (at_of tX10_lays 6 8 rfl) rfl ?_
                refine go_icmp_le (tgt := 204) (at_of tX10_lays 6 9 rfl) (by decide) (fun h188 => ?_) (fun h188 => ?_)
                · exfalso; omega
                refine go_iload (at_of tX10_lays 6 10 rfl) rfl rfl ?_
                refine go_aload_n (at_of tX10_lays 6 11 rfl) rfl ?_
                refine go_getf fl_X10_303 rfl G_109 (at_of tX10_lays 6 12 rfl) ?_
                refine go_icmp_ge (tgt := 204) (at_of tX10_lays 6 13 rfl) (by decide) (fun h197 => ?_) (fun h197 => ?_)
                rotate_left
                · exfalso; omega
                refine go_iconst (at_of tX10_lays 7 0 rfl) (by unfold in32; omega) ?_
                refine go_iadd (at_of tX10_lays 7 1 rfl) (by unfold in32; omega) ?_
                rw [Int.add_zero]
                refine go_istore (at_of tX10_lays 7 2 rfl) rfl rfl ?_
                refine go_iload (at_of tX10_lays 7 3 rfl) rfl rfl ?_
                refine go_iload_n (at_of tX10_lays 7 4 rfl) rfl ?_
                refine go_icmp_le (tgt := 243) (at_of tX10_lays 7 5 rfl) (by decide) (fun h211 => ?_) (fun h211 => ?_)
                · exfalso; omega
                refine go_iload_n (at_of tX10_lays 7 6 rfl) rfl ?_
                refine go_aload_n (at_of tX10_lays 7 7 rfl) rfl ?_
                refine go_getf fl_X10_59 rfl G_109 (at_of tX10_lays 7 8 rfl) ?_
                rw [eh]
                refine go_irem (at_of tX10_lays 7 9 rfl) (by omega) (by omega) ?_
                refine go_iload (at_of tX10_lays 7 10 rfl) rfl rfl ?_
                refine go_iadd (at_of tX10_lays 7 11 rfl) (by unfold in32; omega) ?_
                refine go_aload_n (at_of tX10_lays 7 12 rfl) rfl ?_
                refine go_getf fl_X10_59 rfl G_109 (at_of tX10_lays 7 13 rfl) ?_
                rw [eh]
                refine go_icmp_le (tgt := 243) (at_of tX10_lays 7 14 rfl) (by decide) (fun h227 => ?_) (fun h227 => ?_)
                · exfalso; omega
                refine go_iload (at_of tX10_lays 7 15 rfl) rfl rfl ?_
                refine go_aload_n (at_of tX10_lays 8 0 rfl) rfl ?_
                refine go_getf fl_X10_59 rfl G_109 (at_of tX10_lays 8 1 rfl) ?_
                rw [eh]
                refine go_icmp_gt (tgt := 243) (at_of tX10_lays 8 2 rfl) (by decide) (fun h236 => ?_) (fun h236 => ?_)
                rotate_left
                · exfalso; omega
                refine go_iconst (at_of tX10_lays 8 5 rfl) (by unfold in32; omega) ?_
                refine go_istore (at_of tX10_lays 8 6 rfl) rfl rfl ?_
                refine go_iload (at_of tX10_lays 8 7 rfl) rfl rfl ?_
                refine go_if_eq (tgt := 270) (at_of tX10_lays 8 8 rfl) (by decide) (fun h248 => ?_) (fun h248 => ?_)
                rotate_left
                · exfalso; omega
                refine go_iload_n (at_of tX10_lays 9 4 rfl) rfl ?_
                refine go_istore_n (at_of tX10_lays 9 5 rfl) rfl rfl ?_
                exact fin _ _ _ _ _
            · rw [if_neg (fun y => c1 y.1)] at hp
              rw [hp] at fin
              refine go_iload (at_of tX10_lays 6 6 rfl) rfl rfl ?_
              refine go_iload (at_of tX10_lays 6 7 rfl) rfl rfl ?_
              refine go_iload_n (at_of tX10_lays 6 8 rfl) rfl ?_
              refine go_icmp_le (tgt := 204) (at_of tX10_lays 6 9 rfl) (by decide) (fun h188 => ?_) (fun h188 => ?_)
              · exfalso; omega
              refine go_iload (at_of tX10_lays 6 10 rfl) rfl rfl ?_
              refine go_aload_n (at_of tX10_lays 6 11 rfl) rfl ?_
              refine go_getf fl_X10_303 rfl G_109 (at_of tX10_lays 6 12 rfl) ?_
              refine go_icmp_ge (tgt := 204) (at_of tX10_lays 6 13 rfl) (by decide) (fun h197 => ?_) (fun h197 => ?_)
              rotate_left
              · exfalso; omega
              refine go_iconst (at_of tX10_lays 7 0 rfl) (by unfold in32; omega) ?_
              refine go_iadd (at_of tX10_lays 7 1 rfl) (by unfold in32; omega) ?_
              rw [Int.add_zero]
              refine go_istore (at_of tX10_lays 7 2 rfl) rfl rfl ?_
              refine go_iload (at_of tX10_lays 7 3 rfl) rfl rfl ?_
              refine go_iload_n (at_of tX10_lays 7 4 rfl) rfl ?_
              refine go_icmp_le (tgt := 243) (at_of tX10_lays 7 5 rfl) (by decide) (fun h211 => ?_) (fun h211 => ?_)
              · exfalso; omega
              refine go_iload_n (at_of tX10_lays 7 6 rfl) rfl ?_
              refine go_aload_n (at_of tX10_lays 7 7 rfl) rfl ?_
              refine go_getf fl_X10_59 rfl G_109 (at_of tX10_lays 7 8 rfl) ?_
              rw [eh]
              refine go_irem (at_of tX10_lays 7 9 rfl) (by omega) (by omega) ?_
              refine go_iload (at_of tX10_lays 7 10 rfl) rfl rfl ?_
              refine go_iadd (at_of tX10_lays 7 11 rfl) (by unfold in32; omega) ?_
              refine go_aload_n (at_of tX10_lays 7 12 rfl) rfl ?_
              refine go_getf fl_X10_59 rfl G_109 (at_of tX10_lays 7 13 rfl) ?_
              rw [eh]
              refine go_icmp_le (tgt := 243) (at_of tX10_lays 7 14 rfl) (by decide) (fun h227 => ?_) (fun h227 => ?_)
              rotate_left
              · exfalso; omega
              refine go_iconst (at_of tX10_lays 8 5 rfl) (by unfold in32; omega) ?_
              refine go_istore (at_of tX10_lays 8 6 rfl) rfl rfl ?_
              refine go_iload (at_of tX10_lays 8 7 rfl) rfl rfl ?_
              refine go_if_eq (tgt := 270) (at_of tX10_lays 8 8 rfl) (by decide) (fun h248 => ?_) (fun h248 => ?_)
              rotate_left
              · exfalso; omega
              refine go_iload_n (at_of tX10_lays 9 4 rfl) rfl ?_
              refine go_istore_n (at_of tX10_lays 9 5 rfl) rfl rfl ?_
              exact fin _ _ _ _ _
        · rw [if_neg hj] at hp
          rw [hp] at fin
          refine go_iload (at_of tX10_lays 6 6 rfl) rfl rfl ?_
          refine go_iload (at_of tX10_lays 6 7 rfl) rfl rfl ?_
          refine go_iload_n (at_of tX10_lays 6 8 rfl) rfl ?_
          refine go_icmp_le (tgt := 204) (at_of tX10_lays 6 9 rfl) (by decide) (fun h188 => ?_) (fun h188 => ?_)
          rotate_left
          · exfalso; omega
          refine go_iconst (at_of tX10_lays 7 0 rfl) (by unfold in32; omega) ?_
          refine go_iadd (at_of tX10_lays 7 1 rfl) (by unfold in32; omega) ?_
          rw [Int.add_zero]
          refine go_istore (at_of tX10_lays 7 2 rfl) rfl rfl ?_
          refine go_iload (at_of tX10_lays 7 3 rfl) rfl rfl ?_
          refine go_iload_n (at_of tX10_lays 7 4 rfl) rfl ?_
          refine go_icmp_le (tgt := 243) (at_of tX10_lays 7 5 rfl) (by decide) (fun h211 => ?_) (fun h211 => ?_)
          rotate_left
          · exfalso; omega
          refine go_iconst (at_of tX10_lays 8 5 rfl) (by unfold in32; omega) ?_
          refine go_istore (at_of tX10_lays 8 6 rfl) rfl rfl ?_
          refine go_iload (at_of tX10_lays 8 7 rfl) rfl rfl ?_
          refine go_if_eq (tgt := 270) (at_of tX10_lays 8 8 rfl) (by decide) (fun h248 => ?_) (fun h248 => ?_)
          rotate_left
          · exfalso; omega
          refine go_iload_n (at_of tX10_lays 9 4 rfl) rfl ?_
          refine go_istore_n (at_of tX10_lays 9 5 rfl) rfl rfl ?_
          exact fin _ _ _ _ _
      have key2 : ∀ (m : Nat) (b : Nat × Nat) (j t : Int) (v7 : MV), q ≤ j → j + m = E → t = ls j - ls q → (∀ (b : Nat × Nat) (v6 : Int) (v7 : MV), Go (fun _ => 0) 3 mX10_lays b 183 [vA 109, vI v1, vI (ps q), vI q, vI (ls (tgF kp m j) - ls q), vI (tgF kp m j), vI v6, v7] [] σa out) → Go (fun _ => 0) 3 mX10_lays b 137 [vA 109, vI v1, vI (ps q), vI q, vI t, vI j, vI 1, v7] [] σa out := by
        intro m
        induction m with
        | zero =>
          intro b j t v7 j0 j1 ht K
          rw [tgF, ← ht] at K
          refine go_iload (at_of tX10_lays 5 0 rfl) rfl rfl ?_
          refine go_if_eq (tgt := 183) (at_of tX10_lays 5 1 rfl) (by decide) (fun h139 => ?_) (fun h139 => ?_)
          · exfalso; omega
          refine go_iload (at_of tX10_lays 5 2 rfl) rfl rfl ?_
          refine go_aload_n (at_of tX10_lays 5 3 rfl) rfl ?_
          refine go_getf fl_X10_303 rfl G_109 (at_of tX10_lays 5 4 rfl) ?_
          refine go_icmp_ge (tgt := 183) (at_of tX10_lays 5 5 rfl) (by decide) (fun h148 => ?_) (fun h148 => ?_)
          rotate_left
          · exfalso; omega
          exact K _ _ _
        | succ m ih =>
          intro b j t v7 j0 j1 ht K
          have q1 := (i4 j (by omega) (by omega)).1
          have q2 := (i4 j (by omega) (by omega)).2
          have kj := kept j (by omega) (by omega)
          have k01 := kp01 j
          rw [← q1] at kj
          have lj := lsb j (by omega) (by omega)
          have lq := lsb q (by omega) (by omega)
          have lj1 := lsb (j + 1) (by omega) (by omega)
          rw [tgF] at K
          by_cases hk : kp j = 1
          · rw [if_pos hk] at K
            refine go_iload (at_of tX10_lays 5 0 rfl) rfl rfl ?_
            refine go_if_eq (tgt := 183) (at_of tX10_lays 5 1 rfl) (by decide) (fun h139 => ?_) (fun h139 => ?_)
            · exfalso; omega
            refine go_iload (at_of tX10_lays 5 2 rfl) rfl rfl ?_
            refine go_aload_n (at_of tX10_lays 5 3 rfl) rfl ?_
            refine go_getf fl_X10_303 rfl G_109 (at_of tX10_lays 5 4 rfl) ?_
            refine go_icmp_ge (tgt := 183) (at_of tX10_lays 5 5 rfl) (by decide) (fun h148 => ?_) (fun h148 => ?_)
            · exfalso; omega
            refine go_aload_n (at_of tX10_lays 5 6 rfl) rfl ?_
            refine go_aload_n (at_of tX10_lays 5 7 rfl) rfl ?_
            refine go_getr (q := 128) fl_X10_80 rfl G_109 (by first | exact (hS _ _ rfl).trans rfl | exact (hS1 _ _ rfl).trans rfl | exact (hS2 _ _ rfl).trans rfl | exact (hS3 _ _ rfl).trans rfl | exact (hS4 _ _ rfl).trans rfl) (at_of tX10_lays 5 8 rfl) ?_
            refine go_iload (at_of tX10_lays 5 9 rfl) rfl rfl ?_
            refine go_iald G_128 (by omega) (by omega) (at_of tX10_lays 5 10 rfl) ?_
            refine go_cV (kj) lk_X10_313 rfl G_109 (at_of tX10_lays 5 11 rfl) rfl (by decide) rfl (Nat.le_of_ble_eq_true rfl) rfl (by first | decide | exact ⟨Nat.zero_le _, Nat.zero_le _⟩) ?_
            refine go_if_eq (tgt := 183) (at_of tX10_lays 5 12 rfl) (by decide) (fun h162 => ?_) (fun h162 => ?_)
            · exfalso; omega
            refine go_iload (at_of tX10_lays 5 13 rfl) rfl rfl ?_
            refine go_aload_n (at_of tX10_lays 5 14 rfl) rfl ?_
            refine go_getr (q := 129) fl_X10_83 rfl G_109 (by first | exact (hS _ _ rfl).trans rfl | exact (hS1 _ _ rfl).trans rfl | exact (hS2 _ _ rfl).trans rfl | exact (hS3 _ _ rfl).trans rfl | exact (hS4 _ _ rfl).trans rfl) (at_of tX10_lays 5 15 rfl) ?_
            refine go_iload (at_of tX10_lays 6 0 rfl) rfl rfl ?_
            refine go_iald G_129 (by omega) (by omega) (at_of tX10_lays 6 1 rfl) ?_
            refine go_iadd (at_of tX10_lays 6 2 rfl) (by unfold in32; omega) ?_
            refine go_istore (at_of tX10_lays 6 3 rfl) rfl rfl ?_
            refine go_iinc (at_of tX10_lays 6 4 rfl) rfl (by unfold in32; omega) rfl rfl ?_
            refine go_goto (tgt := 137) (at_of tX10_lays 6 5 rfl) (by decide) ?_
            exact ih _ _ _ _ (by omega) (by omega) (by omega) K
          · rw [if_neg hk, ← ht] at K
            refine go_iload (at_of tX10_lays 5 0 rfl) rfl rfl ?_
            refine go_if_eq (tgt := 183) (at_of tX10_lays 5 1 rfl) (by decide) (fun h139 => ?_) (fun h139 => ?_)
            · exfalso; omega
            refine go_iload (at_of tX10_lays 5 2 rfl) rfl rfl ?_
            refine go_aload_n (at_of tX10_lays 5 3 rfl) rfl ?_
            refine go_getf fl_X10_303 rfl G_109 (at_of tX10_lays 5 4 rfl) ?_
            refine go_icmp_ge (tgt := 183) (at_of tX10_lays 5 5 rfl) (by decide) (fun h148 => ?_) (fun h148 => ?_)
            · exfalso; omega
            refine go_aload_n (at_of tX10_lays 5 6 rfl) rfl ?_
            refine go_aload_n (at_of tX10_lays 5 7 rfl) rfl ?_
            refine go_getr (q := 128) fl_X10_80 rfl G_109 (by first | exact (hS _ _ rfl).trans rfl | exact (hS1 _ _ rfl).trans rfl | exact (hS2 _ _ rfl).trans rfl | exact (hS3 _ _ rfl).trans rfl | exact (hS4 _ _ rfl).trans rfl) (at_of tX10_lays 5 8 rfl) ?_
            refine go_iload (at_of tX10_lays 5 9 rfl) rfl rfl ?_
            refine go_iald G_128 (by omega) (by omega) (at_of tX10_lays 5 10 rfl) ?_
            refine go_cV (kj) lk_X10_313 rfl G_109 (at_of tX10_lays 5 11 rfl) rfl (by decide) rfl (Nat.le_of_ble_eq_true rfl) rfl (by first | decide | exact ⟨Nat.zero_le _, Nat.zero_le _⟩) ?_
            refine go_if_eq (tgt := 183) (at_of tX10_lays 5 12 rfl) (by decide) (fun h162 => ?_) (fun h162 => ?_)
            rotate_left
            · exfalso; omega
            exact K _ _ _
      by_cases hq0 : q = 0
      · have hpq := pgd q
        have tg := tgF_E (kp := kp) (E := E) (q := q) (by omega)
        have lt := lsb (tgF kp (E - q).toNat q) (by omega) tg.2
        have lm := ls_le lss h0 tg.1 tg.2
        have hJ : pg q = (if q < tgF kp (E - q).toNat q then mvP h (ps q) (ls (tgF kp (E - q).toNat q) - ls q + (if tgF kp (E - q).toNat q < E then 1 else 0)) else ps q) := by
          rw [hpq, ← togd]
          have hst : (E - q).toNat = m + 1 := by omega
          rw [hst, tgF]
          by_cases hk : kp q = 1
          · have := (tgF_b (kp := kp) m (q + 1)).1
            rw [if_pos hk, if_pos ⟨hk, by omega⟩, if_pos (by omega)]
          · rw [if_neg hk, if_neg (fun y => hk y.1), if_neg (by omega)]
        refine go_iload_n (at_of tX10_lays 3 9 rfl) rfl ?_
        refine go_aload_n (at_of tX10_lays 3 10 rfl) rfl ?_
        refine go_getf fl_X10_303 rfl G_109 (at_of tX10_lays 3 11 rfl) ?_
        refine go_icmp_ge (tgt := 294) (at_of tX10_lays 3 12 rfl) (by decide) (fun h102 => ?_) (fun h102 => ?_)
        · exfalso; omega
        refine go_iconst (at_of tX10_lays 3 13 rfl) (by unfold in32; omega) ?_
        refine go_istore (at_of tX10_lays 3 14 rfl) rfl rfl ?_
        refine go_iload_n (at_of tX10_lays 3 15 rfl) rfl ?_
        refine go_istore (at_of tX10_lays 4 0 rfl) rfl rfl ?_
        refine go_iload_n (at_of tX10_lays 4 1 rfl) rfl ?_
        refine go_if_eq (tgt := 130) (at_of tX10_lays 4 2 rfl) (by decide) (fun h112 => ?_) (fun h112 => ?_)
        rotate_left
        · exfalso; omega
        refine go_iconst (at_of tX10_lays 4 12 rfl) (by unfold in32; omega) ?_
        refine go_goto (tgt := 135) (at_of tX10_lays 4 13 rfl) (by decide) ?_
        refine go_istore (at_of tX10_lays 4 15 rfl) rfl rfl ?_
        exact key2 (E - q).toNat _ _ _ _ (Int.le_refl _) (by omega) (by omega) (fun b v6 v7 => k183 _ _ _ _ _ tg.1 tg.2 (by omega) (by omega) hJ)
      · have hpq := pgd q
        have kq := kept (q - 1) (by omega) (by omega)
        have kq01 := kp01 (q - 1)
        have i4p := i4 (q - 1) (by omega) (by omega)
        rw [← i4p.1] at kq
        by_cases hk1 : kp (q - 1) = 1
        · rw [if_neg (fun y => y.2 ⟨by omega, hk1⟩)] at hpq
          have hJ : pg q = (if q < q then mvP h (ps q) (0 + (if q < E then 1 else 0)) else ps q) := by rw [if_neg (by omega)]; exact hpq
          refine go_iload_n (at_of tX10_lays 3 9 rfl) rfl ?_
          refine go_aload_n (at_of tX10_lays 3 10 rfl) rfl ?_
          refine go_getf fl_X10_303 rfl G_109 (at_of tX10_lays 3 11 rfl) ?_
          refine go_icmp_ge (tgt := 294) (at_of tX10_lays 3 12 rfl) (by decide) (fun h102 => ?_) (fun h102 => ?_)
          · exfalso; omega
          refine go_iconst (at_of tX10_lays 3 13 rfl) (by unfold in32; omega) ?_
          refine go_istore (at_of tX10_lays 3 14 rfl) rfl rfl ?_
          refine go_iload_n (at_of tX10_lays 3 15 rfl) rfl ?_
          refine go_istore (at_of tX10_lays 4 0 rfl) rfl rfl ?_
          refine go_iload_n (at_of tX10_lays 4 1 rfl) rfl ?_
          refine go_if_eq (tgt := 130) (at_of tX10_lays 4 2 rfl) (by decide) (fun h112 => ?_) (fun h112 => ?_)
          · exfalso; omega
          refine go_aload_n (at_of tX10_lays 4 3 rfl) rfl ?_
          refine go_aload_n (at_of tX10_lays 4 4 rfl) rfl ?_
          refine go_getr (q := 128) fl_X10_80 rfl G_109 (by first | exact (hS _ _ rfl).trans rfl | exact (hS1 _ _ rfl).trans rfl | exact (hS2 _ _ rfl).trans rfl | exact (hS3 _ _ rfl).trans rfl | exact (hS4 _ _ rfl).trans rfl) (at_of tX10_lays 4 5 rfl) ?_
          refine go_iload_n (at_of tX10_lays 4 6 rfl) rfl ?_
          refine go_iconst (at_of tX10_lays 4 7 rfl) (by unfold in32; omega) ?_
          refine go_isub (at_of tX10_lays 4 8 rfl) (by unfold in32; omega) ?_
          refine go_iald G_128 (by omega) (by omega) (at_of tX10_lays 4 9 rfl) ?_
          refine go_cV (kq) lk_X10_313 rfl G_109 (at_of tX10_lays 4 10 rfl) rfl (by decide) rfl (Nat.le_of_ble_eq_true rfl) rfl (by first | decide | exact ⟨Nat.zero_le _, Nat.zero_le _⟩) ?_
          refine go_if_ne (tgt := 134) (at_of tX10_lays 4 11 rfl) (by decide) (fun h127 => ?_) (fun h127 => ?_)
          rotate_left
          · exfalso; omega
          refine go_iconst (at_of tX10_lays 4 14 rfl) (by unfold in32; omega) ?_
          refine go_istore (at_of tX10_lays 4 15 rfl) rfl rfl ?_
          skip
          refine go_iload (at_of tX10_lays 5 0 rfl) rfl rfl ?_
          refine go_if_eq (tgt := 183) (at_of tX10_lays 5 1 rfl) (by decide) (fun h139 => ?_) (fun h139 => ?_)
          rotate_left
          · exfalso; omega
          exact k183 _ _ _ _ _ (Int.le_refl _) (by omega) (by omega) (by omega) hJ
        · have tg := tgF_E (kp := kp) (E := E) (q := q) (by omega)
          have lt := lsb (tgF kp (E - q).toNat q) (by omega) tg.2
          have lm := ls_le lss h0 tg.1 tg.2
          have hJ : pg q = (if q < tgF kp (E - q).toNat q then mvP h (ps q) (ls (tgF kp (E - q).toNat q) - ls q + (if tgF kp (E - q).toNat q < E then 1 else 0)) else ps q) := by
            rw [hpq, ← togd]
            have hst : (E - q).toNat = m + 1 := by omega
            rw [hst, tgF]
            by_cases hk : kp q = 1
            · have := (tgF_b (kp := kp) m (q + 1)).1
              rw [if_pos hk, if_pos ⟨hk, fun y => hk1 y.2⟩, if_pos (by omega)]
            · rw [if_neg hk, if_neg (fun y => hk y.1), if_neg (by omega)]
          refine go_iload_n (at_of tX10_lays 3 9 rfl) rfl ?_
          refine go_aload_n (at_of tX10_lays 3 10 rfl) rfl ?_
          refine go_getf fl_X10_303 rfl G_109 (at_of tX10_lays 3 11 rfl) ?_
          refine go_icmp_ge (tgt := 294) (at_of tX10_lays 3 12 rfl) (by decide) (fun h102 => ?_) (fun h102 => ?_)
          · exfalso; omega
          refine go_iconst (at_of tX10_lays 3 13 rfl) (by unfold in32; omega) ?_
          refine go_istore (at_of tX10_lays 3 14 rfl) rfl rfl ?_
          refine go_iload_n (at_of tX10_lays 3 15 rfl) rfl ?_
          refine go_istore (at_of tX10_lays 4 0 rfl) rfl rfl ?_
          refine go_iload_n (at_of tX10_lays 4 1 rfl) rfl ?_
          refine go_if_eq (tgt := 130) (at_of tX10_lays 4 2 rfl) (by decide) (fun h112 => ?_) (fun h112 => ?_)
          · exfalso; omega
          refine go_aload_n (at_of tX10_lays 4 3 rfl) rfl ?_
          refine go_aload_n (at_of tX10_lays 4 4 rfl) rfl ?_
          refine go_getr (q := 128) fl_X10_80 rfl G_109 (by first | exact (hS _ _ rfl).trans rfl | exact (hS1 _ _ rfl).trans rfl | exact (hS2 _ _ rfl).trans rfl | exact (hS3 _ _ rfl).trans rfl | exact (hS4 _ _ rfl).trans rfl) (at_of tX10_lays 4 5 rfl) ?_
          refine go_iload_n (at_of tX10_lays 4 6 rfl) rfl ?_
          refine go_iconst (at_of tX10_lays 4 7 rfl) (by unfold in32; omega) ?_
          refine go_isub (at_of tX10_lays 4 8 rfl) (by unfold in32; omega) ?_
          refine go_iald G_128 (by omega) (by omega) (at_of tX10_lays 4 9 rfl) ?_
          refine go_cV (kq) lk_X10_313 rfl G_109 (at_of tX10_lays 4 10 rfl) rfl (by decide) rfl (Nat.le_of_ble_eq_true rfl) rfl (by first | decide | exact ⟨Nat.zero_le _, Nat.zero_le _⟩) ?_
          refine go_if_ne (tgt := 134) (at_of tX10_lays 4 11 rfl) (by decide) (fun h127 => ?_) (fun h127 => ?_)
          · exfalso; omega
          refine go_iconst (at_of tX10_lays 4 12 rfl) (by unfold in32; omega) ?_
          refine go_goto (tgt := 135) (at_of tX10_lays 4 13 rfl) (by decide) ?_
          refine go_istore (at_of tX10_lays 4 15 rfl) rfl rfl ?_
          exact key2 (E - q).toNat _ _ _ _ (Int.le_refl _) (by omega) (by omega) (fun b v6 v7 => k183 _ _ _ _ _ tg.1 tg.2 (by omega) (by omega) hJ)
  obtain ⟨σb, z1, z2⟩ := key E.toNat 0 σ1 (Int.le_refl _) (by omega) ⟨i1, fun _ _ _ => rfl, fun u a b => by omega⟩
  have hS1 : Str σb.2.1 := z1.1.str hS
  have hp0 : ps 0 = 0 := by rw [hps]; rfl
  have pE := psb E (by omega) (Int.le_refl _)
  have pE1 : 1 ≤ ps E := by
    have y := pss (E - 1) (by omega)
    have y2 := lss (E - 1) (by omega) (by omega)
    have y3 := pgd (E - 1)
    have y4 := psb (E - 1) (by omega) (by omega)
    rw [show E - 1 + 1 = E by omega] at y y2
    have y5 : ps (E - 1) ≤ pg (E - 1) := by
      rw [y3]
      split
      · exact (mvP_le (by omega)).1
      · exact Int.le_refl _
    omega
  have eh : σb.1 109 20 = h := by rw [z1.1.2 _ _ (by omega)]; exact hhd.symm
  refine ⟨P1 σb 109 32 ((ps E - 1) / h), ?_, z1.1.trans ⟨rfl, fun a j y => ?_⟩, fun v a b c d => ?_, fun q a b => ?_, ?_⟩
  · skip
    refine con_of_go mfX10_lays.1 trivial (Nat.le_of_ble_eq_true rfl) rfl (by decide) ?_
    show Go _ _ _ _ 0 [vA _, vT 9 0, vT 9 0, vT 9 0, vT 9 0, vT 9 0, vT 9 0, vT 9 0] [] _ _
    refine go_aload_n (at_of tX10_lays 0 0 rfl) rfl ?_
    refine go_iconst (at_of tX10_lays 0 1 rfl) (by unfold in32; omega) ?_
    refine go_put1 fp_X10_303 rfl (Or.inl rfl) G_109 (Or.inl rfl) (at_of tX10_lays 0 2 rfl) ?_
    refine go_iconst (at_of tX10_lays 0 3 rfl) (by unfold in32; omega) ?_
    refine go_istore_n (at_of tX10_lays 0 4 rfl) rfl rfl ?_
    refine go_iconst (at_of tX10_lays 0 5 rfl) (by unfold in32; omega) ?_
    refine go_istore_n (at_of tX10_lays 0 6 rfl) rfl rfl ?_
    refine L2 _ _ _ _ _ _ _ (fun b v1 v2 v3 v4 v5 v6 v7 => ?_)
    refine go_iconst (at_of tX10_lays 3 5 rfl) (by unfold in32; omega) ?_
    refine go_istore_n (at_of tX10_lays 3 6 rfl) rfl rfl ?_
    refine go_iconst (at_of tX10_lays 3 7 rfl) (by unfold in32; omega) ?_
    refine go_istore_n (at_of tX10_lays 3 8 rfl) rfl rfl ?_
    rw [hp0] at z2
    refine z2 _ _ _ _ _ _ _ (fun b v3 v4 v5 v6 v7 => ?_)
    refine go_aload_n (at_of tX10_lays 10 4 rfl) rfl ?_
    refine go_iload_n (at_of tX10_lays 10 5 rfl) rfl ?_
    refine go_iconst (at_of tX10_lays 10 6 rfl) (by unfold in32; omega) ?_
    refine go_isub (at_of tX10_lays 10 7 rfl) (by unfold in32; omega) ?_
    refine go_aload_n (at_of tX10_lays 10 8 rfl) rfl ?_
    refine go_getf fl_X10_59 rfl G_109 (at_of tX10_lays 10 9 rfl) ?_
    rw [eh]
    refine go_idiv (at_of tX10_lays 10 10 rfl) (by omega) (by omega) ?_
    refine go_put1 fp_X10_294 rfl (Or.inl rfl) G_109 (Or.inl rfl) (at_of tX10_lays 10 11 rfl) ?_
    exact go_retv (at_of tX10_lays 10 12 rfl) rfl
  · by_cases ha : a = 109
    · exact P1_nj (by omega)
    · exact P1_ne ha
  · have y := stI_s (R := D.1) e1
    rw [if_pos hL.send] at y
    have z := i5 v a (by omega) c d
    rw [P1_ne (by omega), P1_ne (by omega), z1.2.1 _ _ (by omega), z1.2.1 _ _ (by omega)]
    exact z
  · rw [P1_ne (by omega), ← hpg]
    exact z1.2.2 q a (by omega)
  · rw [P1_eq, ← hps, ← hE]
end Mod18
