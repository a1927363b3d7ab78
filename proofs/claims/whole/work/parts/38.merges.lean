/-! All rounds; update; merge. -/
section Merges
variable {σ : St}
theorem edA_edA {A : PastD} {D D' : PapD} : edA (edA A D) D' = edA A D' := by
  unfold edA
  refine Prod.ext (funext fun j => ?_) rfl
  dsimp only
  split <;> rfl
theorem edA_at {A : PastD} {D : PapD} : (edA A D).1 A.2.1 = D := if_pos rfl
theorem edA_id {A : PastD} : edA A (A.1 A.2.1) = A := by
  unfold edA
  refine Prod.ext (funext fun j => ?_) rfl
  dsimp only
  split
  · rename_i h; rw [h]
  · rfl
theorem LayP.q {D : PapD} {Q : Int → Int} (h : LayP D) (hQ : QW Q) : LayP (D.1, D.2.1, Q) := ⟨h.1, hQ, h.2.2⟩
theorem lp_workOut {pi : Nat → Nat} {A : PastD} {R : RowD} {L : LogD} {rc : Int} (hrc : 0 ≤ rc ∧ rc < 5) {hd0 : Int → Int} {vf0 : (Int → Int) → Int → Int} : ∀ (m : Nat) (Q : Int → Int) (σ : St) (i r : Int), Str σ.2.1 → PastR σ pi (edA A (R, L, Q)) → WH σ → FkW σ R → RcW σ → LayP (R, L, Q) → hdS σ = hd0 → vlS σ R rc = vf0 → i + m = 10 → 0 ≤ i → 0 ≤ r → r ≤ i →
    ∃ σ', FrW σ σ' (pi A.2.1) ∧ PastR σ' pi (edA A (R, L, (wkF R hd0 vf0 m Q).2)) ∧ QW (wkF R hd0 vf0 m Q).2 ∧ 0 ≤ (wkF R hd0 vf0 m Q).1 ∧ (wkF R hd0 vf0 m Q).1 ≤ m ∧ ∀ (b : Nat × Nat) (out : MV × St), (∀ b' v3, Go (fun _ => 0) 6 mX9_workOut b' 30 [vA 0, vI rc, vI (r + (wkF R hd0 vf0 m Q).1), v3] [] σ' out) → Go (fun _ => 0) 6 mX9_workOut b 4 [vA 0, vI rc, vI r, vI i] [] σ out := by
  intro m
  induction m with
  | zero =>
    intro Q σ i r hS hA hW hFk hRc hP eh ev h1 h2 h3 h4
    refine ⟨σ, FrW.refl, hA, hP.2.1, by rw [wkF]; exact Int.le_refl _, by rw [wkF]; exact Int.le_refl _, fun b out K => ?_⟩
    rw [wkF] at K
    have K : ∀ b' v3, Go (fun _ => 0) 6 mX9_workOut b' 30 [vA 0, vI rc, vI r, v3] [] σ out := fun b' v3 => by have := K b' v3; rw [Int.add_zero] at this; exact this
    refine go_iload_n (at_of tX9_workOut 0 4 rfl) rfl ?_
    refine go_bipush (at_of tX9_workOut 0 5 rfl) (by decide) ?_
    refine go_icmp_ge (tgt := 30) (at_of tX9_workOut 0 6 rfl) (by decide) (fun h7 => ?_) (fun h7 => ?_)
    rotate_left
    · exfalso; omega
    exact K _ _
  | succ m ih =>
    intro Q σ i r hS hA hW hFk hRc hP eh ev h1 h2 h3 h4
    have hP' : LayP ((edA A (R, L, Q)).1 (edA A (R, L, Q)).2.1) := by
      show LayP ((edA A (R, L, Q)).1 A.2.1)
      rw [edA_at]; exact hP
    have c := con_workRound hS hA hW hP' (by show FkW σ ((edA A (R, L, Q)).1 A.2.1).1; rw [edA_at]; exact hFk) hrc
    have eA : (edA A (R, L, Q)).1 (edA A (R, L, Q)).2.1 = (R, L, Q) := edA_at
    rw [eA] at c
    obtain ⟨σ1, c1, c2, c3⟩ := c
    rw [eh, ev] at c1 c3
    have c2 : FrW σ σ1 (pi A.2.1) := c2
    have hA1 := c2.past (A := edA A (R, L, Q)) hA c3
    rw [eA] at hA1
    rw [edA_edA] at hA1
    have hk : pi A.2.1 < 8 := by have := (hA.1.1 A.2.1 (by have := hA.2.2.2.1; show A.2.1 < 7; have : A.2.1 + A.2.2 ≤ 6 := this; omega)).2; omega
    have w := c2.vl hk R rc
    have hS1 : Str σ1.2.1 := by rw [c2.1]; exact hS
    have hQ1 : QW (nwQ R hd0 (vf0 Q) Q) := by
      have := nwQ_W hW (Q := Q) (rc := rc) hP hFk hRc hrc
      rw [eh, ev] at this; exact this
    rw [wkF]
    by_cases hc : chB R hd0 (vf0 Q) Q = true
    · rw [if_pos hc]
      obtain ⟨σ2, d1, d2, d3, d4, d5, d6⟩ := ih (nwQ R hd0 (vf0 Q) Q) σ1 (i + 1) (r + 1) hS1 hA1 (c2.wh hk hW) (w.2.2.1 hFk) (w.2.2.2.1 hRc) (hP.q hQ1) (w.2.1.trans eh) (w.1.trans ev) (by omega) (by omega) (by omega) (by omega)
      refine ⟨σ2, c2.trans d1, d2, d3, by show 0 ≤ 1 + _; omega, by show 1 + _ ≤ ((m + 1 : Nat) : Int); omega, fun b out K => ?_⟩
      have K : ∀ b' v3, Go (fun _ => 0) 6 mX9_workOut b' 30 [vA 0, vI rc, vI (r + 1 + (wkF R hd0 vf0 m (nwQ R hd0 (vf0 Q) Q)).1), v3] [] σ2 out := fun b' v3 => by have := K b' v3; rw [show r + 1 + (wkF R hd0 vf0 m (nwQ R hd0 (vf0 Q) Q)).1 = r + (1 + (wkF R hd0 vf0 m (nwQ R hd0 (vf0 Q) Q)).1) by omega]; exact this
      refine go_iload_n (at_of tX9_workOut 0 4 rfl) rfl ?_
      refine go_bipush (at_of tX9_workOut 0 5 rfl) (by decide) ?_
      refine go_icmp_ge (tgt := 30) (at_of tX9_workOut 0 6 rfl) (by decide) (fun h7 => ?_) (fun h7 => ?_)
      · exfalso; omega
      refine go_aload_n (at_of tX9_workOut 0 7 rfl) rfl ?_
      refine go_iload_n (at_of tX9_workOut 0 8 rfl) rfl ?_
      refine go_cV (c1) lk_X9_463 rfl G_0 (at_of tX9_workOut 0 9 rfl) rfl (by decide) rfl (Nat.le_of_ble_eq_true rfl) rfl (by first | decide | exact ⟨Nat.zero_le _, Nat.zero_le _⟩) ?_
      refine go_if_ne (tgt := 21) (at_of tX9_workOut 0 10 rfl) (by decide) (fun h15 => ?_) (fun h15 => ?_)
      rotate_left
      · exfalso; exact bI_0.mp h15 hc
      refine go_iinc (at_of tX9_workOut 0 12 rfl) rfl (by unfold in32; omega) rfl rfl ?_
      refine go_iinc (at_of tX9_workOut 0 13 rfl) rfl (by unfold in32; omega) rfl rfl ?_
      refine go_goto (tgt := 4) (at_of tX9_workOut 0 14 rfl) (by decide) ?_
      exact d6 _ _ K
    · rw [if_neg hc]
      refine ⟨σ1, c2, hA1, hQ1, Int.le_refl _, by show (0 : Int) ≤ ((m + 1 : Nat) : Int); omega, fun b out K => ?_⟩
      have K : ∀ b' v3, Go (fun _ => 0) 6 mX9_workOut b' 30 [vA 0, vI rc, vI r, v3] [] σ1 out := fun b' v3 => by have := K b' v3; rw [Int.add_zero] at this; exact this
      refine go_iload_n (at_of tX9_workOut 0 4 rfl) rfl ?_
      refine go_bipush (at_of tX9_workOut 0 5 rfl) (by decide) ?_
      refine go_icmp_ge (tgt := 30) (at_of tX9_workOut 0 6 rfl) (by decide) (fun h7 => ?_) (fun h7 => ?_)
      · exfalso; omega
      refine go_aload_n (at_of tX9_workOut 0 7 rfl) rfl ?_
      refine go_iload_n (at_of tX9_workOut 0 8 rfl) rfl ?_
      refine go_cV (c1) lk_X9_463 rfl G_0 (at_of tX9_workOut 0 9 rfl) rfl (by decide) rfl (Nat.le_of_ble_eq_true rfl) rfl (by first | decide | exact ⟨Nat.zero_le _, Nat.zero_le _⟩) ?_
      refine go_if_ne (tgt := 21) (at_of tX9_workOut 0 10 rfl) (by decide) (fun h15 => ?_) (fun h15 => ?_)
      · exfalso; exact hc (bI_1.mp h15)
      refine go_goto (tgt := 30) (at_of tX9_workOut 0 11 rfl) (by decide) ?_
      exact K _ _
theorem con_workOut (hS : Str σ.2.1) {pi : Nat → Nat} {A : PastD} (hA : PastR σ pi A) (hW : WH σ) (hFk : FkW σ (A.1 A.2.1).1) (hRc : RcW σ) (hP : LayP (A.1 A.2.1)) {rc : Int} (hrc : 0 ≤ rc ∧ rc < 5) : ∃ σ', Con 6 mX9_workOut 0 0 [vA 0, vI rc] σ (vI (wkF (A.1 A.2.1).1 (hdS σ) (vlS σ (A.1 A.2.1).1 rc) 10 (A.1 A.2.1).2.2).1, σ') ∧ FrW σ σ' (pi A.2.1) ∧ PastR σ' pi (edA A ((A.1 A.2.1).1, (A.1 A.2.1).2.1, (wkF (A.1 A.2.1).1 (hdS σ) (vlS σ (A.1 A.2.1).1 rc) 10 (A.1 A.2.1).2.2).2)) ∧ QW (wkF (A.1 A.2.1).1 (hdS σ) (vlS σ (A.1 A.2.1).1 rc) 10 (A.1 A.2.1).2.2).2 ∧ 0 ≤ (wkF (A.1 A.2.1).1 (hdS σ) (vlS σ (A.1 A.2.1).1 rc) 10 (A.1 A.2.1).2.2).1 ∧ (wkF (A.1 A.2.1).1 (hdS σ) (vlS σ (A.1 A.2.1).1 rc) 10 (A.1 A.2.1).2.2).1 ≤ 10 := by
  obtain ⟨σ', d1, d2, d3, d4, d5, d6⟩ := lp_workOut (A := A) (R := (A.1 A.2.1).1) (L := (A.1 A.2.1).2.1) hrc 10 (A.1 A.2.1).2.2 σ 0 0 hS (by rw [show edA A ((A.1 A.2.1).1, (A.1 A.2.1).2.1, (A.1 A.2.1).2.2) = A from edA_id]; exact hA) hW hFk hRc hP rfl rfl (by omega) (by omega) (by omega) (by omega)
  refine ⟨σ', ?_, d1, d2, d3, d4, d5⟩
  refine con_of_go mfX9_workOut.1 trivial (Nat.le_of_ble_eq_true rfl) rfl (by decide) ?_
  show Go _ _ _ _ 0 [vA _, vI _, vT 9 0, vT 9 0] [] _ _
  refine go_iconst (at_of tX9_workOut 0 0 rfl) (by unfold in32; omega) ?_
  refine go_istore_n (at_of tX9_workOut 0 1 rfl) rfl rfl ?_
  refine go_iconst (at_of tX9_workOut 0 2 rfl) (by unfold in32; omega) ?_
  refine go_istore_n (at_of tX9_workOut 0 3 rfl) rfl rfl ?_
  refine d6 _ _ (fun b v3 => ?_)
  refine go_iload_n (at_of tX9_workOut 0 15 rfl) rfl ?_
  exact go_reti (at_of tX9_workOut 1 0 rfl) (le_i (by omega))
theorem ok_update (hS : Str σ.2.1) {pi : Nat → Nat} {A : PastD} (hA : PastR σ pi A) (hW : WH σ) (hFk : FkW σ (A.1 A.2.1).1) (hRc : RcW σ) (hP : LayP (A.1 A.2.1)) (hc : 0 ≤ σ.1 96 1 ∧ σ.1 96 1 < 5) : ∃ σ', Con 7 mX9_update 0 0 [vA 0] σ (vI (wkF (A.1 A.2.1).1 (hdS σ) (vlS σ (A.1 A.2.1).1 (σ.1 96 1)) 10 (A.1 A.2.1).2.2).1, σ') ∧ FrW σ σ' (pi A.2.1) ∧ PastR σ' pi (edA A ((A.1 A.2.1).1, (A.1 A.2.1).2.1, (wkF (A.1 A.2.1).1 (hdS σ) (vlS σ (A.1 A.2.1).1 (σ.1 96 1)) 10 (A.1 A.2.1).2.2).2)) ∧ QW (wkF (A.1 A.2.1).1 (hdS σ) (vlS σ (A.1 A.2.1).1 (σ.1 96 1)) 10 (A.1 A.2.1).2.2).2 := by
  obtain ⟨σ', d1, d2, d3, d4, -⟩ := con_workOut hS hA hW hFk hRc hP hc
  refine ⟨σ', ?_, d2, d3, d4⟩
  refine con_of_go mfX9_update.1 trivial (Nat.le_of_ble_eq_true rfl) rfl (by decide) ?_
  show Go _ _ _ _ 0 [vA _] [] _ _
  refine go_aload_n (at_of tX9_update 0 0 rfl) rfl ?_
  refine go_aload_n (at_of tX9_update 0 1 rfl) rfl ?_
  refine go_getr (q := 96) fl_X9_51 rfl G_0 ((hS _ _ rfl).trans rfl) (at_of tX9_update 0 2 rfl) ?_
  refine go_cV (con_chosenOne hS) lk_X9_330 rfl G_96 (at_of tX9_update 0 3 rfl) rfl (by decide) rfl (Nat.le_of_ble_eq_true rfl) rfl (by first | decide | exact ⟨Nat.zero_le _, Nat.zero_le _⟩) ?_
  refine go_cV (d1) lk_X9_333 rfl G_0 (at_of tX9_update 0 4 rfl) rfl (by decide) rfl (Nat.le_of_ble_eq_true rfl) rfl (by first | decide | exact ⟨Nat.zero_le _, Nat.zero_le _⟩) ?_
  first | exact go_reti (at_of tX9_update 0 5 rfl) rfl | exact go_reti (at_of tX9_update 0 5 rfl) (le_i (by omega)) | exact go_reti (at_of tX9_update 0 5 rfl) (le_i (by first | exact bI_t (by omega) | exact bI_f (by omega)))
/-- the sum of all letters' pages -/
def mgF (R : RowD) (Q : Int → Int) (hd : Int → Int) (vf : Int → (Int → Int) → Int → Int) (KV : Int → Int) (w h : Int) (rv : Int → Int) (skip : Int) (s rc : Int) : Int :=
  if rv rc ≠ skip then s + pgsF R (wkF R hd (vf rc) 10 Q).2 KV w h else s
theorem pgsF_le {R : RowD} {Q KV : Int → Int} {w h : Int} (hE : LastE R) (hB : sgS R Q (R.2.1 + 1) ≤ 500) (hw : 5 ≤ w) (hh : 2 ≤ h ∧ h ≤ 40) : 0 ≤ pgsF R Q KV w h ∧ pgsF R Q KV w h ≤ 10000 := by
  have hp := hE.par
  have p1 : 1 ≤ parN R := by have := @enN_nn R R.2.1; omega
  have p2 : parN R ≤ 201 := by have := enN_ub (R := R) (i := R.2.1 + 1) (by have := hE.1; omega); have := hE.2.1; unfold parN; omega
  have c := psR_le (R := R) (Q := Q) (KV := KV) hE.1 (w := w) (h := h) (by omega) (by omega) (parN R).toNat (by omega)
  rw [show (((parN R).toNat : Nat) : Int) = parN R by omega] at c
  have l := lsR_b (R := R) (Q := Q) hE.1 (w := w) (q := parN R) (by omega) (by omega) (by omega)
  have f := fsF_S (R := R) (Q := Q) hE.1 (q := parN R) (by omega) (by omega)
  have g : parN R * h ≤ 201 * 40 := by
    have g1 : parN R * h ≤ parN R * 40 := Int.mul_le_mul_of_nonneg_left hh.2 (by omega)
    omega
  have u0 := gpR_le hE hB (KV := KV) (w := w) (h := h) (by omega) hh hE.1 (Int.le_refl _)
  have u1 := gpR_lt hE hB (KV := KV) hw hh.1 hE.1 (Int.le_refl _)
  have d0 : 0 ≤ (psR R Q KV w h (parN R) - 1) / h := Int.ediv_nonneg (by omega) (by omega)
  have d1 : (psR R Q KV w h (parN R) - 1) / h ≤ psR R Q KV w h (parN R) - 1 := Int.ediv_le_self _ (by omega)
  unfold pgsF
  omega
theorem th1_merge (hS : Str σ.2.1) {pi : Nat → Nat} {A : PastD} (hA : PastR σ pi A) {c z : Int} (h : ¬ (0 ≤ c ∧ c < 3)) : Con 7 mX9_merge 1 6 [vA 0, vI c, vI z] σ (vT 21 0, σ) := by
  refine con_of_go mfX9_merge.1 (Nat.le_of_ble_eq_true rfl) (Nat.le_of_ble_eq_true rfl) rfl (by decide) ?_
  show Go _ _ _ _ 0 [vA _, vI _, vI _, vT 9 0, vT 9 0, vT 9 0] [] _ _
  refine go_iload_n (at_of tX9_merge 0 0 rfl) rfl ?_
  refine go_iconst (at_of tX9_merge 0 1 rfl) (by unfold in32; omega) ?_
  refine go_cS (con_isWithin) lk_X9_270 rfl (at_of tX9_merge 0 2 rfl) rfl (by decide) rfl (Nat.le_of_ble_eq_true rfl) rfl (by first | decide | exact ⟨Nat.zero_le _, Nat.zero_le _⟩) ?_
  refine go_if_ne (tgt := 19) (at_of tX9_merge 0 3 rfl) (by decide) (fun h5 => ?_) (fun h5 => ?_)
  · exfalso; exact h (bI_1.mp h5)
  exact go_throw (i := 1) (Or.inr ⟨78, 346, 82, _, (at_of tX9_merge 0 4 rfl), (at_of tX9_merge 0 5 rfl), (at_of tX9_merge 0 6 rfl), (at_of tX9_merge 0 7 rfl), (at_of tX9_merge 0 8 rfl), cl_X9_78, List.mem_of_getElem? (i := 31) rfl, inL 845 (by decide +kernel) (by decide +kernel)⟩) (by decide) rfl (Nat.le_of_ble_eq_true rfl) ⟨by decide, by decide⟩ rfl
theorem ok_merge (hS : Str σ.2.1) {pi : Nat → Nat} {A : PastD} (hA : PastR σ pi A) (hW : WH σ) (hFk : FkW σ (A.1 A.2.1).1) (hRc : RcW σ) (hP : LayP (A.1 A.2.1)) {c z : Int} (hc : 0 ≤ c ∧ c < 3) : ∃ σ', Con 7 mX9_merge 0 0 [vA 0, vI c, vI z] σ (vI (upX (mgF (A.1 A.2.1).1 (A.1 A.2.1).2.2 (hdS σ) (vlS σ (A.1 A.2.1).1) (KVs σ) (σ.1 98 0) (σ.1 98 1) (fun rc => σ.1 97 (rc * 3 + c).toNat) z) 5 0 0), σ') ∧ FrX σ σ' (pi A.2.1) ∧ PastR σ' pi A := by
  obtain ⟨hp, hd, hu, hle, hrep⟩ := id hA
  have hk7 := (hp.1 A.2.1 (by omega)).2
  have hk : pi A.2.1 < 8 := by omega
  have hD := hrep A.2.1 (by omega)
  have hR := hD.1
  have hL := hD.2.1.2.2.1
  have hn := hR.1
  obtain ⟨hw1, hw2, hw3⟩ := hR.2.2.2
  have hm := hD.2.1.1
  obtain ⟨l1, l2, l3⟩ := hD.2.1.2.2.2
  obtain ⟨g1, g2, g3, g4, g5, g6, g7, g8, g9, g10⟩ := gamk _ hk
  obtain ⟨p1, p2, p3, p4, p5, p6, p7, p8, p9⟩ := strk hS _ hk
  have key := loop_up (α := Int) (Rep := fun σ' s i => FrX σ σ' (pi A.2.1) ∧ PastR σ' pi A ∧ 0 ≤ i ∧ 0 ≤ s ∧ s ≤ 10000 * i) (f := (mgF (A.1 A.2.1).1 (A.1 A.2.1).2.2 (hdS σ) (vlS σ (A.1 A.2.1).1) (KVs σ) (σ.1 98 0) (σ.1 98 1) (fun rc => σ.1 97 (rc * 3 + c).toNat) z)) (hi := 5)
    (G := fun b s i σ out => Go (fun _ => 0) 7 mX9_merge b 36 [vA 0, vI c, vI z, vA (12 + 10 * pi A.2.1), vI s, vI i] [] σ out) (fun σ1 s i hh hlo => ?_) 5 σ 0 0 ⟨FrX.refl, hA, by omega, by omega, by omega⟩ (by omega)
  · obtain ⟨σ', ⟨q1, q2, -⟩, q3⟩ := key
    refine ⟨σ', ?_, q1, q2⟩
    refine con_of_go mfX9_merge.1 trivial (Nat.le_of_ble_eq_true rfl) rfl (by decide) ?_
    show Go _ _ _ _ 0 [vA _, vI _, vI _, vT 9 0, vT 9 0, vT 9 0] [] _ _
    refine go_iload_n (at_of tX9_merge 0 0 rfl) rfl ?_
    refine go_iconst (at_of tX9_merge 0 1 rfl) (by unfold in32; omega) ?_
    refine go_cS (con_isWithin) lk_X9_270 rfl (at_of tX9_merge 0 2 rfl) rfl (by decide) rfl (Nat.le_of_ble_eq_true rfl) rfl (by first | decide | exact ⟨Nat.zero_le _, Nat.zero_le _⟩) ?_
    refine go_if_ne (tgt := 19) (at_of tX9_merge 0 3 rfl) (by decide) (fun h5 => ?_) (fun h5 => ?_)
    rotate_left
    · exfalso; exact bI_0.mp h5 hc
    refine go_aload_n (at_of tX9_merge 0 9 rfl) rfl ?_
    refine go_getr (q := 1) fl_X9_16 rfl G_0 ((hS _ _ rfl).trans rfl) (at_of tX9_merge 0 10 rfl) ?_
    refine go_cV (con_now hS hA) lk_X9_114 rfl g1_ (at_of tX9_merge 0 11 rfl) rfl (by decide) rfl (Nat.le_of_ble_eq_true rfl) rfl (by first | decide | exact ⟨Nat.zero_le _, Nat.zero_le _⟩) ?_
    refine go_getr (q := (12 + 10 * pi A.2.1)) fl_X9_348 rfl g1 p3 (at_of tX9_merge 0 12 rfl) ?_
    refine go_astore_n (at_of tX9_merge 0 13 rfl) rfl rfl ?_
    refine go_iconst (at_of tX9_merge 0 14 rfl) (by unfold in32; omega) ?_
    refine go_istore (at_of tX9_merge 0 15 rfl) rfl rfl ?_
    refine go_iconst (at_of tX9_merge 1 0 rfl) (by unfold in32; omega) ?_
    refine go_istore (at_of tX9_merge 1 1 rfl) rfl rfl ?_
    refine q3 _ _ (fun b => ?_)
    refine go_iload (at_of tX9_merge 1 2 rfl) rfl rfl ?_
    refine go_iconst (at_of tX9_merge 1 3 rfl) (by unfold in32; omega) ?_
    refine go_icmp_ge (tgt := 102) (at_of tX9_merge 1 4 rfl) (by decide) (fun h39 => ?_) (fun h39 => ?_)
    rotate_left
    · exfalso; omega
    refine go_iload (at_of tX9_merge 3 5 rfl) rfl rfl ?_
    first | exact go_reti (at_of tX9_merge 3 6 rfl) rfl | exact go_reti (at_of tX9_merge 3 6 rfl) (le_i (by omega)) | exact go_reti (at_of tX9_merge 3 6 rfl) (le_i (by first | exact bI_t (by omega) | exact bI_f (by omega)))
  · obtain ⟨F1, hA1, hi, hs0, hs1⟩ := hh
    have hS1 : Str σ1.2.1 := by rw [F1.1]; exact hS
    obtain ⟨q1, q2, q3, q4, q5, q6, q7, q8, q9⟩ := strk hS1 _ hk
    have cv := con_valueR hS1 (r := i) (c := c) ⟨hi, hlo⟩ hc
    rw [F1.2 97 _ (by omega)] at cv
    have hD1 : RepP σ1 (pi A.2.1) (A.1 A.2.1) := hA1.2.2.2.2 A.2.1 (by omega)
    by_cases hsk : σ.1 97 (i * 3 + c).toNat = z
    · have e9 : (mgF (A.1 A.2.1).1 (A.1 A.2.1).2.2 (hdS σ) (vlS σ (A.1 A.2.1).1) (KVs σ) (σ.1 98 0) (σ.1 98 1) (fun rc => σ.1 97 (rc * 3 + c).toNat) z) s i = s := if_neg (fun q => q hsk)
      rw [e9]
      refine ⟨σ1, ⟨F1, hA1, by omega, hs0, by omega⟩, fun b out K => ?_⟩
      refine go_iload (at_of tX9_merge 1 2 rfl) rfl rfl ?_
      refine go_iconst (at_of tX9_merge 1 3 rfl) (by unfold in32; omega) ?_
      refine go_icmp_ge (tgt := 102) (at_of tX9_merge 1 4 rfl) (by decide) (fun h39 => ?_) (fun h39 => ?_)
      · exfalso; omega
      refine go_aload_n (at_of tX9_merge 1 5 rfl) rfl ?_
      refine go_getr (q := 96) fl_X9_51 rfl G_0 ((hS1 _ _ rfl).trans rfl) (at_of tX9_merge 1 6 rfl) ?_
      refine go_iload (at_of tX9_merge 1 7 rfl) rfl rfl ?_
      refine go_iload_n (at_of tX9_merge 1 8 rfl) rfl ?_
      refine go_cV (cv) lk_X9_351 rfl G_96 (at_of tX9_merge 1 9 rfl) rfl (by decide) rfl (Nat.le_of_ble_eq_true rfl) rfl (by first | decide | exact ⟨Nat.zero_le _, Nat.zero_le _⟩) ?_
      refine go_iload_n (at_of tX9_merge 1 10 rfl) rfl ?_
      refine go_icmp_eq (tgt := 96) (at_of tX9_merge 1 11 rfl) (by decide) (fun h53 => ?_) (fun h53 => ?_)
      rotate_left
      · exfalso; exact h53 hsk
      refine go_iinc (at_of tX9_merge 3 3 rfl) rfl (by unfold in32; omega) rfl rfl ?_
      refine go_goto (tgt := 36) (at_of tX9_merge 3 4 rfl) (by decide) ?_
      exact K _
    · have e9 : (mgF (A.1 A.2.1).1 (A.1 A.2.1).2.2 (hdS σ) (vlS σ (A.1 A.2.1).1) (KVs σ) (σ.1 98 0) (σ.1 98 1) (fun rc => σ.1 97 (rc * 3 + c).toNat) z) s i = s + pgsF (A.1 A.2.1).1 (wkF (A.1 A.2.1).1 (hdS σ) (vlS σ (A.1 A.2.1).1 i) 10 (A.1 A.2.1).2.2).2 (KVs σ) (σ.1 98 0) (σ.1 98 1) := if_pos hsk
      rw [e9]
      obtain ⟨σ2, hσ2⟩ : ∃ σ2, σ2 = C1 σ1 (12 + 10 * pi A.2.1) 0 108 0 20 := ⟨_, rfl⟩
      have FC : FrX σ1 σ2 (pi A.2.1) := by rw [hσ2]; exact ⟨rfl, fun x j q => C1_ne (by omega)⟩
      have k108 : ∀ c, 0 ≤ c → c < 20 → σ2.1 108 c.toNat = (A.1 A.2.1).2.2 c := fun c a b => by
        rw [hσ2, C1_z (by have : (20 : Int).toNat = 20 := rfl; omega)]; exact hD1.2.2 c a b
      have hA2 : PastR σ2 pi A := past_frm hA1 (lo := 108) (hi := 108) ⟨by rw [hσ2]; rfl, fun a h j => by rw [hσ2]; exact C1_ne (by omega)⟩ (by omega)
      have hS2 : Str σ2.2.1 := by rw [hσ2]; exact hS1
      have F2 := F1.trans FC
      have w2 := F2.vl hk (A.1 A.2.1).1 i
      obtain ⟨σ3, d1, d2, d3, d4, d5, d6⟩ := con_workOut hS2 hA2 (F2.wh hk hW) (w2.2.2.1 hFk) (w2.2.2.2.1 hRc) hP (rc := i) ⟨hi, hlo⟩
      rw [w2.1, w2.2.1] at d1 d3 d4 d5 d6
      obtain ⟨W, hWd⟩ : ∃ W, W = wkF (A.1 A.2.1).1 (hdS σ) (vlS σ (A.1 A.2.1).1 i) 10 (A.1 A.2.1).2.2 := ⟨_, rfl⟩
      rw [← hWd] at d1 d3 d4 d5 d6 ⊢
      have F3 := F2.trans d2.x
      have hS3 : Str σ3.2.1 := by rw [F3.1]; exact hS
      have eA : (edA A ((A.1 A.2.1).1, (A.1 A.2.1).2.1, W.2)).1 (edA A ((A.1 A.2.1).1, (A.1 A.2.1).2.1, W.2)).2.1 = ((A.1 A.2.1).1, (A.1 A.2.1).2.1, W.2) := edA_at
      have hP3 : LayP ((edA A ((A.1 A.2.1).1, (A.1 A.2.1).2.1, W.2)).1 (edA A ((A.1 A.2.1).1, (A.1 A.2.1).2.1, W.2)).2.1) := by rw [eA]; exact hP.q d4
      have cpg := ok_pages hS3 d3 (F3.wh hk hW) hP3
      rw [eA, (F3.vl hk (A.1 A.2.1).1 i).2.2.2.2, F3.2 98 0 (by omega), F3.2 98 1 (by omega)] at cpg
      dsimp only at cpg
      obtain ⟨σ4, e1, e2, e3⟩ := cpg
      have hpg := pgsF_le (Q := W.2) (KV := KVs σ) hP.1 (hP.q d4).b hW.1 ⟨hW.2.2.1, hW.2.2.2⟩
      have F4 : FrX σ σ4 (pi A.2.1) := F3.trans ⟨e2, fun x j q => e3 x j (by omega)⟩
      have hS4 : Str σ4.2.1 := by rw [F4.1]; exact hS
      have hA4 := Lay_past d3 e2 e3
      obtain ⟨t1, t2, t3, -⟩ := strk hS4 _ hk
      have k4 : ∀ c, 0 ≤ c → c < 20 → σ4.1 108 c.toNat = (A.1 A.2.1).2.2 c := fun c a b => by
        rw [e3 _ _ (by omega), d2.2 _ _ (by omega)]; exact k108 c a b
      have F5 : FrW σ4 (C1 σ4 108 0 (12 + 10 * pi A.2.1) 0 20) (pi A.2.1) := ⟨rfl, fun x j q => C1_ne (by omega)⟩
      have hA5 := FrW.past (A := (edA A ((A.1 A.2.1).1, (A.1 A.2.1).2.1, W.2))) (Q := (A.1 A.2.1).2.2) F5 hA4 (fun c a b => by
        show (C1 σ4 108 0 (12 + 10 * pi A.2.1) 0 20).1 (12 + 10 * pi A.2.1) c.toNat = _
        rw [C1_z (by have : (20 : Int).toNat = 20 := rfl; omega)]; exact k4 c a b)
      rw [eA, edA_edA] at hA5
      have hA5 : PastR (C1 σ4 108 0 (12 + 10 * pi A.2.1) 0 20) pi A := by
        have z := @edA_id A
        rw [← z]; exact hA5
      refine ⟨C1 σ4 108 0 (12 + 10 * pi A.2.1) 0 20, ⟨F4.trans F5.x, hA5, by omega, by omega, by omega⟩, fun b out K => ?_⟩
      refine go_iload (at_of tX9_merge 1 2 rfl) rfl rfl ?_
      refine go_iconst (at_of tX9_merge 1 3 rfl) (by unfold in32; omega) ?_
      refine go_icmp_ge (tgt := 102) (at_of tX9_merge 1 4 rfl) (by decide) (fun h39 => ?_) (fun h39 => ?_)
      · exfalso; omega
      refine go_aload_n (at_of tX9_merge 1 5 rfl) rfl ?_
      refine go_getr (q := 96) fl_X9_51 rfl G_0 ((hS1 _ _ rfl).trans rfl) (at_of tX9_merge 1 6 rfl) ?_
      refine go_iload (at_of tX9_merge 1 7 rfl) rfl rfl ?_
      refine go_iload_n (at_of tX9_merge 1 8 rfl) rfl ?_
      refine go_cV (cv) lk_X9_351 rfl G_96 (at_of tX9_merge 1 9 rfl) rfl (by decide) rfl (Nat.le_of_ble_eq_true rfl) rfl (by first | decide | exact ⟨Nat.zero_le _, Nat.zero_le _⟩) ?_
      refine go_iload_n (at_of tX9_merge 1 10 rfl) rfl ?_
      refine go_icmp_eq (tgt := 96) (at_of tX9_merge 1 11 rfl) (by decide) (fun h53 => ?_) (fun h53 => ?_)
      · exfalso; exact hsk h53
      refine go_aload_n (at_of tX9_merge 1 12 rfl) rfl ?_
      refine go_iconst (at_of tX9_merge 1 13 rfl) (by unfold in32; omega) ?_
      refine go_aload_n (at_of tX9_merge 1 14 rfl) rfl ?_
      refine go_getr (q := 108) fl_X9_62 rfl G_0 ((hS1 _ _ rfl).trans rfl) (at_of tX9_merge 1 15 rfl) ?_
      refine go_iconst (at_of tX9_merge 2 0 rfl) (by unfold in32; omega) ?_
      refine go_bipush (at_of tX9_merge 2 1 rfl) (by decide) ?_
      refine go_copy1 (inL 1431 (by decide +kernel) (by decide +kernel)) (at_of tX9_merge 2 2 rfl) g10 G_108 (by omega) (by omega) (by omega) (by omega) (by omega) (Nat.le_of_ble_eq_true rfl) ?_
      rw [← hσ2]
      refine go_aload_n (at_of tX9_merge 2 3 rfl) rfl ?_
      refine go_iload (at_of tX9_merge 2 4 rfl) rfl rfl ?_
      refine go_cV (d1) lk_X9_333 rfl G_0 (at_of tX9_merge 2 5 rfl) rfl (by decide) rfl (Nat.le_of_ble_eq_true rfl) rfl (by first | decide | exact ⟨Nat.zero_le _, Nat.zero_le _⟩) ?_
      refine go_pop (at_of tX9_merge 2 6 rfl) rfl ?_
      refine go_iload (at_of tX9_merge 2 7 rfl) rfl rfl ?_
      refine go_aload_n (at_of tX9_merge 2 8 rfl) rfl ?_
      refine go_cV (e1) lk_X9_360 rfl G_0 (at_of tX9_merge 2 9 rfl) rfl (by decide) rfl (Nat.le_of_ble_eq_true rfl) rfl (by first | decide | exact ⟨Nat.zero_le _, Nat.zero_le _⟩) ?_
      refine go_iadd (at_of tX9_merge 2 10 rfl) (by unfold in32; omega) ?_
      refine go_istore (at_of tX9_merge 2 11 rfl) rfl rfl ?_
      refine go_aload_n (at_of tX9_merge 2 12 rfl) rfl ?_
      refine go_getr (q := 108) fl_X9_62 rfl G_0 ((hS4 _ _ rfl).trans rfl) (at_of tX9_merge 2 13 rfl) ?_
      refine go_iconst (at_of tX9_merge 2 14 rfl) (by unfold in32; omega) ?_
      refine go_aload_n (at_of tX9_merge 2 15 rfl) rfl ?_
      refine go_iconst (at_of tX9_merge 3 0 rfl) (by unfold in32; omega) ?_
      refine go_bipush (at_of tX9_merge 3 1 rfl) (by decide) ?_
      refine go_copy1 (inL 1431 (by decide +kernel) (by decide +kernel)) (at_of tX9_merge 3 2 rfl) G_108 g10 (by omega) (by omega) (by omega) (by omega) (by omega) (Nat.le_of_ble_eq_true rfl) ?_
      refine go_iinc (at_of tX9_merge 3 3 rfl) rfl (by unfold in32; omega) rfl rfl ?_
      refine go_goto (tgt := 36) (at_of tX9_merge 3 4 rfl) (by decide) ?_
      exact K _
end Merges
