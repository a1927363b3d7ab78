/-! Both sides are asked: one answer. -/
section Asks2
variable {σ : St} {ns nf : Int} {pi : Nat → Nat} {A : PastD}
def kpC (a j : Nat) : Prop := a = 0 ∨ (83 ≤ a ∧ a ≤ 89) ∨ (91 ≤ a ∧ a ≤ 97) ∨ (a = 98 ∧ j ≤ 1) ∨ 109 ≤ a
def kpM (a j : Nat) : Prop := a < 109 ∨ (a = 109 ∧ 6 ≤ j ∧ j ≤ 21) ∨ (113 ≤ a ∧ a ≤ 122) ∨ 133 ≤ a
theorem act_g {d1 d2 : Nat} {m1 m2 : MI} {as1 as2 : List MV} {v : Int} {A' : PastD} {σ1 : St} (h : SimP σ pi A ns nf) (h1 : Con d1 m1 1 6 as1 σ (vI 0, M1 σ1 133 0 v)) (e1 : σ1.2 = σ.2) (f1 : ∀ a j : Nat, kpC a j → σ1.1 a j = σ.1 a j) (r1 : PastR σ1 pi A') (hI : AllI nf ns A')
    (h2 : ∀ τ : St, τ.2 = σ.2 → (∀ a j : Nat, kpC a j → a < 133 → τ.1 a j = σ.1 a j) → ∃ τ' : St, Con d2 m2 0 0 as2 τ (vI v, τ') ∧ τ'.2 = τ.2 ∧ τ'.1 109 0 = 0 ∧ PastM τ' A' ∧ ∀ a j : Nat, kpM a j → τ'.1 a j = τ.1 a j) : Act d1 d2 m1 m2 as1 as2 σ := by
  obtain ⟨a, b, c, d, e, f⟩ := h
  obtain ⟨τ', k1, k2, k3, k4, k5⟩ := h2 (M1 σ1 133 0 v) e1 (fun a j z q => by rw [M1_ne (by omega)]; exact f1 a j z)
  refine ⟨0, v, M1 σ1 133 0 v, τ', h1, k1, k3, fun _ => by rw [k5 _ _ (by unfold kpM; omega)]; exact M1_eq rfl, pi, A', ns, nf, by rw [k2]; show Str σ1.2.1; rw [e1]; exact a, by rw [k2]; show σ1.2.2 = _; rw [e1]; exact b, past_frm r1 (lo := 109) (hi := 133) ⟨k2, fun a q j => ?_⟩ (by omega), k4, hI, f.fr (fun a j z => ?_)⟩
  · rw [k5 a j (by unfold kpM; omega), M1_ne (by omega)]
  · replace z := smB_b z
    rw [k5 a j (by unfold kpM; omega), M1_ne (by omega), f1 a j (by unfold kpC; omega)]
theorem ask_g {d1 d2 : Nat} {m1 m2 : MI} {as1 as2 : List MV} {v : Int} {A' : PastD} {σ1 : St} (h : SimP σ pi A ns nf) (h1 : Con d1 m1 0 0 as1 σ (vI v, σ1)) (e1 : σ1.2 = σ.2) (f1 : ∀ a j : Nat, kpC a j → σ1.1 a j = σ.1 a j) (r1 : PastR σ1 pi A') (hI : AllI nf ns A')
    (h2 : ∃ τ' : St, Con d2 m2 0 0 as2 σ1 (vI v, τ') ∧ τ'.2 = σ1.2 ∧ PastM τ' A' ∧ ∀ a j : Nat, kpM a j → τ'.1 a j = σ1.1 a j) : Ask d1 d2 m1 m2 as1 as2 σ := by
  obtain ⟨a, b, c, d, e, f⟩ := h
  obtain ⟨τ', k1, k2, k4, k5⟩ := h2
  refine ⟨v, σ1, τ', h1, k1, pi, A', ns, nf, by rw [k2, e1]; exact a, by rw [k2, e1]; exact b, past_frm r1 (lo := 109) (hi := 132) ⟨k2, fun a q j => k5 a j (by unfold kpM; omega)⟩ (by omega), k4, hI, f.fr (fun a j z => ?_)⟩
  replace z := smB_b z
  rw [k5 a j (by unfold kpM; omega), f1 a j (by unfold kpC; omega)]
theorem RepN.to {τ : St} {D : PapD} (h : RepN (cN σ) D) (hF : ∀ j : Nat, τ.1 110 j = σ.1 110 j) : RepN (cN τ) D := by
  have e : cN τ = cN σ := funext fun x => hF _
  rw [e]; exact h
theorem told_eq {nf ns : Int} {L : LogD} {R : RowD} {i : Int} (h : UnI nf ns L R i) : (if 1000 ≤ mk0 R i then (64 : Int) else mk0 R i % 65536) = R.1 0 i % 65536 := by
  have u := h.1
  unfold mk0
  by_cases q : R.1 1 i = -1
  · rw [if_pos q, if_neg (by omega)]
  · rw [if_neg q, if_pos (by omega)]
    omega
theorem unit_in {R : RowD} (hE : LastE R) {p : Int} (h : 0 ≤ p ∧ p < plOf R.1 R.2.1 R.2.1) : ixOf R.1 R.2.1 p ≠ -1 ∧ 0 ≤ ixOf R.1 R.2.1 p ∧ ixOf R.1 R.2.1 p < R.2.1 := by
  obtain ⟨u1, u2, u3, u4⟩ := place_ix hE h.1 (by omega)
  refine ⟨(ixOf_iff hE).mpr ⟨h.1, by omega⟩, u1, ?_⟩
  have : ixOf R.1 R.2.1 p ≠ R.2.1 := fun q => by
    rw [q] at u4
    rw [plOf_N (Int.le_refl _)] at h
    omega
  omega
theorem unit_out {R : RowD} (hE : LastE R) {p : Int} (h : ¬ (0 ≤ p ∧ p < plOf R.1 R.2.1 R.2.1)) : ixOf R.1 R.2.1 p = -1 ∨ ixOf R.1 R.2.1 p = R.2.1 := by
  by_cases q : ixOf R.1 R.2.1 p = -1
  · exact Or.inl q
  · have k := (ixOf_iff hE).mp q
    refine Or.inr ?_
    have e : p = plN R R.2.1 := by rw [← plOf_N (Int.le_refl _)]; omega
    rw [e]
    exact ix_place hE.1 (Int.le_refl _) hE.2.2.1
theorem old_neg {R : RowD} {i : Int} (h : i < 0) : ixOld R.1 R.2.1 i = -1 := scan_neg _ _ _ _ h
theorem st_unitAt (h : SimP σ pi A ns nf) {p : Int} : Act 6 3 mL_unitAt mX10_unitAt [vA 0, vI p, vA 133] [vA 109, vI p] σ := by
  obtain ⟨hS, hc, hA, hM, hI, hs⟩ := id h
  have hP := hI.now
  have h20 : nf ≤ 20 := hs.2.2.2.2.1.1.2.2.2
  have hWM := hP.wfM h20
  have hWB := hP.wfB h20
  have hN : RepN (cN σ) (A.1 A.2.1) := hM.2.2.2.1
  have hE := hP.1.1
  obtain ⟨e1, e2, e3, e4⟩ := id hE
  have hRw := hP.1.2.1
  by_cases q : 0 ≤ p ∧ p < plOf (A.1 A.2.1).1.1 (A.1 A.2.1).1.2.1 (A.1 A.2.1).1.2.1
  · obtain ⟨u1, u2, u3⟩ := unit_in hE q
    refine act_q h (wo_unitAt (ok_unitAt hS hA u1 u3)) (fun τ t2 t1 => ?_)
    have hS2 : Str τ.2.1 := by rw [t2]; exact hS
    have hN2 : RepN (cN τ) (A.1 A.2.1) := hN.to (fun j => t1 _ _ (by omega))
    have k := m_unitAt hS2 hN2 hWM q
    rw [told_eq (hP.1.2.2.2.1 _ u2 (by omega))] at k
    exact k
  · exact act_no h (wt_unitAt_0 (th0_unitAt hS hA (unit_out hE q))) (m_unitAt_no hS hN hWM q) (by decide)
theorem st_oldAt (h : SimP σ pi A ns nf) {p : Int} : Act 4 2 mL_oldAt mX10_oldAt [vA 0, vI p, vA 133] [vA 109, vI p] σ := by
  obtain ⟨hS, hc, hA, hM, hI, hs⟩ := id h
  have hP := hI.now
  have h20 : nf ≤ 20 := hs.2.2.2.2.1.1.2.2.2
  have hWM := hP.wfM h20
  have hWB := hP.wfB h20
  have hN : RepN (cN σ) (A.1 A.2.1) := hM.2.2.2.1
  have hE := hP.1.1
  obtain ⟨e1, e2, e3, e4⟩ := id hE
  have hRw := hP.1.2.1
  by_cases q : (ixOld (A.1 A.2.1).1.1 (A.1 A.2.1).1.2.1 p) ≠ -1
  · have u := (@ixOld_le (A.1 A.2.1).1.1 (A.1 A.2.1).1.2.1 p hRw.1).resolve_left q
    have p0 : 0 ≤ p := by
      by_cases z : p < 0
      · exact absurd (old_neg z) q
      · omega
    refine act_q h (wo_oldAt (ok_oldAt hS hA q)) (fun τ t2 t1 => ?_)
    have hS2 : Str τ.2.1 := by rw [t2]; exact hS
    have hN2 : RepN (cN τ) (A.1 A.2.1) := hN.to (fun j => t1 _ _ (by omega))
    have k := m_oldAt hS2 hN2 hWM p0 q
    rw [told_eq (hP.1.2.2.2.1 _ u.1 (by omega))] at k
    exact k
  · have q2 : (ixOld (A.1 A.2.1).1.1 (A.1 A.2.1).1.2.1 p) = -1 := Decidable.not_not.mp q
    exact act_no h (wt_oldAt_0 (th0_oldAt hS hA q2)) (m_oldAt_no hS hN hWM (Or.inr q2)) (by decide)
theorem st_paragraphOf (h : SimP σ pi A ns nf) {p : Int} : Act 5 4 mL_paragraphOf mX10_paragraphOf [vA 0, vI p, vA 133] [vA 109, vI p] σ := by
  obtain ⟨hS, hc, hA, hM, hI, hs⟩ := id h
  have hP := hI.now
  have h20 : nf ≤ 20 := hs.2.2.2.2.1.1.2.2.2
  have hWM := hP.wfM h20
  have hWB := hP.wfB h20
  have hN : RepN (cN σ) (A.1 A.2.1) := hM.2.2.2.1
  have hE := hP.1.1
  obtain ⟨e1, e2, e3, e4⟩ := id hE
  have hRw := hP.1.2.1
  by_cases q : 0 ≤ p ∧ p ≤ plOf (A.1 A.2.1).1.1 (A.1 A.2.1).1.2.1 (A.1 A.2.1).1.2.1
  · refine act_q h (wo_paragraphOf (ok_paragraphOf hS hA ((ixOf_iff hE).mpr q))) (fun τ t2 t1 => ?_)
    have hS2 : Str τ.2.1 := by rw [t2]; exact hS
    have hN2 : RepN (cN τ) (A.1 A.2.1) := hN.to (fun j => t1 _ _ (by omega))
    exact m_paragraphOf hS2 hN2 hWM q
  · have q2 : (ixOf (A.1 A.2.1).1.1 (A.1 A.2.1).1.2.1 p) = -1 := Decidable.not_not.mp (fun z => q ((ixOf_iff hE).mp z))
    exact act_no h (wt_paragraphOf_0 (th0_paragraphOf hS hA q2)) (m_paragraphOf_no hS hN hWM q) (by decide)
theorem st_startOf (h : SimP σ pi A ns nf) {p : Int} : Act 5 4 mL_startOf mX10_startOf [vA 0, vI p, vA 133] [vA 109, vI p] σ := by
  obtain ⟨hS, hc, hA, hM, hI, hs⟩ := id h
  have hP := hI.now
  have h20 : nf ≤ 20 := hs.2.2.2.2.1.1.2.2.2
  have hWM := hP.wfM h20
  have hWB := hP.wfB h20
  have hN : RepN (cN σ) (A.1 A.2.1) := hM.2.2.2.1
  have hE := hP.1.1
  obtain ⟨e1, e2, e3, e4⟩ := id hE
  have hRw := hP.1.2.1
  by_cases q : 0 ≤ p ∧ p ≤ endsA (A.1 A.2.1).1.1 (A.1 A.2.1).1.2.1 (A.1 A.2.1).1.2.1
  · have u := @endsA_le (A.1 A.2.1).1.1 (A.1 A.2.1).1.2.1 (A.1 A.2.1).1.2.1
    refine act_q h (wo_startOf (ok_startOf hS hA ((ixEnd_iff hE).mpr q) (by omega))) (fun τ t2 t1 => ?_)
    have hS2 : Str τ.2.1 := by rw [t2]; exact hS
    have hN2 : RepN (cN τ) (A.1 A.2.1) := hN.to (fun j => t1 _ _ (by omega))
    exact m_startOf hS2 hN2 hWM q
  · have q2 : (ixEnd (A.1 A.2.1).1.1 (A.1 A.2.1).1.2.1 p) = -1 := Decidable.not_not.mp (fun z => q ((ixEnd_iff hE).mp z))
    exact act_no h (wt_startOf_0 (th0_startOf hS hA q2)) (m_startOf_no hS hN hWM q) (by decide)
theorem st_kindOf (h : SimP σ pi A ns nf) {c : Int} : Act 4 2 mL_kindOf mX10_kindOf [vA 0, vI c, vA 133] [vA 109, vI c] σ := by
  obtain ⟨hS, hc, hA, hM, hI, hs⟩ := id h
  have hP := hI.now
  have h20 : nf ≤ 20 := hs.2.2.2.2.1.1.2.2.2
  have hWM := hP.wfM h20
  have hWB := hP.wfB h20
  have hN : RepN (cN σ) (A.1 A.2.1) := hM.2.2.2.1
  have hE := hP.1.1
  obtain ⟨e1, e2, e3, e4⟩ := id hE
  have hRw := hP.1.2.1
  by_cases q : 0 ≤ c ∧ c < (A.1 A.2.1).2.1.1
  · have u := hP.2.1.2 c q.1 q.2
    refine act_q h (wo_kindOf (ok_kindOf hS hA q)) (fun τ t2 t1 => ?_)
    have hS2 : Str τ.2.1 := by rw [t2]; exact hS
    have hN2 : RepN (cN τ) (A.1 A.2.1) := hN.to (fun j => t1 _ _ (by omega))
    have k := m_kindOf hS2 hN2 hWM q
    rw [show (A.1 A.2.1).2.1.2.1 c % 65536 = (A.1 A.2.1).2.1.2.1 c by omega] at k
    exact k
  · exact act_no h (wt_kindOf_0 (th0_kindOf hS hA q)) (m_kindOf_no hS hN hWM q) (by decide)
theorem st_authorOf (h : SimP σ pi A ns nf) {c : Int} : Act 4 2 mL_authorOf mX10_authorOf [vA 0, vI c, vA 133] [vA 109, vI c] σ := by
  obtain ⟨hS, hc, hA, hM, hI, hs⟩ := id h
  have hP := hI.now
  have h20 : nf ≤ 20 := hs.2.2.2.2.1.1.2.2.2
  have hWM := hP.wfM h20
  have hWB := hP.wfB h20
  have hN : RepN (cN σ) (A.1 A.2.1) := hM.2.2.2.1
  have hE := hP.1.1
  obtain ⟨e1, e2, e3, e4⟩ := id hE
  have hRw := hP.1.2.1
  by_cases q : 0 ≤ c ∧ c < (A.1 A.2.1).2.1.1
  · refine act_q h (wo_authorOf (ok_authorOf hS hA q)) (fun τ t2 t1 => ?_)
    have hS2 : Str τ.2.1 := by rw [t2]; exact hS
    have hN2 : RepN (cN τ) (A.1 A.2.1) := hN.to (fun j => t1 _ _ (by omega))
    exact m_authorOf hS2 hN2 hWM q
  · exact act_no h (wt_authorOf_0 (th0_authorOf hS hA q)) (m_authorOf_no hS hN hWM q) (by decide)
theorem st_stateOf (h : SimP σ pi A ns nf) {c : Int} : Act 4 2 mL_stateOf mX10_stateOf [vA 0, vI c, vA 133] [vA 109, vI c] σ := by
  obtain ⟨hS, hc, hA, hM, hI, hs⟩ := id h
  have hP := hI.now
  have h20 : nf ≤ 20 := hs.2.2.2.2.1.1.2.2.2
  have hWM := hP.wfM h20
  have hWB := hP.wfB h20
  have hN : RepN (cN σ) (A.1 A.2.1) := hM.2.2.2.1
  have hE := hP.1.1
  obtain ⟨e1, e2, e3, e4⟩ := id hE
  have hRw := hP.1.2.1
  by_cases q : 0 ≤ c ∧ c < (A.1 A.2.1).2.1.1
  · have u := hP.2.1.2 c q.1 q.2
    refine act_q h (wo_stateOf (ok_stateOf hS hA q)) (fun τ t2 t1 => ?_)
    have hS2 : Str τ.2.1 := by rw [t2]; exact hS
    have hN2 : RepN (cN τ) (A.1 A.2.1) := hN.to (fun j => t1 _ _ (by omega))
    have k := m_stateOf hS2 hN2 hWM q
    rw [show (A.1 A.2.1).2.1.2.2.2 c % 65536 = (A.1 A.2.1).2.1.2.2.2 c by omega] at k
    exact k
  · exact act_no h (wt_stateOf_0 (th0_stateOf hS hA q)) (m_stateOf_no hS hN hWM q) (by decide)
theorem st_unitsOf (h : SimP σ pi A ns nf) {c : Int} : Act 4 2 mL_unitsOf mX10_unitsOf [vA 0, vI c, vA 133] [vA 109, vI c] σ := by
  obtain ⟨hS, hc, hA, hM, hI, hs⟩ := id h
  have hP := hI.now
  have h20 : nf ≤ 20 := hs.2.2.2.2.1.1.2.2.2
  have hWM := hP.wfM h20
  have hWB := hP.wfB h20
  have hN : RepN (cN σ) (A.1 A.2.1) := hM.2.2.2.1
  have hE := hP.1.1
  obtain ⟨e1, e2, e3, e4⟩ := id hE
  have hRw := hP.1.2.1
  by_cases q : 0 ≤ c ∧ c < (A.1 A.2.1).2.1.1
  · refine act_q h (wo_unitsOf (ok_unitsOf hS hA q)) (fun τ t2 t1 => ?_)
    have hS2 : Str τ.2.1 := by rw [t2]; exact hS
    have hN2 : RepN (cN τ) (A.1 A.2.1) := hN.to (fun j => t1 _ _ (by omega))
    exact m_unitsOf hS2 hN2 hWM q
  · exact act_no h (wt_unitsOf_0 (th0_unitsOf hS hA q)) (m_unitsOf_no hS hN hWM q) (by decide)
theorem st_styleOf (h : SimP σ pi A ns nf) {p : Int} : Act 5 4 mL_styleOf mX10_styleOf [vA 0, vI p, vA 133] [vA 109, vI p] σ := by
  obtain ⟨hS, hc, hA, hM, hI, hs⟩ := id h
  have hP := hI.now
  have h20 : nf ≤ 20 := hs.2.2.2.2.1.1.2.2.2
  have hWM := hP.wfM h20
  have hWB := hP.wfB h20
  have hN : RepN (cN σ) (A.1 A.2.1) := hM.2.2.2.1
  have hE := hP.1.1
  obtain ⟨e1, e2, e3, e4⟩ := id hE
  have hRw := hP.1.2.1
  by_cases q : 0 ≤ p ∧ p ≤ endsA (A.1 A.2.1).1.1 (A.1 A.2.1).1.2.1 (A.1 A.2.1).1.2.1
  · refine act_q h (wo_styleOf (ok_styleOf hS hA ((ixEnd_iff hE).mpr q))) (fun τ t2 t1 => ?_)
    have hS2 : Str τ.2.1 := by rw [t2]; exact hS
    have hN2 : RepN (cN τ) (A.1 A.2.1) := hN.to (fun j => t1 _ _ (by omega))
    exact m_styleOf hS2 hN2 hWM q
  · have q2 : (ixEnd (A.1 A.2.1).1.1 (A.1 A.2.1).1.2.1 p) = -1 := Decidable.not_not.mp (fun z => q ((ixEnd_iff hE).mp z))
    exact act_no h (wt_styleOf_0 (th0_styleOf hS hA q2)) (m_styleOf_no hS hN hWM q) (by decide)
theorem st_changeAt (h : SimP σ pi A ns nf) {p : Int} : Act 6 3 mL_changeAt mX10_changeAt [vA 0, vI p, vA 133] [vA 109, vI p] σ := by
  obtain ⟨hS, hc, hA, hM, hI, hs⟩ := id h
  have hP := hI.now
  have h20 : nf ≤ 20 := hs.2.2.2.2.1.1.2.2.2
  have hWM := hP.wfM h20
  have hWB := hP.wfB h20
  have hN : RepN (cN σ) (A.1 A.2.1) := hM.2.2.2.1
  have hE := hP.1.1
  obtain ⟨e1, e2, e3, e4⟩ := id hE
  have hRw := hP.1.2.1
  by_cases q : 0 ≤ p ∧ p < plOf (A.1 A.2.1).1.1 (A.1 A.2.1).1.2.1 (A.1 A.2.1).1.2.1
  · obtain ⟨u1, u2, u3⟩ := unit_in hE q
    by_cases q4 : (A.1 A.2.1).1.1 2 (ixOf (A.1 A.2.1).1.1 (A.1 A.2.1).1.2.1 p) = -1
    · exact act_no h (wt_changeAt_4 (th4_changeAt hS hA u1 u3 q4)) (m_changeAt_2 hS hN hWM q q4) (by decide)
    · refine act_q h (wo_changeAt (ok_changeAt hS hA u1 u3 q4)) (fun τ t2 t1 => ?_)
      have hS2 : Str τ.2.1 := by rw [t2]; exact hS
      have hN2 : RepN (cN τ) (A.1 A.2.1) := hN.to (fun j => t1 _ _ (by omega))
      exact m_changeAt hS2 hN2 hWM q q4
  · exact act_no h (wt_changeAt_0 (th0_changeAt hS hA (unit_out hE q))) (m_changeAt_1 hS hN hWM q) (by decide)
theorem st_isBold (h : SimP σ pi A ns nf) {p : Int} : Act 5 4 mL_isBold mX10_isBold [vA 0, vI p, vA 133] [vA 109, vI p] σ := by
  obtain ⟨hS, hc, hA, hM, hI, hs⟩ := id h
  have hP := hI.now
  have h20 : nf ≤ 20 := hs.2.2.2.2.1.1.2.2.2
  have hWM := hP.wfM h20
  have hWB := hP.wfB h20
  have hN : RepN (cN σ) (A.1 A.2.1) := hM.2.2.2.1
  have hE := hP.1.1
  obtain ⟨e1, e2, e3, e4⟩ := id hE
  have hRw := hP.1.2.1
  by_cases q : 0 ≤ p ∧ p ≤ endsA (A.1 A.2.1).1.1 (A.1 A.2.1).1.2.1 (A.1 A.2.1).1.2.1
  · have u := ixEnd_end hRw.1 ((ixEnd_iff hE).mpr q)
    have us := (hP.1.2.2.2.1 _ u.1 u.2.1).2.2.2.2.2 u.2.2.2
    obtain ⟨g1, g2, g3⟩ := hs.2.1
    refine act_q h (wo_isBold (boldF_01 _ _ _ (Or.inl rfl)) (ok_isBold hS hA ((ixEnd_iff hE).mpr q))) (fun τ t2 t1 => ?_)
    have hS2 : Str τ.2.1 := by rw [t2]; exact hS
    have hN2 : RepN (cN τ) (A.1 A.2.1) := hN.to (fun j => t1 _ _ (by omega))
    have k := m_isBold hS2 hN2 hWM (by rw [t1 _ _ (by omega)]; omega) (fun s s0 s1 => by rw [t1 _ _ (by omega)]; rw [t1 _ _ (by omega)] at s1; exact (g3 s s0 (by omega)).1) (fun s s0 s1 => by rw [t1 _ _ (by omega)]; rw [t1 _ _ (by omega)] at s1; exact (g3 s s0 (by omega)).2) q (by rw [t1 _ _ (by omega)]; omega)
    rw [clF_eq (σ := τ) (σ' := σ) (a := 113) (b := 84) (fun j => by rw [t1 _ _ (by omega), (g2 j).1]), clF_eq (σ := τ) (σ' := σ) (a := 114) (b := 85) (fun j => by rw [t1 _ _ (by omega), (g2 j).2.1])] at k
    exact k
  · have q2 : (ixEnd (A.1 A.2.1).1.1 (A.1 A.2.1).1.2.1 p) = -1 := Decidable.not_not.mp (fun z => q ((ixEnd_iff hE).mp z))
    exact act_no h (wt_isBold_0 (th0_isBold hS hA q2)) (m_isBold_no hS hN hWM q) (by decide)
theorem st_lineAt (h : SimP σ pi A ns nf) {i : Int} : Act 3 1 mL_lineAt mX10_lineAt [vA 0, vI i, vA 133] [vA 109, vI i] σ := by
  obtain ⟨hS, hc, hA, hM, hI, hs⟩ := id h
  have hP := hI.now
  have h20 : nf ≤ 20 := hs.2.2.2.2.1.1.2.2.2
  have hWM := hP.wfM h20
  have hWB := hP.wfB h20
  have hN : RepN (cN σ) (A.1 A.2.1) := hM.2.2.2.1
  have hE := hP.1.1
  obtain ⟨e1, e2, e3, e4⟩ := id hE
  have hRw := hP.1.2.1
  by_cases q : 0 ≤ i ∧ i < σ.1 87 4
  · obtain ⟨⟨g1, g2, g3⟩, g4⟩ := hs.2.2.2.1
    refine act_q h (wo_lineAt (ok_lineAt hS q g3 (by rw [(g4 _).1]; exact (g4 _).2))) (fun τ t2 t1 => ?_)
    have hS2 : Str τ.2.1 := by rw [t2]; exact hS
    have hN2 : RepN (cN τ) (A.1 A.2.1) := hN.to (fun j => t1 _ _ (by omega))
    have k := m_lineAt (σ := τ) hS2 (i := i) (by rw [t1 _ _ (by omega)]; omega) (by rw [t1 _ _ (by omega)]; exact (g4 _).2) (by rw [t1 _ _ (by omega)]; omega)
    rw [t1 _ _ (by omega), ← (g4 _).1] at k
    exact k
  · obtain ⟨⟨g1, g2, g3⟩, g4⟩ := hs.2.2.2.1
    exact act_no h (wt_lineAt_0 (th0_lineAt hS q)) (m_lineAt_no hS (by omega) (g4 _).2 (by omega)) (by decide)
theorem st_bookmarkFrom (h : SimP σ pi A ns nf) {b : Int} : Act 4 4 mL_bookmarkFrom mX10_bookmarkFrom [vA 0, vI b, vA 133] [vA 109, vI b] σ := by
  obtain ⟨hS, hc, hA, hM, hI, hs⟩ := id h
  have hP := hI.now
  have h20 : nf ≤ 20 := hs.2.2.2.2.1.1.2.2.2
  have hWM := hP.wfM h20
  have hWB := hP.wfB h20
  have hN : RepN (cN σ) (A.1 A.2.1) := hM.2.2.2.1
  have hE := hP.1.1
  obtain ⟨e1, e2, e3, e4⟩ := id hE
  have hRw := hP.1.2.1
  by_cases q : 0 ≤ b ∧ b < 6
  · by_cases q4 : (A.1 A.2.1).1.2.2.1 b = -1
    · have k := m_bookmarkFrom_no hS hN hWM (b := b) (by rw [if_neg (show ¬ ¬ (0 ≤ b ∧ b ≤ 5) by omega), if_pos q4]; decide)
      rw [if_neg (show ¬ ¬ (0 ≤ b ∧ b ≤ 5) by omega), if_pos q4] at k
      exact act_no h (wt_bookmarkFrom_4 (th4_bookmarkFrom hS hA q q4)) k (by decide)
    · refine act_q h (wo_bookmarkFrom (ok_bookmarkFrom hS hA q q4)) (fun τ t2 t1 => ?_)
      have hS2 : Str τ.2.1 := by rw [t2]; exact hS
      have hN2 : RepN (cN τ) (A.1 A.2.1) := hN.to (fun j => t1 _ _ (by omega))
      exact m_bookmarkFrom hS2 hN2 hWM q q4
  · have k := m_bookmarkFrom_no hS hN hWM (b := b) (by rw [if_pos (show ¬ (0 ≤ b ∧ b ≤ 5) by omega)]; decide)
    rw [if_pos (show ¬ (0 ≤ b ∧ b ≤ 5) by omega)] at k
    exact act_no h (wt_bookmarkFrom_0 (th0_bookmarkFrom hS hA q)) k (by decide)
theorem st_bookmarkTo (h : SimP σ pi A ns nf) {b : Int} : Act 5 5 mL_bookmarkTo mX10_bookmarkTo [vA 0, vI b, vA 133] [vA 109, vI b] σ := by
  obtain ⟨hS, hc, hA, hM, hI, hs⟩ := id h
  have hP := hI.now
  have h20 : nf ≤ 20 := hs.2.2.2.2.1.1.2.2.2
  have hWM := hP.wfM h20
  have hWB := hP.wfB h20
  have hN : RepN (cN σ) (A.1 A.2.1) := hM.2.2.2.1
  have hE := hP.1.1
  obtain ⟨e1, e2, e3, e4⟩ := id hE
  have hRw := hP.1.2.1
  by_cases q : 0 ≤ b ∧ b < 6
  · by_cases q4 : (A.1 A.2.1).1.2.2.1 b = -1
    · have k := m_bookmarkTo_no hS hN hWM (b := b) (by rw [if_neg (show ¬ ¬ (0 ≤ b ∧ b ≤ 5) by omega), if_pos q4]; decide)
      rw [if_neg (show ¬ ¬ (0 ≤ b ∧ b ≤ 5) by omega), if_pos q4] at k
      exact act_no h (wt_bookmarkTo_4 (th4_bookmarkTo hS hA q q4)) k (by decide)
    · refine act_q h (wo_bookmarkTo (ok_bookmarkTo hS hA q q4)) (fun τ t2 t1 => ?_)
      have hS2 : Str τ.2.1 := by rw [t2]; exact hS
      have hN2 : RepN (cN τ) (A.1 A.2.1) := hN.to (fun j => t1 _ _ (by omega))
      exact m_bookmarkTo hS2 hN2 hWM q q4
  · have k := m_bookmarkTo_no hS hN hWM (b := b) (by rw [if_pos (show ¬ (0 ≤ b ∧ b ≤ 5) by omega)]; decide)
    rw [if_pos (show ¬ (0 ≤ b ∧ b ≤ 5) by omega)] at k
    exact act_no h (wt_bookmarkTo_0 (th0_bookmarkTo hS hA q)) k (by decide)
theorem st_result (h : SimP σ pi A ns nf) {f : Int} : Act 4 2 mL_result mX10_result [vA 0, vI f, vA 133] [vA 109, vI f] σ := by
  obtain ⟨hS, hc, hA, hM, hI, hs⟩ := id h
  have hP := hI.now
  have h20 : nf ≤ 20 := hs.2.2.2.2.1.1.2.2.2
  have hWM := hP.wfM h20
  have hWB := hP.wfB h20
  have hN : RepN (cN σ) (A.1 A.2.1) := hM.2.2.2.1
  have hE := hP.1.1
  obtain ⟨e1, e2, e3, e4⟩ := id hE
  have hRw := hP.1.2.1
  by_cases q : 0 ≤ f ∧ f < nf
  · obtain ⟨⟨g1, g2, g3, g4⟩, -⟩ := hs.2.2.2.2.1
    refine act_q h (wo_result (ok_result hS hA (by omega) (by omega))) (fun τ t2 t1 => ?_)
    have hS2 : Str τ.2.1 := by rw [t2]; exact hS
    have hN2 : RepN (cN τ) (A.1 A.2.1) := hN.to (fun j => t1 _ _ (by omega))
    have k := m_result (σ := τ) hS2 (f := f) (by rw [t1 _ _ (by omega)]; omega) (by rw [t1 _ _ (by omega)]; omega)
    rw [show τ.1 110 (3205 + f).toNat = (A.1 A.2.1).2.2 f from hN2.2.2.1 f (by omega) (by omega)] at k
    exact k
  · obtain ⟨⟨g1, g2, g3, g4⟩, -⟩ := hs.2.2.2.2.1
    exact act_no h (wt_result_0 (th0_result hS hA (by omega))) (m_result_no hS (by omega) (by omega)) (by decide)
theorem st_length (h : SimP σ pi A ns nf) : Ask 3 3 mX9_length mX10_length [vA 0] [vA 109] σ := by
  obtain ⟨hS, hc, hA, hM, hI, hs⟩ := id h
  have hP := hI.now
  have h20 : nf ≤ 20 := hs.2.2.2.2.1.1.2.2.2
  have hWM := hP.wfM h20
  have hWB := hP.wfB h20
  have hN : RepN (cN σ) (A.1 A.2.1) := hM.2.2.2.1
  have hE := hP.1.1
  obtain ⟨e1, e2, e3, e4⟩ := id hE
  have hRw := hP.1.2.1
  exact ask_q h (ok_length hS hA) (m_length hS hN hWM)
theorem st_oldLength (h : SimP σ pi A ns nf) : Ask 3 1 mX9_oldLength mX10_oldLength [vA 0] [vA 109] σ := by
  obtain ⟨hS, hc, hA, hM, hI, hs⟩ := id h
  have hP := hI.now
  have h20 : nf ≤ 20 := hs.2.2.2.2.1.1.2.2.2
  have hWM := hP.wfM h20
  have hWB := hP.wfB h20
  have hN : RepN (cN σ) (A.1 A.2.1) := hM.2.2.2.1
  have hE := hP.1.1
  obtain ⟨e1, e2, e3, e4⟩ := id hE
  have hRw := hP.1.2.1
  exact ask_q h (ok_oldLength hS hA) (m_oldLength hS hN hWM)
theorem st_paragraphs (h : SimP σ pi A ns nf) : Ask 4 3 mX9_paragraphs mX10_paragraphs [vA 0] [vA 109] σ := by
  obtain ⟨hS, hc, hA, hM, hI, hs⟩ := id h
  have hP := hI.now
  have h20 : nf ≤ 20 := hs.2.2.2.2.1.1.2.2.2
  have hWM := hP.wfM h20
  have hWB := hP.wfB h20
  have hN : RepN (cN σ) (A.1 A.2.1) := hM.2.2.2.1
  have hE := hP.1.1
  obtain ⟨e1, e2, e3, e4⟩ := id hE
  have hRw := hP.1.2.1
  exact ask_q h (ok_paragraphs hS hA) (m_paragraphs hS hN hWM)
theorem st_changes (h : SimP σ pi A ns nf) : Ask 2 0 mX9_changes mX10_changes [vA 0] [vA 109] σ := by
  obtain ⟨hS, hc, hA, hM, hI, hs⟩ := id h
  have hP := hI.now
  have h20 : nf ≤ 20 := hs.2.2.2.2.1.1.2.2.2
  have hWM := hP.wfM h20
  have hWB := hP.wfB h20
  have hN : RepN (cN σ) (A.1 A.2.1) := hM.2.2.2.1
  have hE := hP.1.1
  obtain ⟨e1, e2, e3, e4⟩ := id hE
  have hRw := hP.1.2.1
  exact ask_q h (ok_changes hS hA) (m_changes hS hN hWM)
end Asks2
