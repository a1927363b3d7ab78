/-! Both sides lay pages, work out, merge, and say their shares. -/
section Rest3
variable {σ τ : St} {ns nf : Int} {pi : Nat → Nat} {A : PastD}
theorem Sml.fr2 (h : Sml ns nf σ) (f1 : ∀ a j : Nat, kpC a j → a < 133 → τ.1 a j = σ.1 a j) : Sml ns nf τ := h.fr (fun a j z => f1 a j (by have := smB_b z; unfold kpC; omega) (by have := smB_b z; omega))
theorem lay_b {D : PapD} (hP : PpI nf ns D) (h20 : nf ≤ 20) : sgS D.1 D.2.2 (D.1.2.1 + 1) ≤ 500 := sgS_bound hP.2.2.1 hP.1.1 (hP.sg h20) (Int.le_trans hP.1.2.2.2.2.2 h20)
theorem edA_self : edA A (A.1 A.2.1) = A := by
  refine Prod.ext (funext fun j => ?_) rfl
  show (if j = A.2.1 then A.1 A.2.1 else A.1 j) = A.1 j
  split
  · rename_i e; rw [e]
  · rfl
theorem st_pages (h : SimP σ pi A ns nf) : Ask 6 4 mX9_pages mX10_pages [vA 0] [vA 109] σ := by
  obtain ⟨hS, hc, hA, hM, hI, hs⟩ := id h
  have hP := hI.now
  have h20 : nf ≤ 20 := hs.2.2.2.2.1.1.2.2.2
  have hWM := hP.wfM h20
  have hWB := hP.wfB h20
  have hN : RepN (cN σ) (A.1 A.2.1) := hM.2.2.2.1
  have hE := hP.1.1
  obtain ⟨e1, e2, e3, e4⟩ := id hE
  have hRw := hP.1.2.1
  obtain ⟨σ1, c1, c2, c3⟩ := ok_pages hS hA hs.wh (hP.layp h20)
  refine ask_g (A' := A) (σ1 := σ1) h c1 c2 (fun a j z => c3 a j (by unfold kpC at z; omega)) (hA.fr c2 (fun a j z1 z2 => c3 a j (by omega))) hI ?_
  have t2 := c2
  have t1 : ∀ a j : Nat, kpC a j → a < 133 → σ1.1 a j = σ.1 a j := fun a j z _ => c3 a j (by unfold kpC at z; omega)
  revert t2 t1
  generalize σ1 = τ
  intro t2 t1
  have hs2 : Sml ns nf τ := hs.fr2 t1
  have hS2 : Str τ.2.1 := by rw [t2]; exact hS
  have hN2 : RepN (cN τ) (A.1 A.2.1) := hN.to (fun j => t1 _ _ (by unfold kpC; omega) (by omega))
  have hM2 : PastM τ A := hM.fr (fun a j z => t1 a j (by unfold kpC; omega) (by omega))
  have ek : KVm τ = KVs σ := by rw [hs.kv]; unfold KVm; rw [clF_eq (σ := τ) (σ' := σ) (a := 113) (b := 113) (fun j => t1 _ _ (by unfold kpC; omega) (by omega)), clF_eq (σ := τ) (σ' := σ) (a := 115) (b := 115) (fun j => t1 _ _ (by unfold kpC; omega) (by omega))]
  have e7 : τ.1 109 7 = ns := by rw [t1 109 7 (by unfold kpC; omega) (by omega)]; exact hs.2.1.1.2.1
  obtain ⟨⟨w1, w2⟩, w3, w4⟩ := hs.2.2.2.2.2.2
  have e19 : τ.1 109 19 = σ.1 98 0 := by rw [t1 109 19 (by unfold kpC; omega) (by omega)]; exact w1.symm
  have e20 : τ.1 109 20 = σ.1 98 1 := by rw [t1 109 20 (by unfold kpC; omega) (by omega)]; exact w2.symm
  obtain ⟨τ', k1, k2⟩ := m_pages hS2 hN2 hWM hP.2.2.1 hP.ltw (lay_b hP h20) hs2.stym (by rw [e7]; exact hP.styw) (by rw [e19]; exact w3) (by rw [e20]; exact w4)
  rw [ek, e19, e20] at k1
  exact ⟨τ', k1, k2.1, hM2.fr (fun a j z => by rw [k2.2 a j (by omega), P1_off (by omega)]), fun a j z => by unfold kpM at z; rw [k2.2 a j (by omega), P1_off (by omega)]⟩
theorem st_pageOf (h : SimP σ pi A ns nf) {p : Int} : Act 7 6 mL_pageOf mX10_pageOf [vA 0, vI p, vA 133] [vA 109, vI p] σ := by
  obtain ⟨hS, hc, hA, hM, hI, hs⟩ := id h
  have hP := hI.now
  have h20 : nf ≤ 20 := hs.2.2.2.2.1.1.2.2.2
  have hWM := hP.wfM h20
  have hWB := hP.wfB h20
  have hN : RepN (cN σ) (A.1 A.2.1) := hM.2.2.2.1
  have hE := hP.1.1
  obtain ⟨e1, e2, e3, e4⟩ := id hE
  have hRw := hP.1.2.1
  by_cases q : 0 ≤ p ∧ p ≤ plOf (A.1 A.2.1).1.1 (A.1 A.2.1).1.2.1 (A.1 A.2.1).1.2.1
  · obtain ⟨σ1, c1, c2, c3⟩ := ok_pageOf hS hA hs.wh (hP.layp h20) ((ixOf_iff hE).mpr q)
    refine act_g (A' := A) (σ1 := σ1) h (wo_pageOf c1) c2 (fun a j z => c3 a j (by unfold kpC at z; omega)) (hA.fr c2 (fun a j z1 z2 => c3 a j (by omega))) hI (fun τ t2 t1 => ?_)
    have hs2 : Sml ns nf τ := hs.fr2 t1
    have hS2 : Str τ.2.1 := by rw [t2]; exact hS
    have hN2 : RepN (cN τ) (A.1 A.2.1) := hN.to (fun j => t1 _ _ (by unfold kpC; omega) (by omega))
    have hM2 : PastM τ A := hM.fr (fun a j z => t1 a j (by unfold kpC; omega) (by omega))
    have ek : KVm τ = KVs σ := by rw [hs.kv]; unfold KVm; rw [clF_eq (σ := τ) (σ' := σ) (a := 113) (b := 113) (fun j => t1 _ _ (by unfold kpC; omega) (by omega)), clF_eq (σ := τ) (σ' := σ) (a := 115) (b := 115) (fun j => t1 _ _ (by unfold kpC; omega) (by omega))]
    have e7 : τ.1 109 7 = ns := by rw [t1 109 7 (by unfold kpC; omega) (by omega)]; exact hs.2.1.1.2.1
    obtain ⟨⟨w1, w2⟩, w3, w4⟩ := hs.2.2.2.2.2.2
    have e19 : τ.1 109 19 = σ.1 98 0 := by rw [t1 109 19 (by unfold kpC; omega) (by omega)]; exact w1.symm
    have e20 : τ.1 109 20 = σ.1 98 1 := by rw [t1 109 20 (by unfold kpC; omega) (by omega)]; exact w2.symm
    obtain ⟨τ', k1, k2⟩ := m_pageOf hS2 hN2 hWM hP.2.2.1 hP.ltw (lay_b hP h20) hs2.stym (by rw [e7]; exact hP.styw) (by rw [e19]; exact w3) (by rw [e20]; exact w4) q
    rw [ek, e19, e20] at k1
    exact ⟨P1 τ' 109 0 0, k1, k2.1, P1_eq, hM2.fr (fun a j z => by rw [P1_off (by omega), k2.2 a j (by omega)]), fun a j z => by unfold kpM at z; rw [P1_off (by omega), k2.2 a j (by omega)]⟩
  · have q2 : (ixOf (A.1 A.2.1).1.1 (A.1 A.2.1).1.2.1 p) = -1 := Decidable.not_not.mp (fun z => q ((ixOf_iff hE).mp z))
    have t2 : σ.2 = σ.2 := rfl
    have t1 : ∀ a j : Nat, kpC a j → a < 133 → σ.1 a j = σ.1 a j := fun _ _ _ _ => rfl
    obtain ⟨w3, w4⟩ := hs.2.2.2.2.2.2.2
    obtain ⟨w1, w2⟩ := hs.2.2.2.2.2.2.1
    obtain ⟨τ', k1, k2⟩ := m_pageOf_no hS hN hWM hP.2.2.1 hP.ltw (lay_b hP h20) hs.stym (by rw [hs.2.1.1.2.1]; exact hP.styw) (by rw [← w1]; exact w3) (by rw [← w2]; exact w4) q
    exact act_no2 h (wt_pageOf_0 (th0_pageOf hS hA q2)) k1 k2 (by decide)
theorem st_lineOf (h : SimP σ pi A ns nf) {p : Int} : Act 7 5 mL_lineOf mX10_lineOf [vA 0, vI p, vA 133] [vA 109, vI p] σ := by
  obtain ⟨hS, hc, hA, hM, hI, hs⟩ := id h
  have hP := hI.now
  have h20 : nf ≤ 20 := hs.2.2.2.2.1.1.2.2.2
  have hWM := hP.wfM h20
  have hWB := hP.wfB h20
  have hN : RepN (cN σ) (A.1 A.2.1) := hM.2.2.2.1
  have hE := hP.1.1
  obtain ⟨e1, e2, e3, e4⟩ := id hE
  have hRw := hP.1.2.1
  by_cases q : 0 ≤ p ∧ p ≤ plOf (A.1 A.2.1).1.1 (A.1 A.2.1).1.2.1 (A.1 A.2.1).1.2.1
  · obtain ⟨σ1, c1, c2, c3⟩ := ok_lineOf hS hA hs.wh (hP.layp h20) ((ixOf_iff hE).mpr q)
    refine act_g (A' := A) (σ1 := σ1) h (wo_lineOf c1) c2 (fun a j z => c3 a j (by unfold kpC at z; omega)) (hA.fr c2 (fun a j z1 z2 => c3 a j (by omega))) hI (fun τ t2 t1 => ?_)
    have hs2 : Sml ns nf τ := hs.fr2 t1
    have hS2 : Str τ.2.1 := by rw [t2]; exact hS
    have hN2 : RepN (cN τ) (A.1 A.2.1) := hN.to (fun j => t1 _ _ (by unfold kpC; omega) (by omega))
    have hM2 : PastM τ A := hM.fr (fun a j z => t1 a j (by unfold kpC; omega) (by omega))
    have ek : KVm τ = KVs σ := by rw [hs.kv]; unfold KVm; rw [clF_eq (σ := τ) (σ' := σ) (a := 113) (b := 113) (fun j => t1 _ _ (by unfold kpC; omega) (by omega)), clF_eq (σ := τ) (σ' := σ) (a := 115) (b := 115) (fun j => t1 _ _ (by unfold kpC; omega) (by omega))]
    have e7 : τ.1 109 7 = ns := by rw [t1 109 7 (by unfold kpC; omega) (by omega)]; exact hs.2.1.1.2.1
    obtain ⟨⟨w1, w2⟩, w3, w4⟩ := hs.2.2.2.2.2.2
    have e19 : τ.1 109 19 = σ.1 98 0 := by rw [t1 109 19 (by unfold kpC; omega) (by omega)]; exact w1.symm
    have e20 : τ.1 109 20 = σ.1 98 1 := by rw [t1 109 20 (by unfold kpC; omega) (by omega)]; exact w2.symm
    obtain ⟨τ', k1, k2⟩ := m_lineOf hS2 hN2 hWM hP.2.2.1 hP.ltw (lay_b hP h20) hs2.stym (by rw [e7]; exact hP.styw) (by rw [e19]; exact w3) (by rw [e20]; exact w4) q
    rw [ek, e19, e20] at k1
    exact ⟨P1 τ' 109 0 0, k1, k2.1, P1_eq, hM2.fr (fun a j z => by rw [P1_off (by omega), k2.2 a j (by omega)]), fun a j z => by unfold kpM at z; rw [P1_off (by omega), k2.2 a j (by omega)]⟩
  · have q2 : (ixOf (A.1 A.2.1).1.1 (A.1 A.2.1).1.2.1 p) = -1 := Decidable.not_not.mp (fun z => q ((ixOf_iff hE).mp z))
    have t2 : σ.2 = σ.2 := rfl
    have t1 : ∀ a j : Nat, kpC a j → a < 133 → σ.1 a j = σ.1 a j := fun _ _ _ _ => rfl
    obtain ⟨w3, w4⟩ := hs.2.2.2.2.2.2.2
    obtain ⟨w1, w2⟩ := hs.2.2.2.2.2.2.1
    obtain ⟨τ', k1, k2⟩ := m_lineOf_no hS hN hWM hP.2.2.1 hP.ltw (lay_b hP h20) hs.stym (by rw [hs.2.1.1.2.1]; exact hP.styw) (by rw [← w1]; exact w3) (by rw [← w2]; exact w4) q
    exact act_no2 h (wt_lineOf_0 (th0_lineOf hS hA q2)) k1 k2 (by decide)
theorem st_update (h : SimP σ pi A ns nf) : Ask 7 9 mX9_update mX10_update [vA 0] [vA 109] σ := by
  obtain ⟨hS, hc, hA, hM, hI, hs⟩ := id h
  have hP := hI.now
  have h20 : nf ≤ 20 := hs.2.2.2.2.1.1.2.2.2
  have hWM := hP.wfM h20
  have hWB := hP.wfB h20
  have hN : RepN (cN σ) (A.1 A.2.1) := hM.2.2.2.1
  have hE := hP.1.1
  obtain ⟨e1, e2, e3, e4⟩ := id hE
  have hRw := hP.1.2.1
  have hpi := (hA.1.1 A.2.1 (by have := hI.1; omega)).2
  obtain ⟨g1, g2, g3⟩ := hs.2.2.2.2.2.1
  obtain ⟨σ1, c1, c2, c3, c4⟩ := ok_update hS hA hs.wh (hs.fk hP) hs.rc (hP.layp h20) g1.2
  have t1 : ∀ a j : Nat, kpC a j → a < 133 → σ1.1 a j = σ.1 a j := fun a j z _ => c2.2 a j (by unfold kpC at z; omega)
  have hs2 : Sml ns nf σ1 := hs.fr2 t1
  have hS2 : Str σ1.2.1 := by rw [c2.1]; exact hS
  have hN2 : RepN (cN σ1) (A.1 A.2.1) := hN.to (fun j => t1 _ _ (by unfold kpC; omega) (by omega))
  have hM2 : PastM σ1 A := hM.fr (fun a j z => t1 a j (by unfold kpC; omega) (by omega))
  have e18 : σ1.1 109 18 = σ.1 96 1 := by rw [t1 109 18 (by unfold kpC; omega) (by omega)]; exact g1.1.symm
  obtain ⟨v1, v2, -⟩ := c2.vl (by omega) (A.1 A.2.1).1 (σ.1 96 1)
  have v3 := hs2.vl (A.1 A.2.1).1 (σ.1 96 1)
  have ev : vlM σ1 (A.1 A.2.1).1 (σ.1 96 1) = vlS σ (A.1 A.2.1).1 (σ.1 96 1) := by rw [← v3.1, v1]
  have eh : hdM σ1 = hdS σ := by rw [← v3.2, v2]
  obtain ⟨τ', k1, k2, k3, k4⟩ := m_update (R := (A.1 A.2.1).1) (L := (A.1 A.2.1).2.1) (Q := (A.1 A.2.1).2.2) hS2 hN2 (hs2.upw hP) hP.2.2.1 (by rw [e18]; exact g1.2)
  rw [e18, ev, eh] at k1 k3
  refine ask_g (σ1 := σ1) h c1 c2.1 (fun a j z => c2.2 a j (by unfold kpC at z; omega)) c3 (hI.ed (hP.wk hs.2.2.2.2.1.1.2.2.1 c4)) ⟨τ', k1, k2.1, hM2.now (fun a j y1 y2 y3 => by rw [k2.2 a j (by omega), P1_off (by omega)]) k3, fun a j z => by unfold kpM at z; rw [k2.2 a j (by omega), P1_off (by omega)]⟩
theorem st_merge (h : SimP σ pi A ns nf) {c z : Int} : Act 8 9 mL_merge mX10_merge [vA 0, vI c, vI z, vA 133] [vA 109, vI c, vI z] σ := by
  obtain ⟨hS, hc, hA, hM, hI, hs⟩ := id h
  have hP := hI.now
  have h20 : nf ≤ 20 := hs.2.2.2.2.1.1.2.2.2
  have hWM := hP.wfM h20
  have hWB := hP.wfB h20
  have hN : RepN (cN σ) (A.1 A.2.1) := hM.2.2.2.1
  have hE := hP.1.1
  obtain ⟨e1, e2, e3, e4⟩ := id hE
  have hRw := hP.1.2.1
  by_cases q : 0 ≤ c ∧ c < 3
  · have hpi := (hA.1.1 A.2.1 (by have := hI.1; omega)).2
    obtain ⟨g1, g2, g3⟩ := hs.2.2.2.2.2.1
    obtain ⟨⟨w1, w2⟩, w3, w4⟩ := hs.2.2.2.2.2.2
    obtain ⟨σ1, c1, c2, c3⟩ := ok_merge hS hA hs.wh (hs.fk hP) hs.rc (hP.layp h20) (z := z) q
    refine act_g (A' := A) (σ1 := σ1) h (wo_merge c1) c2.1 (fun a j y => c2.2 a j (by unfold kpC at y; omega)) c3 hI (fun τ t2 t1 => ?_)
    have hs2 : Sml ns nf τ := hs.fr2 t1
    have hS2 : Str τ.2.1 := by rw [t2]; exact hS
    have hN2 : RepN (cN τ) (A.1 A.2.1) := hN.to (fun j => t1 _ _ (by unfold kpC; omega) (by omega))
    have hM2 : PastM τ A := hM.fr (fun a j y => t1 a j (by unfold kpC; omega) (by omega))
    have c98 : τ.1 98 0 = σ.1 98 0 ∧ τ.1 98 1 = σ.1 98 1 := ⟨t1 98 0 (by unfold kpC; omega) (by omega), t1 98 1 (by unfold kpC; omega) (by omega)⟩
    have e19 : τ.1 109 19 = σ.1 98 0 := by rw [t1 109 19 (by unfold kpC; omega) (by omega)]; exact w1.symm
    have e20 : τ.1 109 20 = σ.1 98 1 := by rw [t1 109 20 (by unfold kpC; omega) (by omega)]; exact w2.symm
    have ek : KVm τ = KVs σ := by rw [hs.kv]; unfold KVm; rw [clF_eq (σ := τ) (σ' := σ) (a := 113) (b := 113) (fun j => t1 _ _ (by unfold kpC; omega) (by omega)), clF_eq (σ := τ) (σ' := σ) (a := 115) (b := 115) (fun j => t1 _ _ (by unfold kpC; omega) (by omega))]
    have ev : vlM τ (A.1 A.2.1).1 = vlS σ (A.1 A.2.1).1 := funext fun rc => by
      rw [← (hs2.vl (A.1 A.2.1).1 rc).1]
      unfold vlS
      rw [hs2.kv, ek, c98.1, c98.2]
      refine funext fun Q => funext fun f => ?_
      rw [t1 93 _ (by unfold kpC; omega) (by omega), t1 94 _ (by unfold kpC; omega) (by omega), t1 97 _ (by unfold kpC; omega) (by omega)]
    have eh : hdM τ = hdS σ := by
      rw [← (hs2.vl (A.1 A.2.1).1 0).2]
      unfold hdS
      exact funext fun f => t1 95 _ (by unfold kpC; omega) (by omega)
    have er : (fun rc : Int => τ.1 121 (3 * rc + c).toNat) = (fun rc : Int => σ.1 97 (rc * 3 + c).toNat) := funext fun rc => by
      rw [t1 121 _ (by unfold kpC; omega) (by omega), ← g2, show 3 * rc + c = rc * 3 + c by omega]
    obtain ⟨τ', k1, k2, k3, k4, k5⟩ := m_merge (R := (A.1 A.2.1).1) (L := (A.1 A.2.1).2.1) (Q := (A.1 A.2.1).2.2) hS2 hN2 (hs2.upw hP) hP.2.2.1 (c := c) (z := z) (by omega)
    rw [ev, eh, ek, e19, e20, er] at k1
    have hM3 : PastM τ' (edA A (A.1 A.2.1)) := hM2.now (fun a j y1 y2 y3 => k2.2 a j (by omega)) k3
    rw [edA_self] at hM3
    refine ⟨τ', k1, k2.1, k4, hM3, fun a j y => ?_⟩
    unfold kpM at y
    by_cases y2 : a = 109 ∧ j = 18
    · rw [y2.1, y2.2]; exact k5
    · exact k2.2 a j (by omega)
  · exact act_no h (wt_merge_1 (th1_merge hS hA q)) (m_merge_no hS (by omega)) (by decide)
theorem st_isSound (h : SimP σ pi A ns nf) : Ask 7 0 mX9_isSound mX10_isSound [vA 0] [vA 109] σ := by
  obtain ⟨hS, hc, hA, hM, hI, hs⟩ := id h
  have hP := hI.now
  have h20 : nf ≤ 20 := hs.2.2.2.2.1.1.2.2.2
  have hWM := hP.wfM h20
  have hWB := hP.wfB h20
  have hN : RepN (cN σ) (A.1 A.2.1) := hM.2.2.2.1
  have hE := hP.1.1
  obtain ⟨e1, e2, e3, e4⟩ := id hE
  have hRw := hP.1.2.1
  obtain ⟨σ1, c1, c2, c3⟩ := ok_isSound hS hA hs.wh (hP.layp h20) (jdT_all hP) (fun j j0 j1 => (hP.2.1.2 j j0 j1).2.1)
  refine ask_g (A' := A) (σ1 := σ1) h c1 c2 (fun a j z => c3 a j (by unfold kpC at z; omega)) (hA.fr c2 (fun a j z1 z2 => c3 a j (by omega))) hI ?_
  exact ⟨_, m_isSound (σ := σ1) (by rw [c2]; exact hS), rfl, hM.fr (fun a j z => by rw [P1_off (by omega), c3 a j (by omega)]), fun a j z => by unfold kpM at z; exact P1_off (by omega)⟩
/-- what is decided of shares and means -/
def ShTab : Prop := ∀ c n : Nat, 1 ≤ n → n ≤ 200 → c ≤ n → shX (shN c n) = true
def MnTab : Prop := ∀ a n : Nat, 1 ≤ n → a + n ≤ 201 → mnX (mnN a n) = true
theorem shX_of {x : UInt32} (h : shX x = true) : nn32 x = true ∧ (Op.cmpValue (FP.fcmp x x) .l).toInt = 0 ∧ nn64 (FP.f2d x) = true ∧ (Op.cmpValue (FP.dcmp (FP.f2d x) (FP.f2d x)) .l).toInt = 0 ∧ shB x = some x.toInt32.toInt := by
  unfold shX at h
  rw [Bool.and_eq_true, Bool.and_eq_true, Bool.and_eq_true, Bool.and_eq_true, decide_eq_true_eq, decide_eq_true_eq, decide_eq_true_eq] at h
  exact ⟨h.1.1.1.1, h.1.1.1.2, h.1.1.2, h.1.2, h.2⟩
theorem mnX_of {x : UInt64} (h : mnX x = true) : nn64 x = true ∧ (Op.cmpValue (FP.dcmp x x) .l).toInt = 0 ∧ mnB x = some x.toInt64.toInt := by
  unfold mnX at h
  rw [Bool.and_eq_true, Bool.and_eq_true, decide_eq_true_eq, decide_eq_true_eq] at h
  exact ⟨h.1.1, h.1.2, h.2⟩
theorem sh_all (hT : ShTab) {F : Int → Int → Int} {n : Int} (h : 0 < n ∧ n ≤ 200) : shX (shq (waitN F n) n) = true := by
  have b := cntF_le (waitB F) (min n n).toNat 0
  have e0 : (0 : Int) ≤ waitN F n ∧ waitN F n ≤ n := by
    have b2 := cntF_le (waitB F) n.toNat 0
    unfold waitN
    omega
  have k := hT (waitN F n).toNat n.toNat (by omega) (by omega) (by omega)
  unfold shN at k
  rw [show (((waitN F n).toNat : Nat) : Int) = waitN F n by omega, show ((n.toNat : Nat) : Int) = n by omega] at k
  exact k
theorem en_pl {R : RowD} (hE : LastE R) : 0 ≤ enN R R.2.1 ∧ enN R R.2.1 ≤ plN R R.2.1 ∧ plN R R.2.1 ≤ 200 := by
  refine ⟨enN_nn, ?_, by have := plN_ub (R := R) hE.1; have := hE.2.1; omega⟩
  have key : ∀ m : Nat, (m : Int) ≤ R.2.1 → enN R m ≤ plN R m := by
    intro m
    induction m with
    | zero => intro _; exact Int.le_refl _
    | succ m ih =>
      intro hm
      have h1 := ih (by omega)
      have e1 : enN R ((m + 1 : Nat) : Int) = enN R m + ind (sendB R.1 R.2.1) m := enN_s (R := R) (i := m) (by omega)
      have e2 : plN R ((m + 1 : Nat) : Int) = plN R m + ind (leftB R.1) m := plN_s (R := R) (i := m) (by omega)
      rw [e1, e2]
      have h3 : ind (sendB R.1 R.2.1) (m : Int) ≤ ind (leftB R.1) (m : Int) := by
        by_cases q : sendB R.1 R.2.1 (m : Int) = true
        · rw [ind_t q, ind_t]
          · decide
          · unfold sendB at q
            unfold leftB
            rw [decide_eq_true_eq] at q ⊢
            exact q.2.2.1
        · rw [ind_f q]; exact ind_nn _
      omega
  have := key R.2.1.toNat (by have := hE.1; omega)
  rw [show ((R.2.1.toNat : Nat) : Int) = R.2.1 by have := hE.1; omega] at this
  exact this
theorem mn_all (hT : MnTab) {R : RowD} (hE : LastE R) : mnX (mnq (plOf R.1 R.2.1 R.2.1 - (endsA R.1 R.2.1 R.2.1 + 1 - 1)) (endsA R.1 R.2.1 R.2.1 + 1)) = true := by
  obtain ⟨a1, a2, a3⟩ := en_pl hE
  rw [plOf_N (Int.le_refl _), endsA_N (Int.le_refl _)]
  have k := hT (plN R R.2.1 - (enN R R.2.1 + 1 - 1)).toNat (enN R R.2.1 + 1).toNat (by omega) (by omega)
  unfold mnN at k
  rw [show (((plN R R.2.1 - (enN R R.2.1 + 1 - 1)).toNat : Nat) : Int) = plN R R.2.1 - (enN R R.2.1 + 1 - 1) by omega, show (((enN R R.2.1 + 1).toNat : Nat) : Int) = enN R R.2.1 + 1 by omega] at k
  exact k
theorem mnq_eq {a n : Int} : mnq (a - n + 1) n = mnq (a - (n - 1)) n := by rw [show a - n + 1 = a - (n - 1) by omega]
theorem st_shareBits (h : SimP σ pi A ns nf) (hT : ShTab) : Act 4 2 mL_shareBits mX10_shareBits [vA 0, vA 133] [vA 109] σ := by
  obtain ⟨hS, hc, hA, hM, hI, hs⟩ := id h
  have hP := hI.now
  have h20 : nf ≤ 20 := hs.2.2.2.2.1.1.2.2.2
  have hWM := hP.wfM h20
  have hWB := hP.wfB h20
  have hN : RepN (cN σ) (A.1 A.2.1) := hM.2.2.2.1
  have hE := hP.1.1
  obtain ⟨e1, e2, e3, e4⟩ := id hE
  have hRw := hP.1.2.1
  by_cases q : 0 < (A.1 A.2.1).1.2.1
  · obtain ⟨x1, x2, x3, x4, x5⟩ := shX_of (sh_all hT (F := (A.1 A.2.1).1.1) ⟨q, e2⟩)
    refine act_q h (wo_shareBits (ok_shareBits hS hA q x1 x5 (in32_toInt _))) (fun τ t2 t1 => ?_)
    have hS2 : Str τ.2.1 := by rw [t2]; exact hS
    have hN2 : RepN (cN τ) (A.1 A.2.1) := hN.to (fun j => t1 _ _ (by omega))
    exact m_shareBits hS2 hN2 hWM (by omega) x1 x2
  · exact act_no h (wt_shareBits_5 (th5_shareBits hS hA (by omega))) (m_shareBits_no hS hN hWM (by omega)) (by decide)
/-- the acts that give floats, doubles, longs -/
def ActF (σ : St) : Prop := ∃ (k : Int) (x : UInt32) (σ1 σ2 : St), Con 3 mL_waitingShare 1 6 [vA 0, vA 134] σ (vI k, σ1) ∧ Con 2 mX10_waitingShare 0 0 [vA 109] σ1 (vF x, σ2) ∧ σ2.1 109 0 = k ∧ (k = 0 → σ2.1 134 0 = ((FP.f2d x).toNat : Int) ∧ nn64 (FP.f2d x) = true ∧ (Op.cmpValue (FP.dcmp (FP.f2d x) (FP.f2d x)) .l).toInt = 0) ∧ Sim σ2
def AskD (σ : St) : Prop := ∃ (x : UInt64) (σ2 : St), Con 4 mX9_meanParagraph 0 0 [vA 0] σ (vD x, σ) ∧ Con 4 mX10_meanParagraph 0 0 [vA 109] σ (vD x, σ2) ∧ (Op.cmpValue (FP.dcmp x x) .l).toInt = 0 ∧ Sim σ2
def AskL (σ : St) : Prop := ∃ (v : Int) (σ2 : St), Con 5 mX9_meanBits 0 0 [vA 0] σ (vT 1 v, σ) ∧ Con 4 mX10_meanBits 0 0 [vA 109] σ (vT 1 v, σ2) ∧ Sim σ2
theorem SimP.th {z : Int} (h : SimP σ pi A ns nf) : SimP (P1 σ 109 0 z) pi A ns nf := by
  obtain ⟨a, b, c, d, e, f⟩ := h
  exact ⟨a, b, c.fr rfl (fun a j z1 z2 => P1_off (by omega)), d.th, e, f.fr (fun a j z => P1_off (by have := smB_b z; omega))⟩
theorem st_waitingShare (h : SimP σ pi A ns nf) (hT : ShTab) : ActF σ := by
  obtain ⟨hS, hc, hA, hM, hI, hs⟩ := id h
  have hP := hI.now
  have h20 : nf ≤ 20 := hs.2.2.2.2.1.1.2.2.2
  have hWM := hP.wfM h20
  have hWB := hP.wfB h20
  have hN : RepN (cN σ) (A.1 A.2.1) := hM.2.2.2.1
  have hE := hP.1.1
  obtain ⟨e1, e2, e3, e4⟩ := id hE
  have hRw := hP.1.2.1
  by_cases q : 0 < (A.1 A.2.1).1.2.1
  · obtain ⟨x1, x2, x3, x4, x5⟩ := shX_of (sh_all hT (F := (A.1 A.2.1).1.1) ⟨q, e2⟩)
    have hN2 : RepN (cN (M1 σ 134 0 ((FP.f2d (shq (waitN (A.1 A.2.1).1.1 (A.1 A.2.1).1.2.1) (A.1 A.2.1).1.2.1)).toNat : Int))) (A.1 A.2.1) := hN.to (fun j => M1_ne (by decide))
    have h2 : SimP (M1 σ 134 0 ((FP.f2d (shq (waitN (A.1 A.2.1).1.1 (A.1 A.2.1).1.2.1) (A.1 A.2.1).1.2.1)).toNat : Int)) pi A ns nf := ⟨hS, hc, hA.fr rfl (fun a j z1 z2 => M1_ne (by omega)), hM.fr (fun a j z => M1_ne (by omega)), hI, hs.fr (fun a j z => M1_ne (by have := smB_b z; omega))⟩
    exact ⟨0, _, _, _, wo_waitingShare x3 (ok_waitingShare hS hA q x1), m_waitingShare (σ := M1 σ 134 0 ((FP.f2d (shq (waitN (A.1 A.2.1).1.1 (A.1 A.2.1).1.2.1) (A.1 A.2.1).1.2.1)).toNat : Int)) hS hN2 hWM (by omega) x1, P1_eq, fun _ => ⟨by rw [P1_ne (by decide)]; exact M1_eq rfl, x3, x4⟩, pi, A, ns, nf, h2.th⟩
  · exact ⟨1, _, _, _, wt_waitingShare_5 (th5_waitingShare hS hA (by omega)), m_waitingShare_no hS hN hWM (by omega), P1_eq, fun z => absurd z (by decide), pi, A, ns, nf, h.th⟩
theorem st_meanParagraph (h : SimP σ pi A ns nf) (hT : MnTab) : AskD σ := by
  obtain ⟨hS, hc, hA, hM, hI, hs⟩ := id h
  have hP := hI.now
  have h20 : nf ≤ 20 := hs.2.2.2.2.1.1.2.2.2
  have hWM := hP.wfM h20
  have hWB := hP.wfB h20
  have hN : RepN (cN σ) (A.1 A.2.1) := hM.2.2.2.1
  have hE := hP.1.1
  obtain ⟨e1, e2, e3, e4⟩ := id hE
  have hRw := hP.1.2.1
  obtain ⟨x1, x2, x3⟩ := mnX_of (mn_all hT hE)
  have k := m_meanParagraph hS hN hWM (by rw [mnq_eq]; exact x1)
  rw [mnq_eq] at k
  exact ⟨_, _, ok_meanParagraph hS hA x1, k, x2, pi, A, ns, nf, h.th⟩
theorem st_meanBits (h : SimP σ pi A ns nf) (hT : MnTab) : AskL σ := by
  obtain ⟨hS, hc, hA, hM, hI, hs⟩ := id h
  have hP := hI.now
  have h20 : nf ≤ 20 := hs.2.2.2.2.1.1.2.2.2
  have hWM := hP.wfM h20
  have hWB := hP.wfB h20
  have hN : RepN (cN σ) (A.1 A.2.1) := hM.2.2.2.1
  have hE := hP.1.1
  obtain ⟨e1, e2, e3, e4⟩ := id hE
  have hRw := hP.1.2.1
  obtain ⟨x1, x2, x3⟩ := mnX_of (mn_all hT hE)
  have k := m_meanBits hS hN hWM (by rw [mnq_eq]; exact x1) (by rw [mnq_eq]; exact x2)
  rw [mnq_eq] at k
  exact ⟨_, _, ok_meanBits hS hA x1 x3 (in64_toInt _), k, pi, A, ns, nf, h.th⟩
end Rest3
