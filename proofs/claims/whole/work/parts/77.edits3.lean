/-! Both sides erase, restyle, and write fields. -/
section Edits3
variable {σ : St} {ns nf : Int} {pi : Nat → Nat} {A : PastD}
theorem st_erase (h : SimP σ pi A ns nf) {a p z : Int} : Act 7 4 mL_erase mX10_erase [vA 0, vI a, vI p, vI z, vA 133] [vA 109, vI a, vI p, vI z] σ := by
  obtain ⟨hS, hc, hA, hM, hI, hs⟩ := id h
  have hP := hI.now
  have h20 : nf ≤ 20 := hs.2.2.2.2.1.1.2.2.2
  have hWM := hP.wfM h20
  have hWB := hP.wfB h20
  have hN : RepN (cN σ) (A.1 A.2.1) := hM.2.2.2.1
  have hE := hP.1.1
  obtain ⟨e1, e2, e3, e4⟩ := id hE
  have hRw := hP.1.2.1
  obtain ⟨tr, t1, t2⟩ := hs.tr
  have hLg := hP.2.1.1
  have key : ∀ x, (ixOf (A.1 A.2.1).1.1 (A.1 A.2.1).1.2.1 x) = -1 → ¬ (0 ≤ x ∧ x ≤ plOf (A.1 A.2.1).1.1 (A.1 A.2.1).1.2.1 (A.1 A.2.1).1.2.1) := fun x q z => (ixOf_iff hE).mpr z q
  by_cases h1 : 0 ≤ a ∧ a < 4
  · by_cases h2 : (ixOf (A.1 A.2.1).1.1 (A.1 A.2.1).1.2.1 p) = -1
    · exact act_no h (wt_erase_0 (th0_erase_b hS hA t1 h1 h2)) (m_erase_1 hS hM hWB (fun y => key p h2 y.2.1)) (by decide)
    · have k2 := (ixOf_iff hE).mp h2
      by_cases h3 : (ixOf (A.1 A.2.1).1.1 (A.1 A.2.1).1.2.1 z) = -1
      · exact act_no h (wt_erase_0 (th0_erase_c hS hA t1 h1 h2 h3)) (m_erase_1 hS hM hWB (fun y => key z h3 y.2.2)) (by decide)
      · have k3 := (ixOf_iff hE).mp h3
        have hall : (0 ≤ a ∧ a ≤ 3) ∧ (0 ≤ p ∧ p ≤ plOf (A.1 A.2.1).1.1 (A.1 A.2.1).1.2.1 (A.1 A.2.1).1.2.1) ∧ (0 ≤ z ∧ z ≤ plOf (A.1 A.2.1).1.1 (A.1 A.2.1).1.2.1 (A.1 A.2.1).1.2.1) := ⟨by omega, k2, k3⟩
        by_cases h4 : p < z
        · obtain ⟨x0, x1, x2, x3, x4⟩ := part_ix hE k2.1 h4 k3.2
          have xx : (ixOf (A.1 A.2.1).1.1 (A.1 A.2.1).1.2.1 p) ≤ (ixOf (A.1 A.2.1).1.1 (A.1 A.2.1).1.2.1 (z - 1)) + 1 ∧ (ixOf (A.1 A.2.1).1.1 (A.1 A.2.1).1.2.1 (z - 1)) < (ixOf (A.1 A.2.1).1.1 (A.1 A.2.1).1.2.1 z) ∧ (ixOf (A.1 A.2.1).1.1 (A.1 A.2.1).1.2.1 z) ≤ (A.1 A.2.1).1.2.1 ∧ 0 ≤ (ixOf (A.1 A.2.1).1.1 (A.1 A.2.1).1.2.1 (z - 1)) := ⟨by omega, x2, x3, by omega⟩
          have hnd : ndM (A.1 A.2.1) a (ixOf (A.1 A.2.1).1.1 (A.1 A.2.1).1.2.1 p) (ixOf (A.1 A.2.1).1.1 (A.1 A.2.1).1.2.1 (z - 1)) = needD (A.1 A.2.1) a (ixOf (A.1 A.2.1).1.1 (A.1 A.2.1).1.2.1 p) (ixOf (A.1 A.2.1).1.1 (A.1 A.2.1).1.2.1 z) := need_eq xx x4
          have hgd := guard_part hE x0 (show (ixOf (A.1 A.2.1).1.1 (A.1 A.2.1).1.2.1 p) ≤ (ixOf (A.1 A.2.1).1.1 (A.1 A.2.1).1.2.1 z) by omega) x3
          by_cases h5 : tr = true ∧ 60 ≤ (A.1 A.2.1).2.1.1 ∧ needD (A.1 A.2.1) a (ixOf (A.1 A.2.1).1.1 (A.1 A.2.1).1.2.1 p) (ixOf (A.1 A.2.1).1.1 (A.1 A.2.1).1.2.1 z) = true
          · exact act_no h (wt_erase_2 (th2_erase hS hA t1 h1 h2 h3 h4 h5)) (m_erase_3 hS hM hWB t2 hall h4 ⟨⟨by rw [hnd]; exact h5.2.2, h5.1⟩, by omega⟩) (by decide)
          · have h6 : ¬ ((ndM (A.1 A.2.1) a (ixOf (A.1 A.2.1).1.1 (A.1 A.2.1).1.2.1 p) (ixOf (A.1 A.2.1).1.1 (A.1 A.2.1).1.2.1 (z - 1)) = true ∧ tr = true) ∧ (A.1 A.2.1).2.1.1 = 60) := fun y => h5 ⟨y.1.2, by omega, by rw [← hnd]; exact y.1.1⟩
            by_cases h8 : grdF (A.1 A.2.1).1.1 (A.1 A.2.1).1.2.1 (ixOf (A.1 A.2.1).1.1 (A.1 A.2.1).1.2.1 z) ((A.1 A.2.1).1.2.1 + 1 - (ixOf (A.1 A.2.1).1.1 (A.1 A.2.1).1.2.1 p)).toNat (ixOf (A.1 A.2.1).1.1 (A.1 A.2.1).1.2.1 p) = true
            · exact act_no h (wt_erase_3 (th3_erase hS hA t1 h1 h2 h3 h4 h5 h8)) (m_erase_4 hS hM hWB t2 hall h4 h6 (by rw [← hgd]; exact h8)) (by decide)
            · cases tr with
              | true =>
                obtain ⟨σ', pi', c1, c2⟩ := ok_erase_t hS hA t1 h1 h2 h3 h4 h5 h8
                refine act_ed0 h (wo_erase c1) c2 (fun τ q1 q2 q3 => ?_) (hI.beg (hP.strike h1 x0 x3 (by omega) (fun y => ?_)))
                · have k := m_erase q1 q2 hWB (tr := true) (by rw [q3 109 6 (by omega)]; exact t2) hall h4 h6 (by rw [← hgd]; exact h8)
                  rw [(erase_t xx x4).1, (erase_t xx x4).2] at k
                  exact k
                · have : ¬ 60 ≤ (A.1 A.2.1).2.1.1 := fun w => h5 ⟨rfl, w, y⟩
                  omega
              | false =>
                obtain ⟨σ', pi', c1, c2⟩ := ok_erase_f hS hA t1 h1 h2 h3 h4 h5 h8
                refine act_ed0 h (wo_erase c1) c2 (fun τ q1 q2 q3 => ?_) (hI.beg (hP.drops x0 x3 (by omega)))
                have k := m_erase q1 q2 hWB (tr := false) (by rw [q3 109 6 (by omega)]; exact t2) hall h4 h6 (by rw [← hgd]; exact h8)
                rw [(erase_f xx x4).1, (erase_f xx x4).2] at k
                exact k
        · exact act_no h (wt_erase_1 (th1_erase hS hA t1 h1 h2 h3 (by omega))) (m_erase_2 hS hM hWB hall (by omega)) (by decide)
  · exact act_no h (wt_erase_0 (th0_erase_a hS hA t1 h1)) (m_erase_1 hS hM hWB (fun y => h1 (by omega))) (by decide)
theorem st_setStyle (h : SimP σ pi A ns nf) {a p z : Int} : Act 6 4 mL_setStyle mX10_setStyle [vA 0, vI a, vI p, vI z, vA 133] [vA 109, vI a, vI p, vI z] σ := by
  obtain ⟨hS, hc, hA, hM, hI, hs⟩ := id h
  have hP := hI.now
  have h20 : nf ≤ 20 := hs.2.2.2.2.1.1.2.2.2
  have hWM := hP.wfM h20
  have hWB := hP.wfB h20
  have hN : RepN (cN σ) (A.1 A.2.1) := hM.2.2.2.1
  have hE := hP.1.1
  obtain ⟨e1, e2, e3, e4⟩ := id hE
  have hRw := hP.1.2.1
  obtain ⟨tr, t1, t2⟩ := hs.tr
  have hLg := hP.2.1.1
  obtain ⟨⟨g1, g2, g3, g4⟩, -⟩ := hs.2.1
  have h7 : 1 ≤ σ.1 109 7 ∧ σ.1 109 7 ≤ 8 := by omega
  by_cases h1 : 0 ≤ a ∧ a < 4
  · by_cases h2 : (ixEnd (A.1 A.2.1).1.1 (A.1 A.2.1).1.2.1 p) = -1
    · exact act_no h (wt_setStyle_0 (th0_setStyle_b hS hA t1 h1 h2)) (m_setStyle_1 hS hM hWB h7 (fun y => (ixEnd_iff hE).mpr y.2.1 h2)) (by decide)
    · have k2 := (ixEnd_iff hE).mp h2
      by_cases h3 : 0 ≤ z ∧ z < σ.1 83 3
      · have hall : (0 ≤ a ∧ a ≤ 3) ∧ (0 ≤ p ∧ p ≤ endsA (A.1 A.2.1).1.1 (A.1 A.2.1).1.2.1 (A.1 A.2.1).1.2.1) ∧ 0 ≤ z ∧ z ≤ σ.1 109 7 - 1 := ⟨by omega, k2, by omega, by omega⟩
        by_cases h4 : tr = true ∧ 60 ≤ (A.1 A.2.1).2.1.1 ∧ (A.1 A.2.1).1.1 4 (ixEnd (A.1 A.2.1).1.1 (A.1 A.2.1).1.2.1 p) = -1
        · exact act_no h (wt_setStyle_2 (th2_setStyle_d hS hA t1 h1 h2 h3 h4)) (m_setStyle_2 hS hM hWB h7 (by rw [t2, h4.1]; rfl) hall ⟨h4.2.2, by omega⟩) (by decide)
        · have h4b : ¬ (tr = true ∧ (A.1 A.2.1).1.1 4 (ixEnd (A.1 A.2.1).1.1 (A.1 A.2.1).1.2.1 p) = -1 ∧ (A.1 A.2.1).2.1.1 = 60) := fun y => h4 ⟨y.1, by omega, y.2.1⟩
          by_cases h8 : (A.1 A.2.1).1.1 10 (ixEnd (A.1 A.2.1).1.1 (A.1 A.2.1).1.2.1 p) = 1
          · exact act_no h (wt_setStyle_3 (th3_setStyle_e hS hA t1 h1 h2 h3 h4 h8)) (m_setStyle_3 hS hM hWB h7 t2 hall h4b h8) (by decide)
          · have ue := ixEnd_end hRw.1 h2
            have um := (hP.1.2.2.2.1 _ ue.1 ue.2.1).2.2.2.1
            cases tr with
            | true =>
              obtain ⟨σ', pi', c1, c2⟩ := ok_setStyle_t hS hA t1 h1 h2 h3 h4 h8
              refine act_ed0 h (wo_setStyle c1) c2 (fun τ q1 q2 q3 => m_setStyle_t q1 q2 hWB (by rw [q3 109 7 (by omega)]; omega) (by rw [q3 109 6 (by omega)]; exact t2) ⟨hall.1, hall.2.1, hall.2.2.1, by rw [q3 109 7 (by omega)]; exact hall.2.2.2⟩ (fun y => h4b ⟨rfl, y⟩) h8) (hI.beg (hP.rsty h1 ⟨ue.1, ue.2.1, ue.2.2.2⟩ (by omega) (fun y => ?_)))
              have : ¬ 60 ≤ (A.1 A.2.1).2.1.1 := fun w => h4 ⟨rfl, w, y⟩
              omega
            | false =>
              have um2 : (A.1 A.2.1).1.1 4 (ixEnd (A.1 A.2.1).1.1 (A.1 A.2.1).1.2.1 p) = -1 ∨ (0 ≤ (A.1 A.2.1).1.1 4 (ixEnd (A.1 A.2.1).1.1 (A.1 A.2.1).1.2.1 p) ∧ (A.1 A.2.1).1.1 4 (ixEnd (A.1 A.2.1).1.1 (A.1 A.2.1).1.2.1 p) < (A.1 A.2.1).2.1.1 ∧ (A.1 A.2.1).2.1.2.1 ((A.1 A.2.1).1.1 4 (ixEnd (A.1 A.2.1).1.1 (A.1 A.2.1).1.2.1 p)) = 115) := by
                rcases um with y | y
                · exact Or.inl y
                · exact Or.inr ⟨y.1, y.2.1, y.2.2.1⟩
              obtain ⟨σ', pi', c1, c2⟩ := ok_setStyle_f hS hA t1 h1 h2 h3 h8 um2
              refine act_ed0 h (wo_setStyle c1) c2 (fun τ q1 q2 q3 => ?_) (hI.beg (hP.rsto ⟨ue.1, ue.2.1⟩ (by omega)).1)
              have k := m_setStyle_f q1 q2 hWB (by rw [q3 109 7 (by omega)]; omega) (by rw [q3 109 6 (by omega)]; exact t2) (a := a) (p := p) (z := z) ⟨hall.1, hall.2.1, hall.2.2.1, by rw [q3 109 7 (by omega)]; exact hall.2.2.2⟩ h8 (by
                rcases um2 with y | y
                · exact Or.inl y
                · exact Or.inr ⟨y.1, y.2.1⟩)
              rw [(hP.rsto (z := z) ⟨ue.1, ue.2.1⟩ (by omega)).2] at k
              exact k
      · exact act_no h (wt_setStyle_0 (th0_setStyle_c hS hA t1 h1 h2 h3)) (m_setStyle_1 hS hM hWB h7 (fun y => h3 (by omega))) (by decide)
  · exact act_no h (wt_setStyle_0 (th0_setStyle_a hS hA t1 h1)) (m_setStyle_1 hS hM hWB h7 (fun y => h1 (by omega))) (by decide)
theorem sm5_field {σ τ : St} {d f : Int} (h : Sm5 nf σ) (hn : nf < 20) (hk : fkB d f) (c3 : τ.1 92 3 = nf + 1) (c4 : τ.1 109 13 = nf + 1) (c93 : ∀ j : Nat, τ.1 93 j = if j = nf.toNat then d else σ.1 93 j) (c94 : ∀ j : Nat, τ.1 94 j = if j = nf.toNat then f else σ.1 94 j) (c95 : ∀ j : Nat, τ.1 95 j = σ.1 95 j)
    (c118 : ∀ j : Nat, τ.1 118 j = if j = nf.toNat then d else σ.1 118 j) (c119 : ∀ j : Nat, τ.1 119 j = if j = nf.toNat then f else σ.1 119 j) (c120 : ∀ j : Nat, τ.1 120 j = if j = nf.toNat then 0 else σ.1 120 j) : Sm5 (nf + 1) τ := by
  obtain ⟨⟨a1, a2, a3, a4⟩, b, c, e⟩ := h
  have z : ∀ j : Nat, τ.1 120 j = σ.1 120 j := fun j => by
    rw [c120]
    split
    · exact (e j (by omega)).symm
    · rfl
  refine ⟨⟨c3, c4, by omega, by omega⟩, fun j => ?_, fun g g0 g1 => ?_, fun j hj => by rw [z]; exact e j (by omega)⟩
  · rw [c93, c94, c95, c118, c119, z]
    obtain ⟨b1, b2, b3, b4⟩ := b j
    refine ⟨?_, ?_, b3, b4⟩
    · split
      · rfl
      · exact b1
    · split
      · rfl
      · exact b2
  · rw [c118, c119]
    by_cases q : g.toNat = nf.toNat
    · rw [if_pos q, if_pos q]; exact hk
    · rw [if_neg q, if_neg q]; exact c g g0 (by omega)
theorem up_at {σ : St} {a j : Nat} {i z : Int} : (M1 σ a i z).1 a j = if j = i.toNat then z else σ.1 a j := by
  by_cases q : j = i.toNat
  · rw [if_pos q]; exact M1_eq q
  · rw [if_neg q]; exact M1_nj q
theorem st_addField (h : SimP σ pi A ns nf) {a p d f : Int} (hd : 0 ≤ d ∧ d < 65536) : Act 6 5 mL_addField mX10_addField [vA 0, vI a, vI p, vI d, vI f, vA 133] [vA 109, vI a, vI p, vI d, vI f] σ := by
  obtain ⟨hS, hc, hA, hM, hI, hs⟩ := id h
  have hP := hI.now
  have h20 : nf ≤ 20 := hs.2.2.2.2.1.1.2.2.2
  have hWM := hP.wfM h20
  have hWB := hP.wfB h20
  have hN : RepN (cN σ) (A.1 A.2.1) := hM.2.2.2.1
  have hE := hP.1.1
  obtain ⟨e1, e2, e3, e4⟩ := id hE
  have hRw := hP.1.2.1
  have hix := fun z => (@ixOf_le (A.1 A.2.1).1.1 (A.1 A.2.1).1.2.1 p hRw.1).resolve_left z
  obtain ⟨tr, t1, t2⟩ := hs.tr
  have hLg := hP.2.1.1
  obtain ⟨g1, g2, g3, g4⟩ := hs.2.2.2.2.1.1
  have h13 : 0 ≤ σ.1 109 13 ∧ σ.1 109 13 ≤ 20 := by omega
  have key : ∀ k : Int, k ≠ 0 → wfE (A.1 A.2.1) tr a p (decide (d = 99 ∨ (d = 114 ∧ 0 ≤ f ∧ f ≤ 2) ∨ ((d = 110 ∨ d = 112 ∨ d = 108) ∧ 0 ≤ f ∧ f ≤ 5))) (decide (σ.1 109 13 = 20)) = k → Con 5 mX10_addField 0 0 [vA 109, vI a, vI p, vI d, vI f] σ (vI 0, P1 σ 109 0 k) := fun k hk e => by
    have z := m_addField_no hS hM hWM h13 t2 (a := a) (p := p) (d := d) (o := f) (by rw [e]; exact hk)
    rw [e] at z
    exact z
  by_cases h1 : 0 ≤ a ∧ a < 4
  · by_cases h2 : (ixOf (A.1 A.2.1).1.1 (A.1 A.2.1).1.2.1 p) = -1
    · exact act_no h (wt_addField_0 (th0_addField_b hS hA t1 h1 h2)) (key 1 (by decide) (wf_1 hE (Or.inr h2))) (by decide)
    · by_cases h3 : (d = 99 ∨ (d = 114 ∧ 0 ≤ f ∧ f < 3) ∨ ((d = 108 ∨ d = 110 ∨ d = 112) ∧ 0 ≤ f ∧ f < 6))
      · have hm : (d = 99 ∨ (d = 114 ∧ 0 ≤ f ∧ f ≤ 2) ∨ ((d = 110 ∨ d = 112 ∨ d = 108) ∧ 0 ≤ f ∧ f ≤ 5)) := by omega
        by_cases h4 : 20 ≤ σ.1 92 3
        · exact act_no h (wt_addField_2 (th2_addField_d hS hA t1 h1 h2 h3 h4)) (key 3 (by decide) (by rw [decide_eq_true hm, decide_eq_true (show σ.1 109 13 = 20 by omega)]; exact wf_3 hE h1 h2)) (by decide)
        · have e := wf_cw (tr := tr) hE h1 h2 hLg.2
          rw [← decide_eq_true hm, ← decide_eq_false (show ¬ σ.1 109 13 = 20 by omega)] at e
          rcases @cw_v (A.1 A.2.1) tr a (ixOf (A.1 A.2.1).1.1 (A.1 A.2.1).1.2.1 p) with c | c | c
          · rw [c] at e
            obtain ⟨σ', pi', c1, c2⟩ := ok_addField hS hA t1 h1 h2 h3 h4 c (by omega)
            obtain ⟨w1, w2⟩ := cw_0 c
            rw [g1] at c1 c2
            refine act_ed (ns' := ns) (nf' := nf + 1) h (wo_addField c1) c2 rfl (fun x j q => ?_) (fun τ q1 q2 q3 => ?_) ((hI.mono (Int.le_add_one (Int.le_refl nf)) (Int.le_refl ns)).beg (hP.wr h1 (hix h2) w1 g3 w2 (Or.inr ⟨rfl, rfl, rfl⟩)))
            · unfold enF
              rw [P1_ne (by omega), M1_ne (by omega), M1_ne (by omega)]
            · have e13 : τ.1 109 13 = nf := by rw [q3 109 13 (by omega)]; exact g2
              have k := m_addField q1 q2 hWM (by rw [e13]; omega) hd (by rw [e13]; exact hP.2.2.2 nf (Int.le_refl _) (by omega)) (by rw [q3 109 6 (by omega)]; exact t2) (a := a) (p := p) (o := f) (by rw [e13, ← g2]; exact e)
              rw [e13] at k
              obtain ⟨τ', k1, k2, k3, k4⟩ := k
              have e13' : τ'.1 109 13 = nf := by rw [k3.2 109 13 (by omega)]; exact e13
              have en : ∀ x j : Nat, ¬ (x = 109 ∧ j = 13) → ¬ (118 ≤ x ∧ x ≤ 120) → (enM τ' d f).1 x j = τ'.1 x j := fun x j r1 r2 => by
                unfold enM
                rw [M1_ne (by omega), M1_ne (by omega), M1_ne (by omega)]
                by_cases q : x = 109
                · rw [q]; exact P1_nj (by omega)
                · exact P1_ne q
              refine ⟨τ', enM τ' d f, k1, k2, k3, k4, rfl, en, fun r1 r2 r3 => ?_⟩
              obtain ⟨s1, s2, s3, s4, s5, s6, s7⟩ := hs
              have hcl : ∀ x j : Nat, x < 109 → ¬ (1 ≤ x ∧ x ≤ 72) → (enM τ' d f).1 x j = (enF σ d f).1 x j := fun x j y1 y2 => by
                rw [r1 x j y1, M1_ne (by omega), c2.2.2.2 x (by omega)]
              have hcs : ∀ x j : Nat, x < 109 → ¬ (1 ≤ x ∧ x ≤ 72) → ¬ (92 ≤ x ∧ x ≤ 94) → (enM τ' d f).1 x j = σ.1 x j := fun x j y1 y2 y3 => by
                rw [hcl x j y1 y2]
                unfold enF
                rw [P1_ne (by omega), M1_ne (by omega), M1_ne (by omega)]
              have hms : ∀ x j : Nat, 113 ≤ x → x ≤ 122 → ¬ (118 ≤ x ∧ x ≤ 120) → (enM τ' d f).1 x j = σ.1 x j := fun x j y1 y2 y3 => by rw [en x j (by omega) y3, r2 x j ⟨y1, y2⟩]
              have h9 : ∀ j : Nat, j ≠ 0 → j ≠ 4 → j ≠ 5 → j ≠ 13 → (enM τ' d f).1 109 j = σ.1 109 j := fun j y1 y2 y3 y4 => by rw [en 109 j (by omega) (by omega), r3 j y1 y2 y3]
              have ha : ∀ x j : Nat, ((84 ≤ x ∧ x ≤ 91) ∨ x = 95 ∨ x = 97 ∨ (113 ≤ x ∧ x ≤ 117) ∨ x = 121 ∨ x = 122) → (enM τ' d f).1 x j = σ.1 x j := fun x j y => by
                by_cases y2 : x < 109
                · exact hcs x j y2 (by omega) (by omega)
                · exact hms x j (by omega) (by omega) (by omega)
              refine ⟨s1.fr (hcs _ _ (by decide) (by decide) (by decide)) (h9 _ (by decide) (by decide) (by decide) (by decide)), s2.fr (hcs _ _ (by decide) (by decide) (by decide)) (h9 _ (by decide) (by decide) (by decide) (by decide)) (fun x j y => ha x j (by omega)), s3.fr (fun x j y => ha x j (by omega)), s4.fr (hcs _ _ (by decide) (by decide) (by decide)) (h9 _ (by decide) (by decide) (by decide) (by decide)) (fun x j y => ha x j (by omega)), ?_, s6.fr (hcs _ _ (by decide) (by decide) (by decide)) (h9 _ (by decide) (by decide) (by decide) (by decide)) (fun x j y => ha x j (by omega)), s7.fr (hcs _ _ (by decide) (by decide) (by decide)) (hcs _ _ (by decide) (by decide) (by decide)) (h9 _ (by decide) (by decide) (by decide) (by decide)) (h9 _ (by decide) (by decide) (by decide) (by decide))⟩
              refine sm5_field s5 (by omega) (d := d) (f := f) (by unfold fkB; omega) ?_ ?_ (fun j => ?_) (fun j => ?_) (fun j => hcs 95 j (by decide) (by decide) (by decide)) (fun j => ?_) (fun j => ?_) (fun j => ?_)
              · rw [hcl 92 3 (by decide) (by decide)]; unfold enF; rw [P1_eq, g1]
              · unfold enM; rw [M1_ne (by decide), M1_ne (by decide), M1_ne (by decide), P1_eq, e13']
              · rw [hcl 93 j (by decide) (by decide)]; unfold enF; rw [P1_ne (by decide), M1_ne (by decide), up_at, g1]
              · rw [hcl 94 j (by decide) (by decide)]; unfold enF; rw [P1_ne (by decide), up_at, M1_ne (by decide), g1]
              · unfold enM; rw [M1_ne (by decide), M1_ne (by decide), up_at, P1_ne (by decide), r2 118 j (by decide), e13']
              · unfold enM; rw [M1_ne (by decide), up_at, M1_ne (by decide), P1_ne (by decide), r2 119 j (by decide), e13']
              · unfold enM; rw [up_at, M1_ne (by decide), M1_ne (by decide), P1_ne (by decide), r2 120 j (by decide), e13']
          · rw [c] at e
            exact act_no h (wt_addField_2 (th2_addField_e hS hA t1 h1 h2 h3 h4 c)) (key 3 (by decide) e) (by decide)
          · rw [c] at e
            exact act_no h (wt_addField_3 (th3_addField_f hS hA t1 h1 h2 h3 h4 c)) (key 4 (by decide) e) (by decide)
      · exact act_no h (wt_addField_1 (th1_addField_c hS hA t1 h1 h2 h3)) (key 2 (by decide) (by rw [decide_eq_false (show ¬ (d = 99 ∨ (d = 114 ∧ 0 ≤ f ∧ f ≤ 2) ∨ ((d = 110 ∨ d = 112 ∨ d = 108) ∧ 0 ≤ f ∧ f ≤ 5)) by omega)]; exact wf_2 hE h1 h2)) (by decide)
  · exact act_no h (wt_addField_0 (th0_addField_a hS hA t1 h1)) (key 1 (by decide) (wf_1 hE (Or.inl h1))) (by decide)
end Edits3
