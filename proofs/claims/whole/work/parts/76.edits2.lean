/-! Both sides edit. -/
section Edits2
variable {σ : St} {ns nf : Int} {pi : Nat → Nat} {A : PastD} {D : PapD} {tr fine full : Bool} {a p : Int}
theorem wf_1 (hE : LastE D.1) (h : ¬ (0 ≤ a ∧ a < 4) ∨ ixOf D.1.1 D.1.2.1 p = -1) : wfE D tr a p fine full = 1 := by
  unfold wfE
  rw [if_pos]
  intro z
  rcases h with h | h
  · omega
  · exact (ixOf_iff hE).mpr z.2 h
theorem wf_2 (hE : LastE D.1) (h1 : 0 ≤ a ∧ a < 4) (h2 : ixOf D.1.1 D.1.2.1 p ≠ -1) : wfE D tr a p false full = 2 := by
  have k := (ixOf_iff hE).mp h2
  unfold wfE
  rw [if_neg (by omega), if_pos rfl]
theorem wf_3 (hE : LastE D.1) (h1 : 0 ≤ a ∧ a < 4) (h2 : ixOf D.1.1 D.1.2.1 p ≠ -1) : wfE D tr a p true true = 3 := by
  have k := (ixOf_iff hE).mp h2
  unfold wfE
  rw [if_neg (by omega), if_neg (by decide), if_pos (Or.inl rfl)]
theorem wf_cw (hE : LastE D.1) (h1 : 0 ≤ a ∧ a < 4) (h2 : ixOf D.1.1 D.1.2.1 p ≠ -1) (hL : D.2.1.1 ≤ 60) : wfE D tr a p true false = (cwE D tr a (ixOf D.1.1 D.1.2.1 p) : Int) := by
  have k := (ixOf_iff hE).mp h2
  have e := hE.2.1
  unfold wfE cwE
  rw [if_neg (by omega), if_neg (by decide)]
  by_cases q : 200 ≤ D.1.2.1 ∨ (tr = true ∧ 60 ≤ D.2.1.1 ∧ chAhD D a (ixOf D.1.1 D.1.2.1 p) = -1)
  · rw [if_pos q, if_pos]
    · rfl
    · rcases q with q | ⟨q1, q2, q3⟩
      · exact Or.inr (Or.inl (by omega))
      · exact Or.inr (Or.inr ⟨q1, q3, by omega⟩)
  · rw [if_neg q, if_neg]
    · split <;> rfl
    · intro z
      rcases z with z | z | ⟨z1, z2, z3⟩
      · exact absurd z (by decide)
      · exact q (Or.inl (by omega))
      · exact q (Or.inr ⟨z1, by omega, z2⟩)
theorem cw_v {i : Int} : cwE D tr a i = 0 ∨ cwE D tr a i = 3 ∨ cwE D tr a i = 4 := by
  unfold cwE
  split
  · exact Or.inr (Or.inl rfl)
  · split
    · exact Or.inr (Or.inr rfl)
    · exact Or.inl rfl
theorem cw_0 {i : Int} (h : cwE D tr a i = 0) : D.1.2.1 < 200 ∧ (tr = true → chAhD D a i = -1 → D.2.1.1 < 60) := by
  unfold cwE at h
  by_cases q : 200 ≤ D.1.2.1 ∨ (tr = true ∧ 60 ≤ D.2.1.1 ∧ chAhD D a i = -1)
  · rw [if_pos q] at h; cases h
  · refine ⟨by have : ¬ 200 ≤ D.1.2.1 := fun z => q (Or.inl z); omega, fun z1 z2 => ?_⟩
    have : ¬ 60 ≤ D.2.1.1 := fun z => q (Or.inr ⟨z1, z, z2⟩)
    omega
theorem lf_1 (hE : LastE D.1) (h : ixEnd D.1.1 D.1.2.1 p = -1) : lfE D p fine = 1 := by
  unfold lfE
  rw [if_pos]
  intro z
  exact (ixEnd_iff hE).mpr z h
theorem lf_2 (hE : LastE D.1) (h : ixEnd D.1.1 D.1.2.1 p ≠ -1) : lfE D p false = 2 := by
  have k := (ixEnd_iff hE).mp h
  unfold lfE
  rw [if_neg (fun z => z k), if_pos rfl]
theorem lf_3 (hE : LastE D.1) (h : ixEnd D.1.1 D.1.2.1 p ≠ -1) (h2 : D.1.1 10 (ixEnd D.1.1 D.1.2.1 p) = 1) : lfE D p true = 3 := by
  have k := (ixEnd_iff hE).mp h
  unfold lfE
  rw [if_neg (fun z => z k), if_neg (by decide), if_pos h2]
theorem lf_0 (hE : LastE D.1) (h : ixEnd D.1.1 D.1.2.1 p ≠ -1) (h2 : D.1.1 10 (ixEnd D.1.1 D.1.2.1 p) ≠ 1) : lfE D p true = 0 := by
  have k := (ixEnd_iff hE).mp h
  unfold lfE
  rw [if_neg (fun z => z k), if_neg (by decide), if_neg h2]
theorem st_insert (h : SimP σ pi A ns nf) {a p l : Int} : Act 6 5 mL_insert mX10_insert [vA 0, vI a, vI p, vI l, vA 133] [vA 109, vI a, vI p, vI l] σ := by
  obtain ⟨hS, hc, hA, hM, hI, hs⟩ := id h
  have hP := hI.now
  have h20 : nf ≤ 20 := hs.2.2.2.2.1.1.2.2.2
  have hWM := hP.wfM h20
  have hWB := hP.wfB h20
  have hN : RepN (cN σ) (A.1 A.2.1) := hM.2.2.2.1
  have hE := hP.1.1
  obtain ⟨e1, e2, e3, e4⟩ := id hE
  have hRw := hP.1.2.1
  have hix := fun z => (@ixOf_le (A.1 A.2.1).1.1 (A.1 A.2.1).1.2.1 p hRw.1).resolve_left z
  obtain ⟨tr, t1, t2⟩ := hs.tr
  have hLg := hP.2.1.1
  have key : ∀ k : Int, k ≠ 0 → wfE (A.1 A.2.1) tr a p (decide (97 ≤ l ∧ l ≤ 122 ∨ l = 32 ∨ l = 47)) false = k → Con 5 mX10_insert 0 0 [vA 109, vI a, vI p, vI l] σ (vI 0, P1 σ 109 0 k) := fun k hk e => by
    have z := m_insert_no hS hM hWM t2 (a := a) (p := p) (l := l) (by rw [e]; exact hk)
    rw [e] at z
    exact z
  by_cases h1 : 0 ≤ a ∧ a < 4
  · by_cases h2 : (ixOf (A.1 A.2.1).1.1 (A.1 A.2.1).1.2.1 p) = -1
    · exact act_no h (wt_insert_0 (th0_insert_10 hS hA t1 h1 h2)) (key 1 (by decide) (wf_1 hE (Or.inr h2))) (by decide)
    · by_cases h3 : (97 ≤ l ∧ l ≤ 122 ∨ l = 32 ∨ l = 47)
      · have e := wf_cw (tr := tr) hE h1 h2 hLg.2
        rw [← decide_eq_true h3] at e
        rcases @cw_v (A.1 A.2.1) tr a (ixOf (A.1 A.2.1).1.1 (A.1 A.2.1).1.2.1 p) with c | c | c
        · rw [c] at e
          obtain ⟨σ', pi', c1, c2⟩ := ok_insert hS hA t1 h1 h2 h3 c
          obtain ⟨w1, w2⟩ := cw_0 c
          refine act_ed0 h (wo_insert c1) c2 (fun τ q1 q2 q3 => m_insert q1 q2 hWM (by rw [q3 109 6 (by omega)]; exact t2) e) (hI.beg (hP.wr h1 (hix h2) w1 hs.2.2.2.2.1.1.2.2.1 w2 (Or.inl ⟨rfl, rfl, ?_⟩)))
          omega
        · rw [c] at e
          exact act_no h (wt_insert_2 (th2_insert_30 hS hA t1 h1 h2 h3 c)) (key 3 (by decide) e) (by decide)
        · rw [c] at e
          exact act_no h (wt_insert_3 (th3_insert_31 hS hA t1 h1 h2 h3 c)) (key 4 (by decide) e) (by decide)
      · exact act_no h (wt_insert_1 (th1_insert_20 hS hA t1 h1 h2 h3)) (key 2 (by decide) (by rw [decide_eq_false h3]; exact wf_2 hE h1 h2)) (by decide)
  · exact act_no h (wt_insert_0 (th0_insert_0 hS hA t1 h1)) (key 1 (by decide) (wf_1 hE (Or.inl h1))) (by decide)
theorem st_accept (h : SimP σ pi A ns nf) {c : Int} : Act 5 4 mL_accept mX10_accept [vA 0, vI c, vA 133] [vA 109, vI c] σ := by
  obtain ⟨hS, hc, hA, hM, hI, hs⟩ := id h
  have hP := hI.now
  have h20 : nf ≤ 20 := hs.2.2.2.2.1.1.2.2.2
  have hWM := hP.wfM h20
  have hWB := hP.wfB h20
  have hN : RepN (cN σ) (A.1 A.2.1) := hM.2.2.2.1
  have hE := hP.1.1
  obtain ⟨e1, e2, e3, e4⟩ := id hE
  have hRw := hP.1.2.1
  by_cases h1 : 0 ≤ c ∧ c < (A.1 A.2.1).2.1.1
  · by_cases h2 : (A.1 A.2.1).2.1.2.2.2 c = 119
    · obtain ⟨σ', pi', c1, c2⟩ := ok_accept hS hA h1 h2
      refine act_ed0 h (wo_accept c1) c2 (fun τ q1 q2 q3 => ?_) (hI.beg (hP.setl h1))
      have k := m_accept q1 q2 hWB h1 h2
      rw [jdgD_eq hP h1] at k
      exact k
    · exact act_no h (wt_accept_2 (th2_accept_1 hS hA h1 h2)) (m_accept_2 hS hM hWB h1 h2) (by decide)
  · exact act_no h (wt_accept_0 (th0_accept_0 hS hA h1)) (m_accept_1 hS hM hWB h1) (by decide)
theorem st_refuse (h : SimP σ pi A ns nf) {c : Int} : Act 5 4 mL_refuse mX10_refuse [vA 0, vI c, vA 133] [vA 109, vI c] σ := by
  obtain ⟨hS, hc, hA, hM, hI, hs⟩ := id h
  have hP := hI.now
  have h20 : nf ≤ 20 := hs.2.2.2.2.1.1.2.2.2
  have hWM := hP.wfM h20
  have hWB := hP.wfB h20
  have hN : RepN (cN σ) (A.1 A.2.1) := hM.2.2.2.1
  have hE := hP.1.1
  obtain ⟨e1, e2, e3, e4⟩ := id hE
  have hRw := hP.1.2.1
  by_cases h1 : 0 ≤ c ∧ c < (A.1 A.2.1).2.1.1
  · by_cases h2 : (A.1 A.2.1).2.1.2.2.2 c = 119
    · obtain ⟨σ', pi', c1, c2⟩ := ok_refuse hS hA h1 h2
      refine act_ed0 h (wo_refuse c1) c2 (fun τ q1 q2 q3 => ?_) (hI.beg (hP.setl h1))
      have k := m_refuse q1 q2 hWB h1 h2
      rw [jdgD_eq hP h1] at k
      exact k
    · exact act_no h (wt_refuse_2 (th2_refuse_1 hS hA h1 h2)) (m_refuse_2 hS hM hWB h1 h2) (by decide)
  · exact act_no h (wt_refuse_0 (th0_refuse_0 hS hA h1)) (m_refuse_1 hS hM hWB h1) (by decide)
theorem st_judge (h : SimP σ pi A ns nf) {a : Int} {acc : Bool} : Act 6 3 mL_judge mX10_judge [vA 0, vI a, vI (bI (acc = true)), vA 133] [vA 109, vI a, vI (bI (acc = true))] σ := by
  obtain ⟨hS, hc, hA, hM, hI, hs⟩ := id h
  have hP := hI.now
  have h20 : nf ≤ 20 := hs.2.2.2.2.1.1.2.2.2
  have hWM := hP.wfM h20
  have hWB := hP.wfB h20
  have hN : RepN (cN σ) (A.1 A.2.1) := hM.2.2.2.1
  have hE := hP.1.1
  obtain ⟨e1, e2, e3, e4⟩ := id hE
  have hRw := hP.1.2.1
  by_cases h1 : a = -1 ∨ (0 ≤ a ∧ a < 4)
  · obtain ⟨σ', pi', c1, c2⟩ := ok_judge (acc := acc) hS hA h1
    refine act_ed0 h (wo_judge c1) c2 (fun τ q1 q2 q3 => ?_) (hI.beg (stl_all hP).2)
    have k := m_judge (acc := acc) q1 q2 hWB (a := a) (by omega)
    rw [(stl_all hP).1] at k
    exact k
  · exact act_no h (wt_judge_0 (th0_judge hS hA h1)) (m_judge_no hS hM hWB (by omega)) (by decide)
theorem st_protect (h : SimP σ pi A ns nf) {p : Int} {is : Bool} : Act 5 4 mL_protect mX10_protect [vA 0, vI p, vI (bI (is = true)), vA 133] [vA 109, vI p, vI (bI (is = true))] σ := by
  obtain ⟨hS, hc, hA, hM, hI, hs⟩ := id h
  have hP := hI.now
  have h20 : nf ≤ 20 := hs.2.2.2.2.1.1.2.2.2
  have hWM := hP.wfM h20
  have hWB := hP.wfB h20
  have hN : RepN (cN σ) (A.1 A.2.1) := hM.2.2.2.1
  have hE := hP.1.1
  obtain ⟨e1, e2, e3, e4⟩ := id hE
  have hRw := hP.1.2.1
  by_cases h2 : (ixEnd (A.1 A.2.1).1.1 (A.1 A.2.1).1.2.1 p) = -1
  · exact act_no h (wt_protect_0 (th0_protect hS hA h2)) (m_protect_no hS hM hWB (fun z => (ixEnd_iff hE).mpr z h2)) (by decide)
  · obtain ⟨σ', pi', c1, c2⟩ := ok_protect (is := is) hS hA h2
    exact act_ed0 h (wo_protect bI_01 c1) c2 (fun τ q1 q2 q3 => m_protect (is := is) q1 q2 hWB ((ixEnd_iff hE).mp h2)) (hI.beg (hP.fact (Or.inr (Or.inr (Or.inr (Or.inr rfl))))))
theorem st_setList (h : SimP σ pi A ns nf) {p l v : Int} : Act 5 5 mL_setList mX10_setList [vA 0, vI p, vI l, vI v, vA 133] [vA 109, vI p, vI l, vI v] σ := by
  obtain ⟨hS, hc, hA, hM, hI, hs⟩ := id h
  have hP := hI.now
  have h20 : nf ≤ 20 := hs.2.2.2.2.1.1.2.2.2
  have hWM := hP.wfM h20
  have hWB := hP.wfB h20
  have hN : RepN (cN σ) (A.1 A.2.1) := hM.2.2.2.1
  have hE := hP.1.1
  obtain ⟨e1, e2, e3, e4⟩ := id hE
  have hRw := hP.1.2.1
  have key : ∀ k : Int, k ≠ 0 → lfE (A.1 A.2.1) p (decide (l = -1 ∨ ((0 ≤ l ∧ l ≤ 2) ∧ 0 ≤ v ∧ v ≤ 2))) = k → Con 5 mX10_setList 0 0 [vA 109, vI p, vI l, vI v] σ (vI 0, P1 σ 109 0 k) := fun k hk e => by
    have y := m_setList_no hS hM hWB (p := p) (l := l) (v := v) (by rw [e]; exact hk)
    rw [e] at y
    exact y
  by_cases h2 : (ixEnd (A.1 A.2.1).1.1 (A.1 A.2.1).1.2.1 p) = -1
  · exact act_no h (wt_setList_0 (th0_setList hS hA h2)) (key 1 (by decide) (lf_1 hE h2)) (by decide)
  · by_cases h3 : (l = -1 ∨ (0 ≤ l ∧ l < 3 ∧ 0 ≤ v ∧ v < 3))
    · have hd : decide (l = -1 ∨ ((0 ≤ l ∧ l ≤ 2) ∧ 0 ≤ v ∧ v ≤ 2)) = true := decide_eq_true (by omega)
      by_cases h4 : (A.1 A.2.1).1.1 10 (ixEnd (A.1 A.2.1).1.1 (A.1 A.2.1).1.2.1 p) = 1
      · exact act_no h (wt_setList_3 (th3_setList hS hA h2 h3 h4)) (key 3 (by decide) (by rw [hd]; exact lf_3 hE h2 h4)) (by decide)
      · obtain ⟨σ', pi', c1, c2⟩ := ok_setList hS hA h2 h3 h4
        exact act_ed0 h (wo_setList c1) c2 (fun τ q1 q2 q3 => m_setList q1 q2 hWB (by rw [hd]; exact lf_0 hE h2 h4)) (hI.beg ((hP.fact (w := 7) (z := l) (e := (ixEnd (A.1 A.2.1).1.1 (A.1 A.2.1).1.2.1 p)) (Or.inr (Or.inl ⟨rfl, by omega, by omega⟩))).fact (w := 8) (Or.inr (Or.inr (Or.inl ⟨rfl, by split <;> omega, by split <;> omega⟩)))))
    · exact act_no h (wt_setList_1 (th1_setList hS hA h2 h3)) (key 2 (by decide) (by rw [decide_eq_false (by omega)]; exact lf_2 hE h2)) (by decide)
theorem st_restart (h : SimP σ pi A ns nf) {p z : Int} : Act 5 5 mL_restart mX10_restart [vA 0, vI p, vI z, vA 133] [vA 109, vI p, vI z] σ := by
  obtain ⟨hS, hc, hA, hM, hI, hs⟩ := id h
  have hP := hI.now
  have h20 : nf ≤ 20 := hs.2.2.2.2.1.1.2.2.2
  have hWM := hP.wfM h20
  have hWB := hP.wfB h20
  have hN : RepN (cN σ) (A.1 A.2.1) := hM.2.2.2.1
  have hE := hP.1.1
  obtain ⟨e1, e2, e3, e4⟩ := id hE
  have hRw := hP.1.2.1
  have key : ∀ k : Int, k ≠ 0 → lfE (A.1 A.2.1) p (decide (0 ≤ z ∧ z ≤ 99)) = k → Con 5 mX10_restart 0 0 [vA 109, vI p, vI z] σ (vI 0, P1 σ 109 0 k) := fun k hk e => by
    have y := m_restart_no hS hM hWB (p := p) (z := z) (by rw [e]; exact hk)
    rw [e] at y
    exact y
  by_cases h2 : (ixEnd (A.1 A.2.1).1.1 (A.1 A.2.1).1.2.1 p) = -1
  · exact act_no h (wt_restart_0 (th0_restart hS hA h2)) (key 1 (by decide) (lf_1 hE h2)) (by decide)
  · by_cases h3 : (0 ≤ z ∧ z ≤ 99)
    · have hd : decide (0 ≤ z ∧ z ≤ 99) = true := decide_eq_true (by omega)
      by_cases h4 : (A.1 A.2.1).1.1 10 (ixEnd (A.1 A.2.1).1.1 (A.1 A.2.1).1.2.1 p) = 1
      · exact act_no h (wt_restart_3 (th3_restart hS hA h2 h3 h4)) (key 3 (by decide) (by rw [hd]; exact lf_3 hE h2 h4)) (by decide)
      · obtain ⟨σ', pi', c1, c2⟩ := ok_restart hS hA h2 h3 h4
        exact act_ed0 h (wo_restart c1) c2 (fun τ q1 q2 q3 => m_restart q1 q2 hWB (by rw [hd]; exact lf_0 hE h2 h4)) (hI.beg (hP.fact (Or.inr (Or.inr (Or.inr (Or.inl ⟨rfl, h3⟩))))))
    · exact act_no h (wt_restart_1 (th1_restart hS hA h2 h3)) (key 2 (by decide) (by rw [decide_eq_false (by omega)]; exact lf_2 hE h2)) (by decide)
theorem st_setBookmark (h : SimP σ pi A ns nf) {b p z : Int} : Act 5 4 mL_setBookmark mX10_setBookmark [vA 0, vI b, vI p, vI z, vA 133] [vA 109, vI b, vI p, vI z] σ := by
  obtain ⟨hS, hc, hA, hM, hI, hs⟩ := id h
  have hP := hI.now
  have h20 : nf ≤ 20 := hs.2.2.2.2.1.1.2.2.2
  have hWM := hP.wfM h20
  have hWB := hP.wfB h20
  have hN : RepN (cN σ) (A.1 A.2.1) := hM.2.2.2.1
  have hE := hP.1.1
  obtain ⟨e1, e2, e3, e4⟩ := id hE
  have hRw := hP.1.2.1
  have key : ∀ x, (ixOf (A.1 A.2.1).1.1 (A.1 A.2.1).1.2.1 x) = -1 → ¬ (0 ≤ x ∧ x ≤ plOf (A.1 A.2.1).1.1 (A.1 A.2.1).1.2.1 (A.1 A.2.1).1.2.1) := fun x q z => (ixOf_iff hE).mpr z q
  by_cases h1 : 0 ≤ b ∧ b < 6
  · by_cases h2 : (ixOf (A.1 A.2.1).1.1 (A.1 A.2.1).1.2.1 p) = -1
    · exact act_no h (wt_setBookmark_0 (th0_setBookmark_b hS hA h1 h2)) (m_setBookmark_1 hS hM hWB (fun y => key p h2 y.2.1)) (by decide)
    · have k2 := (ixOf_iff hE).mp h2
      by_cases h3 : (ixOf (A.1 A.2.1).1.1 (A.1 A.2.1).1.2.1 z) = -1
      · exact act_no h (wt_setBookmark_0 (th0_setBookmark_c hS hA h1 h2 h3)) (m_setBookmark_1 hS hM hWB (fun y => key z h3 y.2.2)) (by decide)
      · have k3 := (ixOf_iff hE).mp h3
        have hall : (0 ≤ b ∧ b ≤ 5) ∧ (0 ≤ p ∧ p ≤ plOf (A.1 A.2.1).1.1 (A.1 A.2.1).1.2.1 (A.1 A.2.1).1.2.1) ∧ (0 ≤ z ∧ z ≤ plOf (A.1 A.2.1).1.1 (A.1 A.2.1).1.2.1 (A.1 A.2.1).1.2.1) := ⟨by omega, k2, k3⟩
        have b2 := @plOf_le (A.1 A.2.1).1.1 (A.1 A.2.1).1.2.1 (A.1 A.2.1).1.2.1
        by_cases h4 : p ≤ z
        · obtain ⟨σ', pi', c1, c2⟩ := ok_setBookmark hS hA h1 h2 h3 h4 (by omega)
          have i1 := (@ixOf_le (A.1 A.2.1).1.1 (A.1 A.2.1).1.2.1 p hRw.1).resolve_left h2
          have i2 := (@ixOf_le (A.1 A.2.1).1.1 (A.1 A.2.1).1.2.1 z hRw.1).resolve_left h3
          exact act_ed0 h (wo_setBookmark c1) c2 (fun τ q1 q2 q3 => m_setBookmark q1 q2 hWB hall h4) (hI.beg (hP.bmk (by omega) (by omega)))
        · exact act_no h (wt_setBookmark_1 (th1_setBookmark hS hA h1 h2 h3 (by omega))) (m_setBookmark_2 hS hM hWB hall (by omega)) (by decide)
  · exact act_no h (wt_setBookmark_0 (th0_setBookmark_a hS hA h1)) (m_setBookmark_1 hS hM hWB (fun y => h1 (by omega))) (by decide)
theorem st_undo (h : SimP σ pi A ns nf) : Act 2 1 mL_undo mX10_undo [vA 0, vA 133] [vA 109] σ := by
  obtain ⟨hS, hc, hA, hM, hI, hs⟩ := id h
  have hP := hI.now
  have h20 : nf ≤ 20 := hs.2.2.2.2.1.1.2.2.2
  have hWM := hP.wfM h20
  have hWB := hP.wfB h20
  have hN : RepN (cN σ) (A.1 A.2.1) := hM.2.2.2.1
  have hE := hP.1.1
  obtain ⟨e1, e2, e3, e4⟩ := id hE
  have hRw := hP.1.2.1
  by_cases q : 0 < A.2.1
  · obtain ⟨σ1, c1, c2, c3⟩ := ok_undo hS hA q
    refine act_g (A' := (A.1, A.2.1 - 1, A.2.2 + 1)) h (wo_undo c1) c3.1 (fun a j z => c3.2 a (by unfold kpC at z; omega) j) c2 (hI.undo q) (fun τ t2 t1 => ?_)
    obtain ⟨τ', k1, k2, k3, k4⟩ := m_undo (σ := τ) (by rw [t2]; exact hS) (hM.fr (fun a j z => t1 a j (by unfold kpC; omega) (by omega))) q
    exact ⟨τ', k1, k3.1, k4, k2, fun a j z => k3.2 a j (by unfold kpM at z; omega)⟩
  · have q0 : A.2.1 = 0 := by omega
    exact act_no h (wt_undo_4 (th4_undo hS hA q0)) (m_undo_no hS hM q0) (by decide)
theorem st_redo (h : SimP σ pi A ns nf) : Act 2 1 mL_redo mX10_redo [vA 0, vA 133] [vA 109] σ := by
  obtain ⟨hS, hc, hA, hM, hI, hs⟩ := id h
  have hP := hI.now
  have h20 : nf ≤ 20 := hs.2.2.2.2.1.1.2.2.2
  have hWM := hP.wfM h20
  have hWB := hP.wfB h20
  have hN : RepN (cN σ) (A.1 A.2.1) := hM.2.2.2.1
  have hE := hP.1.1
  obtain ⟨e1, e2, e3, e4⟩ := id hE
  have hRw := hP.1.2.1
  by_cases q : 0 < A.2.2
  · obtain ⟨σ1, c1, c2, c3⟩ := ok_redo hS hA q
    refine act_g (A' := (A.1, A.2.1 + 1, A.2.2 - 1)) h (wo_redo c1) c3.1 (fun a j z => c3.2 a (by unfold kpC at z; omega) j) c2 (hI.redo q) (fun τ t2 t1 => ?_)
    obtain ⟨τ', k1, k2, k3, k4⟩ := m_redo (σ := τ) (by rw [t2]; exact hS) (hM.fr (fun a j z => t1 a j (by unfold kpC; omega) (by omega))) q
    exact ⟨τ', k1, k3.1, k4, k2, fun a j z => k3.2 a j (by unfold kpM at z; omega)⟩
  · have q0 : A.2.2 = 0 := by omega
    exact act_no h (wt_redo_4 (th4_redo hS hA q0)) (m_redo_no hS hM q0) (by decide)
end Edits2
