/-! The reference: judging all, styles set, parts erased, fields written. -/
section Mod10
variable {σ : St}
def PJ (R : RowD) : Prop := RowW R ∧ R.1 2 R.2.1 = -1 ∧ R.1 3 R.2.1 = -1 ∧ ∀ i, 0 ≤ i → i ≤ R.2.1 → R.1 4 i ≠ -1 → R.1 0 i = 47
theorem PJ.s45 {R : RowD} {c u : Int} {acc : Bool} (h : PJ R) : PJ (jdgS c acc R u) := by
  obtain ⟨a, b, d, e⟩ := h
  have hn : (jdgS c acc R u).2 = R.2 := jdgS_n
  have hn1 : (jdgS c acc R u).2.1 = R.2.1 := by rw [hn]
  refine ⟨by unfold RowW; rw [hn]; exact a, by rw [hn1, jdgS_ne (by omega)]; exact b, by rw [hn1, jdgS_ne (by omega)]; exact d, fun i i0 i1 i2 => ?_⟩
  rw [hn1] at i1
  rw [jdgS_ne (by omega)]
  refine e i i0 i1 (fun q => i2 ?_)
  unfold jdgS
  split
  · by_cases hi : i = u
    · rw [hi]; exact if_pos ⟨rfl, rfl⟩
    · rw [setR_ne (by omega), setR_ne (by omega)]; exact q
  · exact q
theorem PJ.drp {R : RowD} {u : Int} (h : PJ R) (hu : 0 ≤ u ∧ u < R.2.1) : PJ (drpR R u) := by
  obtain ⟨a, b, d, e⟩ := h
  have ex : ∀ w i, (drpR R u).1 w i = if i < u then R.1 w i else R.1 w (i + 1) := fun _ _ => rfl
  have hn : (drpR R u).2.1 = R.2.1 - 1 := rfl
  refine ⟨a.drp hu, by rw [ex, hn, if_neg (by omega), show R.2.1 - 1 + 1 = R.2.1 by omega]; exact b, by rw [ex, hn, if_neg (by omega), show R.2.1 - 1 + 1 = R.2.1 by omega]; exact d, fun i i0 i1 i2 => ?_⟩
  rw [hn] at i1
  rw [ex] at i2 ⊢
  by_cases hi : i < u
  · rw [if_pos hi] at i2 ⊢; exact e i i0 (by omega) i2
  · rw [if_neg hi] at i2 ⊢; exact e (i + 1) (by omega) (by omega) i2
theorem PJ.s23 {R : RowD} {w u z : Int} (h : PJ R) (hw : w = 2 ∨ w = 3) (hz : z = -1 ∨ z = R.1 w u) : PJ (setR R w u z) := by
  obtain ⟨a, b, d, e⟩ := h
  refine ⟨a, ?_, ?_, fun i i0 i1 i2 => ?_⟩
  · show (if (2 : Int) = w ∧ R.2.1 = u then z else R.1 2 R.2.1) = -1
    split
    · rename_i q
      rcases hz with y | y
      · exact y
      · rw [y, ← q.1, ← q.2]; exact b
    · exact b
  · show (if (3 : Int) = w ∧ R.2.1 = u then z else R.1 3 R.2.1) = -1
    split
    · rename_i q
      rcases hz with y | y
      · exact y
      · rw [y, ← q.1, ← q.2]; exact d
    · exact d
  · rw [setR_ne (by omega)] at i2 ⊢; exact e i i0 i1 i2
theorem PJ.F {R : RowD} {c u : Int} {acc : Bool} (h : PJ R) (hc : 0 ≤ c) (hu : 0 ≤ u ∧ u ≤ R.2.1) : PJ (jdgF c acc R u) ∧ R.2.1 - 1 ≤ (jdgF c acc R u).2.1 := by
  have hn : (jdgS c acc R u).2 = R.2 := jdgS_n
  have hn1 : (jdgS c acc R u).2.1 = R.2.1 := by rw [hn]
  unfold jdgF
  split
  · rename_i q
    have un : u < R.2.1 := by
      rcases Int.lt_or_eq_of_le hu.2 with y | y
      · exact y
      · exfalso
        rw [y, h.2.1, h.2.2.1] at q
        omega
    refine ⟨h.s45.drp ⟨hu.1, by rw [hn1]; exact un⟩, ?_⟩
    show R.2.1 - 1 ≤ (jdgS c acc R u).2.1 - 1
    rw [hn1]; exact Int.le_refl _
  · refine ⟨(h.s45.s23 (Or.inl rfl) ?_).s23 (Or.inr rfl) ?_, ?_⟩
    · rw [jdgS_ne (by omega)]
      split
      · exact Or.inl rfl
      · exact Or.inr rfl
    · rw [setR_ne (by omega), jdgS_ne (by omega)]
      split
      · exact Or.inl rfl
      · exact Or.inr rfl
    · show R.2.1 - 1 ≤ (jdgS c acc R u).2.1
      rw [hn1]; omega
theorem PJ.dn {c : Int} {acc : Bool} (hc : 0 ≤ c) : ∀ (m : Nat) (R : RowD) (u : Int), PJ R → u + 1 = m → u ≤ R.2.1 → PJ (dnX (jdgF c acc) m u R) := by
  intro m
  induction m with
  | zero => intro R u h _ _; exact h
  | succ m ih =>
    intro R u h h1 h2
    rw [dnX]
    have := h.F (acc := acc) hc (u := u) ⟨by omega, h2⟩
    exact ih _ _ this.1 (by omega) (by omega)
theorem PJ.R {R : RowD} {c : Int} {acc : Bool} (h : PJ R) (hc : 0 ≤ c) : PJ (jdgR R c acc) := by
  have := h.1.1
  exact PJ.dn hc _ R R.2.1 h (by omega) (Int.le_refl _)
def jalF (a : Int) (acc : Bool) (E : PapD × Int) (c : Int) : PapD × Int := if E.1.2.1.2.2.2 c = 119 ∧ (a = -1 ∨ E.1.2.1.2.2.1 c = a) then (jdgD E.1 c acc, E.2 + 1) else E
def jalAll (D : PapD) (a : Int) (acc : Bool) : PapD × Int := upX (jalF a acc) D.2.1.1.toNat 0 (D, 0)
theorem m_judge_no (hS : Str σ.2.1) {A : PastD} (hM : PastM σ A) (hW : WfB (A.1 A.2.1)) {a : Int} {acc : Bool} (h : ¬ (a = -1 ∨ (0 ≤ a ∧ a ≤ 3))) : Con 3 mX10_judge 0 0 [vA 109, vI a, vI (bI (acc = true))] σ (vI 0, P1 σ 109 0 1) := by
  obtain ⟨hWm, hl2, h4⟩ := id hW
  obtain ⟨hE, hSg, hMk, hRw⟩ := id hWm
  obtain ⟨e1, e2, e3, e4⟩ := id hE
  have hN := hM.2.2.2.1
  obtain ⟨b1, b2, b3, b4⟩ := id hN.2.2.2
  have hl := hN.2.1.2
  have hcc : σ.1 110 (3011 : Int).toNat = (A.1 A.2.1).2.1.1 := hN.2.1.1
  refine con_of_go mfX10_judge.1 trivial (Nat.le_of_ble_eq_true rfl) rfl (by decide) ?_
  show Go _ _ _ _ 0 [vA _, vI _, vI _, vT 9 0, vT 9 0, vT 9 0, vT 9 0] [] _ _
  refine go_aload_n (at_of tX10_judge 0 0 rfl) rfl ?_
  refine go_iload_n (at_of tX10_judge 0 1 rfl) rfl ?_
  refine go_iconst (at_of tX10_judge 0 2 rfl) (by unfold in32; omega) ?_
  refine go_icmp_eq (tgt := 13) (at_of tX10_judge 0 3 rfl) (by decide) (fun h3 => ?_) (fun h3 => ?_)
  · exfalso; omega
  refine go_iload_n (at_of tX10_judge 0 4 rfl) rfl ?_
  refine go_cS (m_isAuthor) lk_X10_151 rfl (at_of tX10_judge 0 5 rfl) rfl (by decide) rfl (Nat.le_of_ble_eq_true rfl) rfl (by first | decide | exact ⟨Nat.zero_le _, Nat.zero_le _⟩) ?_
  refine go_if_eq (tgt := 17) (at_of tX10_judge 0 6 rfl) (by decide) (fun h10 => ?_) (fun h10 => ?_)
  rotate_left
  · exfalso; exact h (Or.inr (bI_1.mp h10))
  refine go_iconst (at_of tX10_judge 0 9 rfl) (by unfold in32; omega) ?_
  refine go_cV (m_goesOn) lk_X10_141 rfl G_109 (at_of tX10_judge 0 10 rfl) rfl (by decide) rfl (Nat.le_of_ble_eq_true rfl) rfl (by first | decide | exact ⟨Nat.zero_le _, Nat.zero_le _⟩) ?_
  refine go_if_ne (tgt := 26) (at_of tX10_judge 0 11 rfl) (by decide) (fun h21 => ?_) (fun h21 => ?_)
  · exfalso; exact h21 (bI_f (by decide))
  refine go_iconst (at_of tX10_judge 0 12 rfl) (by unfold in32; omega) ?_
  first | exact go_reti (at_of tX10_judge 0 13 rfl) rfl | exact go_reti (at_of tX10_judge 0 13 rfl) (le_i (by omega)) | exact go_reti (at_of tX10_judge 0 13 rfl) (le_i (by first | exact bI_t (by omega) | exact bI_f (by omega)))
theorem m_judge (hS : Str σ.2.1) {A : PastD} (hM : PastM σ A) (hW : WfB (A.1 A.2.1)) {a : Int} {acc : Bool} (h : a = -1 ∨ (0 ≤ a ∧ a ≤ 3)) : ∃ σ', Con 3 mX10_judge 0 0 [vA 109, vI a, vI (bI (acc = true))] σ (vI (jalAll (A.1 A.2.1) a acc).2, σ') ∧ PastM σ' (edA (begA A) (jalAll (A.1 A.2.1) a acc).1) ∧ FrE σ σ' ∧ σ'.1 109 0 = 0 := by
  obtain ⟨hWm, hl2, h4⟩ := id hW
  obtain ⟨hE, hSg, hMk, hRw⟩ := id hWm
  obtain ⟨e1, e2, e3, e4⟩ := id hE
  have hN := hM.2.2.2.1
  obtain ⟨b1, b2, b3, b4⟩ := id hN.2.2.2
  have hl := hN.2.1.2
  have hcc : σ.1 110 (3011 : Int).toNat = (A.1 A.2.1).2.1.1 := hN.2.1.1
  have hSt : Str (P1 σ 109 0 0).2.1 := hS
  have hMt : PastM (P1 σ 109 0 0) A := hM.th
  obtain ⟨σ1, x1, x2, x3, x4, x5⟩ := m_edits hSt hMt
  have hS1 : Str σ1.2.1 := by rw [x3.1]; exact hS
  have hN1 : RepN (cN σ1) (A.1 A.2.1) := by
    have := x2.2.2.2.1
    rw [cur_beg] at this; exact this
  have x50 : σ1.1 109 0 = 0 := x5.trans P1_eq
  have fin : ∀ {σ' : St} {D' : PapD}, FrN σ1 σ' → RepN (cN σ') D' → PastM σ' (edA (begA A) D') ∧ FrE σ σ' ∧ σ'.1 109 0 = 0 := fun {σ' D'} hF hD => ⟨hF.past x2 hD, (FrE.th.trans x3).trans hF.e, (hF.2 109 0 (by omega)).trans x50⟩
  have hPJ0 : PJ (A.1 A.2.1).1 := ⟨hRw, hl2, e3, h4⟩
  have key := loop_up (α := PapD × Int) (Rep := fun σ' E c => RepN (cN σ') E.1 ∧ FrN σ1 σ' ∧ PJ E.1.1 ∧ 0 ≤ c ∧ E.1.2.1.1 = (A.1 A.2.1).2.1.1 ∧ 0 ≤ E.2 ∧ E.2 ≤ c) (f := jalF a acc) (hi := (A.1 A.2.1).2.1.1)
    (G := fun b E c σ out => ∀ v5 v6, Go (fun _ => 0) 3 mX10_judge b 35 [vA 109, vI a, vI (bI (acc = true)), vI E.2, vI c, v5, v6] [] σ out) (fun σ E c hh hlo => ?_) ((A.1 A.2.1).2.1.1).toNat σ1 ((A.1 A.2.1), 0) 0 ⟨hN1, FrN.refl, hPJ0, by omega, rfl, Int.le_refl _, Int.le_refl _⟩ (by omega)
  · obtain ⟨σ2, ⟨q1, q2, q3, q4, q5, -⟩, q6⟩ := key
    refine ⟨σ2, ?_, fin q2 q1⟩
    have hS2 := q2.str hS1
    obtain ⟨r, hr⟩ : ∃ r, r = (jalAll (A.1 A.2.1) a acc).2 := ⟨_, rfl⟩
    have q6 : ∀ (b : Nat × Nat) (out : MV × St), (∀ b' v5 v6, Go (fun _ => 0) 3 mX10_judge b' 35 [vA 109, vI a, vI (bI (acc = true)), vI r, vI (A.1 A.2.1).2.1.1, v5, v6] [] σ2 out) → ∀ v5 v6, Go (fun _ => 0) 3 mX10_judge b 35 [vA 109, vI a, vI (bI (acc = true)), vI 0, vI 0, v5, v6] [] σ1 out := fun b out K => q6 b out (fun b' v5 v6 => by have := K b' v5 v6; rw [hr] at this; exact this)
    have ecc : σ2.1 110 (3011 : Int).toNat = (A.1 A.2.1).2.1.1 := q1.2.1.1.trans q5
    rw [← hr]
    by_cases ha : a = -1
    · skip
      refine con_of_go mfX10_judge.1 trivial (Nat.le_of_ble_eq_true rfl) rfl (by decide) ?_
      show Go _ _ _ _ 0 [vA _, vI _, vI _, vT 9 0, vT 9 0, vT 9 0, vT 9 0] [] _ _
      refine go_aload_n (at_of tX10_judge 0 0 rfl) rfl ?_
      refine go_iload_n (at_of tX10_judge 0 1 rfl) rfl ?_
      refine go_iconst (at_of tX10_judge 0 2 rfl) (by unfold in32; omega) ?_
      refine go_icmp_eq (tgt := 13) (at_of tX10_judge 0 3 rfl) (by decide) (fun h3 => ?_) (fun h3 => ?_)
      rotate_left
      · exfalso; omega
      refine go_iconst (at_of tX10_judge 0 7 rfl) (by unfold in32; omega) ?_
      refine go_goto (tgt := 18) (at_of tX10_judge 0 8 rfl) (by decide) ?_
      refine go_cV (m_goesOn) lk_X10_141 rfl G_109 (at_of tX10_judge 0 10 rfl) rfl (by decide) rfl (Nat.le_of_ble_eq_true rfl) rfl (by first | decide | exact ⟨Nat.zero_le _, Nat.zero_le _⟩) ?_
      refine go_if_ne (tgt := 26) (at_of tX10_judge 0 11 rfl) (by decide) (fun h21 => ?_) (fun h21 => ?_)
      rotate_left
      · exfalso; exact absurd h21 (by rw [bI_t rfl]; decide)
      refine go_aload_n (at_of tX10_judge 0 14 rfl) rfl ?_
      refine go_cV (x1) lk_X10_166 rfl G_109 (at_of tX10_judge 0 15 rfl) rfl (by decide) rfl (Nat.le_of_ble_eq_true rfl) rfl (by first | decide | exact ⟨Nat.zero_le _, Nat.zero_le _⟩) ?_
      refine go_iconst (at_of tX10_judge 1 0 rfl) (by unfold in32; omega) ?_
      refine go_istore_n (at_of tX10_judge 1 1 rfl) rfl rfl ?_
      refine go_iconst (at_of tX10_judge 1 2 rfl) (by unfold in32; omega) ?_
      refine go_istore (at_of tX10_judge 1 3 rfl) rfl rfl ?_
      refine q6 _ _ (fun b v5 v6 => ?_) _ _
      refine go_iload (at_of tX10_judge 1 4 rfl) rfl rfl ?_
      refine go_aload_n (at_of tX10_judge 1 5 rfl) rfl ?_
      refine go_getr (q := 110) fl_X10_7 rfl G_109 (by first | exact (hS _ _ rfl).trans rfl | exact (hS1 _ _ rfl).trans rfl | exact (hS2 _ _ rfl).trans rfl | exact (hS3 _ _ rfl).trans rfl | exact (hS4 _ _ rfl).trans rfl) (at_of tX10_judge 1 6 rfl) ?_
      refine go_sipush (at_of tX10_judge 1 7 rfl) (by decide) ?_
      refine go_iald G_110 (by omega) (by omega) (at_of tX10_judge 1 8 rfl) ?_
      rw [ecc]
      refine go_icmp_ge (tgt := 128) (at_of tX10_judge 1 9 rfl) (by decide) (fun h45 => ?_) (fun h45 => ?_)
      rotate_left
      · exfalso; omega
      refine go_iload_n (at_of tX10_judge 4 4 rfl) rfl ?_
      first | exact go_reti (at_of tX10_judge 4 5 rfl) rfl | exact go_reti (at_of tX10_judge 4 5 rfl) (le_i (by omega)) | exact go_reti (at_of tX10_judge 4 5 rfl) (le_i (by first | exact bI_t (by omega) | exact bI_f (by omega)))
    · skip
      refine con_of_go mfX10_judge.1 trivial (Nat.le_of_ble_eq_true rfl) rfl (by decide) ?_
      show Go _ _ _ _ 0 [vA _, vI _, vI _, vT 9 0, vT 9 0, vT 9 0, vT 9 0] [] _ _
      refine go_aload_n (at_of tX10_judge 0 0 rfl) rfl ?_
      refine go_iload_n (at_of tX10_judge 0 1 rfl) rfl ?_
      refine go_iconst (at_of tX10_judge 0 2 rfl) (by unfold in32; omega) ?_
      refine go_icmp_eq (tgt := 13) (at_of tX10_judge 0 3 rfl) (by decide) (fun h3 => ?_) (fun h3 => ?_)
      · exfalso; omega
      refine go_iload_n (at_of tX10_judge 0 4 rfl) rfl ?_
      refine go_cS (m_isAuthor) lk_X10_151 rfl (at_of tX10_judge 0 5 rfl) rfl (by decide) rfl (Nat.le_of_ble_eq_true rfl) rfl (by first | decide | exact ⟨Nat.zero_le _, Nat.zero_le _⟩) ?_
      refine go_if_eq (tgt := 17) (at_of tX10_judge 0 6 rfl) (by decide) (fun h10 => ?_) (fun h10 => ?_)
      · exfalso; exact bI_0.mp h10 (h.resolve_left ha)
      refine go_iconst (at_of tX10_judge 0 7 rfl) (by unfold in32; omega) ?_
      refine go_goto (tgt := 18) (at_of tX10_judge 0 8 rfl) (by decide) ?_
      refine go_cV (m_goesOn) lk_X10_141 rfl G_109 (at_of tX10_judge 0 10 rfl) rfl (by decide) rfl (Nat.le_of_ble_eq_true rfl) rfl (by first | decide | exact ⟨Nat.zero_le _, Nat.zero_le _⟩) ?_
      refine go_if_ne (tgt := 26) (at_of tX10_judge 0 11 rfl) (by decide) (fun h21 => ?_) (fun h21 => ?_)
      rotate_left
      · exfalso; exact absurd h21 (by rw [bI_t rfl]; decide)
      refine go_aload_n (at_of tX10_judge 0 14 rfl) rfl ?_
      refine go_cV (x1) lk_X10_166 rfl G_109 (at_of tX10_judge 0 15 rfl) rfl (by decide) rfl (Nat.le_of_ble_eq_true rfl) rfl (by first | decide | exact ⟨Nat.zero_le _, Nat.zero_le _⟩) ?_
      refine go_iconst (at_of tX10_judge 1 0 rfl) (by unfold in32; omega) ?_
      refine go_istore_n (at_of tX10_judge 1 1 rfl) rfl rfl ?_
      refine go_iconst (at_of tX10_judge 1 2 rfl) (by unfold in32; omega) ?_
      refine go_istore (at_of tX10_judge 1 3 rfl) rfl rfl ?_
      refine q6 _ _ (fun b v5 v6 => ?_) _ _
      refine go_iload (at_of tX10_judge 1 4 rfl) rfl rfl ?_
      refine go_aload_n (at_of tX10_judge 1 5 rfl) rfl ?_
      refine go_getr (q := 110) fl_X10_7 rfl G_109 (by first | exact (hS _ _ rfl).trans rfl | exact (hS1 _ _ rfl).trans rfl | exact (hS2 _ _ rfl).trans rfl | exact (hS3 _ _ rfl).trans rfl | exact (hS4 _ _ rfl).trans rfl) (at_of tX10_judge 1 6 rfl) ?_
      refine go_sipush (at_of tX10_judge 1 7 rfl) (by decide) ?_
      refine go_iald G_110 (by omega) (by omega) (at_of tX10_judge 1 8 rfl) ?_
      rw [ecc]
      refine go_icmp_ge (tgt := 128) (at_of tX10_judge 1 9 rfl) (by decide) (fun h45 => ?_) (fun h45 => ?_)
      rotate_left
      · exfalso; omega
      refine go_iload_n (at_of tX10_judge 4 4 rfl) rfl ?_
      first | exact go_reti (at_of tX10_judge 4 5 rfl) rfl | exact go_reti (at_of tX10_judge 4 5 rfl) (le_i (by omega)) | exact go_reti (at_of tX10_judge 4 5 rfl) (le_i (by first | exact bI_t (by omega) | exact bI_f (by omega)))
  · clear hN hM fin
    obtain ⟨hE_, hF, hPJ, hc0, hcn, hk0, hk1⟩ := hh
    have hS := hF.str hS1
    obtain ⟨y1, y2, y3, y4⟩ := id hE_.2.2.2
    have ecc : σ.1 110 (3011 : Int).toNat = E.1.2.1.1 := hE_.2.1.1
    have q := hE_.2.1.2 c hc0 (by omega)
    have est : σ.1 110 (3073 + c).toNat = E.1.2.1.2.2.2 c := q.2.1
    have eau : σ.1 110 (3013 + c).toNat = E.1.2.1.2.2.1 c := q.1
    by_cases hst : E.1.2.1.2.2.2 c = 119
    · by_cases hau : a = -1 ∨ E.1.2.1.2.2.1 c = a
      · have e9 : jalF a acc E c = (jdgD E.1 c acc, E.2 + 1) := if_pos ⟨hst, hau⟩
        rw [e9]
        obtain ⟨σ2, z1, z2, z3⟩ := m_judges hS hE_ hPJ.1 ⟨hPJ.2.1, hPJ.2.2.1⟩ hPJ.2.2.2 (c := c) (acc := acc) ⟨hc0, by omega⟩
        refine ⟨σ2, ⟨z2, hF.trans z3, hPJ.R hc0, by omega, hcn, by show 0 ≤ E.2 + 1; omega, by show E.2 + 1 ≤ c + 1; omega⟩, fun b out K v5 v6 => ?_⟩
        by_cases ha : a = -1
        · skip
          refine go_iload (at_of tX10_judge 1 4 rfl) rfl rfl ?_
          refine go_aload_n (at_of tX10_judge 1 5 rfl) rfl ?_
          refine go_getr (q := 110) fl_X10_7 rfl G_109 (by first | exact (hS _ _ rfl).trans rfl | exact (hS1 _ _ rfl).trans rfl | exact (hS2 _ _ rfl).trans rfl | exact (hS3 _ _ rfl).trans rfl | exact (hS4 _ _ rfl).trans rfl) (at_of tX10_judge 1 6 rfl) ?_
          refine go_sipush (at_of tX10_judge 1 7 rfl) (by decide) ?_
          refine go_iald G_110 (by omega) (by omega) (at_of tX10_judge 1 8 rfl) ?_
          rw [ecc]
          refine go_icmp_ge (tgt := 128) (at_of tX10_judge 1 9 rfl) (by decide) (fun h45 => ?_) (fun h45 => ?_)
          · exfalso; omega
          refine go_aload_n (at_of tX10_judge 1 10 rfl) rfl ?_
          refine go_getr (q := 110) fl_X10_7 rfl G_109 (by first | exact (hS _ _ rfl).trans rfl | exact (hS1 _ _ rfl).trans rfl | exact (hS2 _ _ rfl).trans rfl | exact (hS3 _ _ rfl).trans rfl | exact (hS4 _ _ rfl).trans rfl) (at_of tX10_judge 1 11 rfl) ?_
          refine go_sipush (at_of tX10_judge 1 12 rfl) (by decide) ?_
          refine go_iload (at_of tX10_judge 1 13 rfl) rfl rfl ?_
          refine go_iadd (at_of tX10_judge 1 14 rfl) (by unfold in32; omega) ?_
          refine go_iald G_110 (by omega) (by omega) (at_of tX10_judge 1 15 rfl) ?_
          refine go_bipush (at_of tX10_judge 2 0 rfl) (by decide) ?_
          refine go_icmp_ne (tgt := 88) (at_of tX10_judge 2 1 rfl) (by decide) (fun h61 => ?_) (fun h61 => ?_)
          · exfalso; omega
          refine go_iload_n (at_of tX10_judge 2 2 rfl) rfl ?_
          refine go_iconst (at_of tX10_judge 2 3 rfl) (by unfold in32; omega) ?_
          refine go_icmp_eq (tgt := 84) (at_of tX10_judge 2 4 rfl) (by decide) (fun h66 => ?_) (fun h66 => ?_)
          rotate_left
          · exfalso; omega
          refine go_iconst (at_of tX10_judge 2 13 rfl) (by unfold in32; omega) ?_
          refine go_goto (tgt := 89) (at_of tX10_judge 2 14 rfl) (by decide) ?_
          refine go_istore (at_of tX10_judge 3 0 rfl) rfl rfl ?_
          refine go_iload (at_of tX10_judge 3 1 rfl) rfl rfl ?_
          refine go_if_eq (tgt := 106) (at_of tX10_judge 3 2 rfl) (by decide) (fun h93 => ?_) (fun h93 => ?_)
          · exfalso; omega
          refine go_aload_n (at_of tX10_judge 3 3 rfl) rfl ?_
          refine go_iload (at_of tX10_judge 3 4 rfl) rfl rfl ?_
          refine go_iload_n (at_of tX10_judge 3 5 rfl) rfl ?_
          refine go_cV (z1) lk_X10_225 rfl G_109 (at_of tX10_judge 3 6 rfl) rfl (by decide) rfl (Nat.le_of_ble_eq_true rfl) rfl (by first | decide | exact ⟨Nat.zero_le _, Nat.zero_le _⟩) ?_
          refine go_goto (tgt := 107) (at_of tX10_judge 3 7 rfl) (by decide) ?_
          refine go_istore (at_of tX10_judge 3 9 rfl) rfl rfl ?_
          refine go_iload_n (at_of tX10_judge 3 10 rfl) rfl ?_
          refine go_iload (at_of tX10_judge 3 11 rfl) rfl rfl ?_
          refine go_if_eq (tgt := 119) (at_of tX10_judge 3 12 rfl) (by decide) (fun h112 => ?_) (fun h112 => ?_)
          · exfalso; omega
          refine go_iconst (at_of tX10_judge 3 13 rfl) (by unfold in32; omega) ?_
          refine go_goto (tgt := 120) (at_of tX10_judge 3 14 rfl) (by decide) ?_
          refine go_iadd (at_of tX10_judge 4 0 rfl) (by unfold in32; omega) ?_
          refine go_istore_n (at_of tX10_judge 4 1 rfl) rfl rfl ?_
          refine go_iinc (at_of tX10_judge 4 2 rfl) rfl (by unfold in32; omega) rfl rfl ?_
          refine go_goto (tgt := 35) (at_of tX10_judge 4 3 rfl) (by decide) ?_
          exact K _ _ _
        · have hau' := hau.resolve_left ha
          refine go_iload (at_of tX10_judge 1 4 rfl) rfl rfl ?_
          refine go_aload_n (at_of tX10_judge 1 5 rfl) rfl ?_
          refine go_getr (q := 110) fl_X10_7 rfl G_109 (by first | exact (hS _ _ rfl).trans rfl | exact (hS1 _ _ rfl).trans rfl | exact (hS2 _ _ rfl).trans rfl | exact (hS3 _ _ rfl).trans rfl | exact (hS4 _ _ rfl).trans rfl) (at_of tX10_judge 1 6 rfl) ?_
          refine go_sipush (at_of tX10_judge 1 7 rfl) (by decide) ?_
          refine go_iald G_110 (by omega) (by omega) (at_of tX10_judge 1 8 rfl) ?_
          rw [ecc]
          refine go_icmp_ge (tgt := 128) (at_of tX10_judge 1 9 rfl) (by decide) (fun h45 => ?_) (fun h45 => ?_)
          · exfalso; omega
          refine go_aload_n (at_of tX10_judge 1 10 rfl) rfl ?_
          refine go_getr (q := 110) fl_X10_7 rfl G_109 (by first | exact (hS _ _ rfl).trans rfl | exact (hS1 _ _ rfl).trans rfl | exact (hS2 _ _ rfl).trans rfl | exact (hS3 _ _ rfl).trans rfl | exact (hS4 _ _ rfl).trans rfl) (at_of tX10_judge 1 11 rfl) ?_
          refine go_sipush (at_of tX10_judge 1 12 rfl) (by decide) ?_
          refine go_iload (at_of tX10_judge 1 13 rfl) rfl rfl ?_
          refine go_iadd (at_of tX10_judge 1 14 rfl) (by unfold in32; omega) ?_
          refine go_iald G_110 (by omega) (by omega) (at_of tX10_judge 1 15 rfl) ?_
          refine go_bipush (at_of tX10_judge 2 0 rfl) (by decide) ?_
          refine go_icmp_ne (tgt := 88) (at_of tX10_judge 2 1 rfl) (by decide) (fun h61 => ?_) (fun h61 => ?_)
          · exfalso; omega
          refine go_iload_n (at_of tX10_judge 2 2 rfl) rfl ?_
          refine go_iconst (at_of tX10_judge 2 3 rfl) (by unfold in32; omega) ?_
          refine go_icmp_eq (tgt := 84) (at_of tX10_judge 2 4 rfl) (by decide) (fun h66 => ?_) (fun h66 => ?_)
          · exfalso; omega
          refine go_aload_n (at_of tX10_judge 2 5 rfl) rfl ?_
          refine go_getr (q := 110) fl_X10_7 rfl G_109 (by first | exact (hS _ _ rfl).trans rfl | exact (hS1 _ _ rfl).trans rfl | exact (hS2 _ _ rfl).trans rfl | exact (hS3 _ _ rfl).trans rfl | exact (hS4 _ _ rfl).trans rfl) (at_of tX10_judge 2 6 rfl) ?_
          refine go_sipush (at_of tX10_judge 2 7 rfl) (by decide) ?_
          refine go_iload (at_of tX10_judge 2 8 rfl) rfl rfl ?_
          refine go_iadd (at_of tX10_judge 2 9 rfl) (by unfold in32; omega) ?_
          refine go_iald G_110 (by omega) (by omega) (at_of tX10_judge 2 10 rfl) ?_
          refine go_iload_n (at_of tX10_judge 2 11 rfl) rfl ?_
          refine go_icmp_ne (tgt := 88) (at_of tX10_judge 2 12 rfl) (by decide) (fun h81 => ?_) (fun h81 => ?_)
          · exfalso; omega
          refine go_iconst (at_of tX10_judge 2 13 rfl) (by unfold in32; omega) ?_
          refine go_goto (tgt := 89) (at_of tX10_judge 2 14 rfl) (by decide) ?_
          refine go_istore (at_of tX10_judge 3 0 rfl) rfl rfl ?_
          refine go_iload (at_of tX10_judge 3 1 rfl) rfl rfl ?_
          refine go_if_eq (tgt := 106) (at_of tX10_judge 3 2 rfl) (by decide) (fun h93 => ?_) (fun h93 => ?_)
          · exfalso; omega
          refine go_aload_n (at_of tX10_judge 3 3 rfl) rfl ?_
          refine go_iload (at_of tX10_judge 3 4 rfl) rfl rfl ?_
          refine go_iload_n (at_of tX10_judge 3 5 rfl) rfl ?_
          refine go_cV (z1) lk_X10_225 rfl G_109 (at_of tX10_judge 3 6 rfl) rfl (by decide) rfl (Nat.le_of_ble_eq_true rfl) rfl (by first | decide | exact ⟨Nat.zero_le _, Nat.zero_le _⟩) ?_
          refine go_goto (tgt := 107) (at_of tX10_judge 3 7 rfl) (by decide) ?_
          refine go_istore (at_of tX10_judge 3 9 rfl) rfl rfl ?_
          refine go_iload_n (at_of tX10_judge 3 10 rfl) rfl ?_
          refine go_iload (at_of tX10_judge 3 11 rfl) rfl rfl ?_
          refine go_if_eq (tgt := 119) (at_of tX10_judge 3 12 rfl) (by decide) (fun h112 => ?_) (fun h112 => ?_)
          · exfalso; omega
          refine go_iconst (at_of tX10_judge 3 13 rfl) (by unfold in32; omega) ?_
          refine go_goto (tgt := 120) (at_of tX10_judge 3 14 rfl) (by decide) ?_
          refine go_iadd (at_of tX10_judge 4 0 rfl) (by unfold in32; omega) ?_
          refine go_istore_n (at_of tX10_judge 4 1 rfl) rfl rfl ?_
          refine go_iinc (at_of tX10_judge 4 2 rfl) rfl (by unfold in32; omega) rfl rfl ?_
          refine go_goto (tgt := 35) (at_of tX10_judge 4 3 rfl) (by decide) ?_
          exact K _ _ _
      · have e9 : jalF a acc E c = E := if_neg (fun q => hau q.2)
        rw [e9]
        refine ⟨σ, ⟨hE_, hF, hPJ, by omega, hcn, hk0, by omega⟩, fun b out K v5 v6 => ?_⟩
        refine go_iload (at_of tX10_judge 1 4 rfl) rfl rfl ?_
        refine go_aload_n (at_of tX10_judge 1 5 rfl) rfl ?_
        refine go_getr (q := 110) fl_X10_7 rfl G_109 (by first | exact (hS _ _ rfl).trans rfl | exact (hS1 _ _ rfl).trans rfl | exact (hS2 _ _ rfl).trans rfl | exact (hS3 _ _ rfl).trans rfl | exact (hS4 _ _ rfl).trans rfl) (at_of tX10_judge 1 6 rfl) ?_
        refine go_sipush (at_of tX10_judge 1 7 rfl) (by decide) ?_
        refine go_iald G_110 (by omega) (by omega) (at_of tX10_judge 1 8 rfl) ?_
        rw [ecc]
        refine go_icmp_ge (tgt := 128) (at_of tX10_judge 1 9 rfl) (by decide) (fun h45 => ?_) (fun h45 => ?_)
        · exfalso; omega
        refine go_aload_n (at_of tX10_judge 1 10 rfl) rfl ?_
        refine go_getr (q := 110) fl_X10_7 rfl G_109 (by first | exact (hS _ _ rfl).trans rfl | exact (hS1 _ _ rfl).trans rfl | exact (hS2 _ _ rfl).trans rfl | exact (hS3 _ _ rfl).trans rfl | exact (hS4 _ _ rfl).trans rfl) (at_of tX10_judge 1 11 rfl) ?_
        refine go_sipush (at_of tX10_judge 1 12 rfl) (by decide) ?_
        refine go_iload (at_of tX10_judge 1 13 rfl) rfl rfl ?_
        refine go_iadd (at_of tX10_judge 1 14 rfl) (by unfold in32; omega) ?_
        refine go_iald G_110 (by omega) (by omega) (at_of tX10_judge 1 15 rfl) ?_
        refine go_bipush (at_of tX10_judge 2 0 rfl) (by decide) ?_
        refine go_icmp_ne (tgt := 88) (at_of tX10_judge 2 1 rfl) (by decide) (fun h61 => ?_) (fun h61 => ?_)
        · exfalso; omega
        refine go_iload_n (at_of tX10_judge 2 2 rfl) rfl ?_
        refine go_iconst (at_of tX10_judge 2 3 rfl) (by unfold in32; omega) ?_
        refine go_icmp_eq (tgt := 84) (at_of tX10_judge 2 4 rfl) (by decide) (fun h66 => ?_) (fun h66 => ?_)
        · exfalso; omega
        refine go_aload_n (at_of tX10_judge 2 5 rfl) rfl ?_
        refine go_getr (q := 110) fl_X10_7 rfl G_109 (by first | exact (hS _ _ rfl).trans rfl | exact (hS1 _ _ rfl).trans rfl | exact (hS2 _ _ rfl).trans rfl | exact (hS3 _ _ rfl).trans rfl | exact (hS4 _ _ rfl).trans rfl) (at_of tX10_judge 2 6 rfl) ?_
        refine go_sipush (at_of tX10_judge 2 7 rfl) (by decide) ?_
        refine go_iload (at_of tX10_judge 2 8 rfl) rfl rfl ?_
        refine go_iadd (at_of tX10_judge 2 9 rfl) (by unfold in32; omega) ?_
        refine go_iald G_110 (by omega) (by omega) (at_of tX10_judge 2 10 rfl) ?_
        refine go_iload_n (at_of tX10_judge 2 11 rfl) rfl ?_
        refine go_icmp_ne (tgt := 88) (at_of tX10_judge 2 12 rfl) (by decide) (fun h81 => ?_) (fun h81 => ?_)
        rotate_left
        · exfalso; omega
        refine go_iconst (at_of tX10_judge 2 15 rfl) (by unfold in32; omega) ?_
        refine go_istore (at_of tX10_judge 3 0 rfl) rfl rfl ?_
        refine go_iload (at_of tX10_judge 3 1 rfl) rfl rfl ?_
        refine go_if_eq (tgt := 106) (at_of tX10_judge 3 2 rfl) (by decide) (fun h93 => ?_) (fun h93 => ?_)
        rotate_left
        · exfalso; omega
        refine go_iconst (at_of tX10_judge 3 8 rfl) (by unfold in32; omega) ?_
        refine go_istore (at_of tX10_judge 3 9 rfl) rfl rfl ?_
        refine go_iload_n (at_of tX10_judge 3 10 rfl) rfl ?_
        refine go_iload (at_of tX10_judge 3 11 rfl) rfl rfl ?_
        refine go_if_eq (tgt := 119) (at_of tX10_judge 3 12 rfl) (by decide) (fun h112 => ?_) (fun h112 => ?_)
        rotate_left
        · exfalso; omega
        refine go_iconst (at_of tX10_judge 3 15 rfl) (by unfold in32; omega) ?_
        refine go_iadd (at_of tX10_judge 4 0 rfl) (by unfold in32; omega) ?_
        refine go_istore_n (at_of tX10_judge 4 1 rfl) rfl rfl ?_
        refine go_iinc (at_of tX10_judge 4 2 rfl) rfl (by unfold in32; omega) rfl rfl ?_
        refine go_goto (tgt := 35) (at_of tX10_judge 4 3 rfl) (by decide) ?_
        rw [show E.2 + 0 = E.2 from Int.add_zero _]
        exact K _ _ _
    · have e9 : jalF a acc E c = E := if_neg (fun q => hst q.1)
      rw [e9]
      refine ⟨σ, ⟨hE_, hF, hPJ, by omega, hcn, hk0, by omega⟩, fun b out K v5 v6 => ?_⟩
      refine go_iload (at_of tX10_judge 1 4 rfl) rfl rfl ?_
      refine go_aload_n (at_of tX10_judge 1 5 rfl) rfl ?_
      refine go_getr (q := 110) fl_X10_7 rfl G_109 (by first | exact (hS _ _ rfl).trans rfl | exact (hS1 _ _ rfl).trans rfl | exact (hS2 _ _ rfl).trans rfl | exact (hS3 _ _ rfl).trans rfl | exact (hS4 _ _ rfl).trans rfl) (at_of tX10_judge 1 6 rfl) ?_
      refine go_sipush (at_of tX10_judge 1 7 rfl) (by decide) ?_
      refine go_iald G_110 (by omega) (by omega) (at_of tX10_judge 1 8 rfl) ?_
      rw [ecc]
      refine go_icmp_ge (tgt := 128) (at_of tX10_judge 1 9 rfl) (by decide) (fun h45 => ?_) (fun h45 => ?_)
      · exfalso; omega
      refine go_aload_n (at_of tX10_judge 1 10 rfl) rfl ?_
      refine go_getr (q := 110) fl_X10_7 rfl G_109 (by first | exact (hS _ _ rfl).trans rfl | exact (hS1 _ _ rfl).trans rfl | exact (hS2 _ _ rfl).trans rfl | exact (hS3 _ _ rfl).trans rfl | exact (hS4 _ _ rfl).trans rfl) (at_of tX10_judge 1 11 rfl) ?_
      refine go_sipush (at_of tX10_judge 1 12 rfl) (by decide) ?_
      refine go_iload (at_of tX10_judge 1 13 rfl) rfl rfl ?_
      refine go_iadd (at_of tX10_judge 1 14 rfl) (by unfold in32; omega) ?_
      refine go_iald G_110 (by omega) (by omega) (at_of tX10_judge 1 15 rfl) ?_
      refine go_bipush (at_of tX10_judge 2 0 rfl) (by decide) ?_
      refine go_icmp_ne (tgt := 88) (at_of tX10_judge 2 1 rfl) (by decide) (fun h61 => ?_) (fun h61 => ?_)
      rotate_left
      · exfalso; omega
      refine go_iconst (at_of tX10_judge 2 15 rfl) (by unfold in32; omega) ?_
      refine go_istore (at_of tX10_judge 3 0 rfl) rfl rfl ?_
      refine go_iload (at_of tX10_judge 3 1 rfl) rfl rfl ?_
      refine go_if_eq (tgt := 106) (at_of tX10_judge 3 2 rfl) (by decide) (fun h93 => ?_) (fun h93 => ?_)
      rotate_left
      · exfalso; omega
      refine go_iconst (at_of tX10_judge 3 8 rfl) (by unfold in32; omega) ?_
      refine go_istore (at_of tX10_judge 3 9 rfl) rfl rfl ?_
      refine go_iload_n (at_of tX10_judge 3 10 rfl) rfl ?_
      refine go_iload (at_of tX10_judge 3 11 rfl) rfl rfl ?_
      refine go_if_eq (tgt := 119) (at_of tX10_judge 3 12 rfl) (by decide) (fun h112 => ?_) (fun h112 => ?_)
      rotate_left
      · exfalso; omega
      refine go_iconst (at_of tX10_judge 3 15 rfl) (by unfold in32; omega) ?_
      refine go_iadd (at_of tX10_judge 4 0 rfl) (by unfold in32; omega) ?_
      refine go_istore_n (at_of tX10_judge 4 1 rfl) rfl rfl ?_
      refine go_iinc (at_of tX10_judge 4 2 rfl) rfl (by unfold in32; omega) rfl rfl ?_
      refine go_goto (tgt := 35) (at_of tX10_judge 4 3 rfl) (by decide) ?_
      rw [show E.2 + 0 = E.2 from Int.add_zero _]
      exact K _ _ _
end Mod10
