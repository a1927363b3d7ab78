/-! Both sides set small things. -/
section Smalls
variable {σ τ : St} {ns nf : Int} {pi : Nat → Nat} {A : PastD}
theorem P1_off {a j a' j' : Nat} {z : Int} (h : ¬ (a' = a ∧ j' = j)) : (P1 σ a j z).1 a' j' = σ.1 a' j' := if_neg h
theorem Sml.b1 (h : Sml ns nf σ) (hF : ∀ a j, smB a j → ¬ ((a = 0 ∧ j = 0) ∨ (a = 109 ∧ j = 6)) → τ.1 a j = σ.1 a j) (hx : Sm1 τ) : Sml ns nf τ := by
  obtain ⟨h1, h2, h3, h4, h5, h6, h7⟩ := h
  have c : ∀ a j, (a, j) ∈ smL → ¬ ((a = 0 ∧ j = 0) ∨ (a = 109 ∧ j = 6)) → τ.1 a j = σ.1 a j := fun a j z => hF a j (Or.inr z)
  have q : ∀ a j, smA a → ¬ ((a = 0 ∧ j = 0) ∨ (a = 109 ∧ j = 6)) → τ.1 a j = σ.1 a j := fun a j z => hF a j (Or.inl z)
  unfold smA at q
  exact ⟨hx, h2.fr (c _ _ (by decide) (by decide)) (c _ _ (by decide) (by decide)) (fun a j z => q a j (by omega) (by omega)), h3.fr (fun a j z => q a j (by omega) (by omega)), h4.fr (c _ _ (by decide) (by decide)) (c _ _ (by decide) (by decide)) (fun a j z => q a j (by omega) (by omega)), h5.fr (c _ _ (by decide) (by decide)) (c _ _ (by decide) (by decide)) (fun a j z => q a j (by omega) (by omega)), h6.fr (c _ _ (by decide) (by decide)) (c _ _ (by decide) (by decide)) (fun a j z => q a j (by omega) (by omega)), h7.fr (c _ _ (by decide) (by decide)) (c _ _ (by decide) (by decide)) (c _ _ (by decide) (by decide)) (c _ _ (by decide) (by decide))⟩
theorem Sml.b2 {ns' : Int} (h : Sml ns nf σ) (hF : ∀ a j, smB a j → ¬ ((a = 83 ∧ j = 3) ∨ (a = 109 ∧ j = 7) ∨ (84 ≤ a ∧ a ≤ 86) ∨ (113 ≤ a ∧ a ≤ 115)) → τ.1 a j = σ.1 a j) (hx : Sm2 ns' τ) : Sml ns' nf τ := by
  obtain ⟨h1, h2, h3, h4, h5, h6, h7⟩ := h
  have c : ∀ a j, (a, j) ∈ smL → ¬ ((a = 83 ∧ j = 3) ∨ (a = 109 ∧ j = 7) ∨ (84 ≤ a ∧ a ≤ 86) ∨ (113 ≤ a ∧ a ≤ 115)) → τ.1 a j = σ.1 a j := fun a j z => hF a j (Or.inr z)
  have q : ∀ a j, smA a → ¬ ((a = 83 ∧ j = 3) ∨ (a = 109 ∧ j = 7) ∨ (84 ≤ a ∧ a ≤ 86) ∨ (113 ≤ a ∧ a ≤ 115)) → τ.1 a j = σ.1 a j := fun a j z => hF a j (Or.inl z)
  unfold smA at q
  exact ⟨h1.fr (c _ _ (by decide) (by decide)) (c _ _ (by decide) (by decide)), hx, h3.fr (fun a j z => q a j (by omega) (by omega)), h4.fr (c _ _ (by decide) (by decide)) (c _ _ (by decide) (by decide)) (fun a j z => q a j (by omega) (by omega)), h5.fr (c _ _ (by decide) (by decide)) (c _ _ (by decide) (by decide)) (fun a j z => q a j (by omega) (by omega)), h6.fr (c _ _ (by decide) (by decide)) (c _ _ (by decide) (by decide)) (fun a j z => q a j (by omega) (by omega)), h7.fr (c _ _ (by decide) (by decide)) (c _ _ (by decide) (by decide)) (c _ _ (by decide) (by decide)) (c _ _ (by decide) (by decide))⟩
theorem Sml.b3 (h : Sml ns nf σ) (hF : ∀ a j, smB a j → ¬ (a = 88 ∨ a = 89 ∨ a = 116 ∨ a = 117) → τ.1 a j = σ.1 a j) (hx : Sm3 τ) : Sml ns nf τ := by
  obtain ⟨h1, h2, h3, h4, h5, h6, h7⟩ := h
  have c : ∀ a j, (a, j) ∈ smL → ¬ (a = 88 ∨ a = 89 ∨ a = 116 ∨ a = 117) → τ.1 a j = σ.1 a j := fun a j z => hF a j (Or.inr z)
  have q : ∀ a j, smA a → ¬ (a = 88 ∨ a = 89 ∨ a = 116 ∨ a = 117) → τ.1 a j = σ.1 a j := fun a j z => hF a j (Or.inl z)
  unfold smA at q
  exact ⟨h1.fr (c _ _ (by decide) (by decide)) (c _ _ (by decide) (by decide)), h2.fr (c _ _ (by decide) (by decide)) (c _ _ (by decide) (by decide)) (fun a j z => q a j (by omega) (by omega)), hx, h4.fr (c _ _ (by decide) (by decide)) (c _ _ (by decide) (by decide)) (fun a j z => q a j (by omega) (by omega)), h5.fr (c _ _ (by decide) (by decide)) (c _ _ (by decide) (by decide)) (fun a j z => q a j (by omega) (by omega)), h6.fr (c _ _ (by decide) (by decide)) (c _ _ (by decide) (by decide)) (fun a j z => q a j (by omega) (by omega)), h7.fr (c _ _ (by decide) (by decide)) (c _ _ (by decide) (by decide)) (c _ _ (by decide) (by decide)) (c _ _ (by decide) (by decide))⟩
theorem Sml.b4 (h : Sml ns nf σ) (hF : ∀ a j, smB a j → ¬ ((a = 87 ∧ j = 4) ∨ (a = 109 ∧ j = 21) ∨ a = 91 ∨ a = 122) → τ.1 a j = σ.1 a j) (hx : Sm4 τ) : Sml ns nf τ := by
  obtain ⟨h1, h2, h3, h4, h5, h6, h7⟩ := h
  have c : ∀ a j, (a, j) ∈ smL → ¬ ((a = 87 ∧ j = 4) ∨ (a = 109 ∧ j = 21) ∨ a = 91 ∨ a = 122) → τ.1 a j = σ.1 a j := fun a j z => hF a j (Or.inr z)
  have q : ∀ a j, smA a → ¬ ((a = 87 ∧ j = 4) ∨ (a = 109 ∧ j = 21) ∨ a = 91 ∨ a = 122) → τ.1 a j = σ.1 a j := fun a j z => hF a j (Or.inl z)
  unfold smA at q
  exact ⟨h1.fr (c _ _ (by decide) (by decide)) (c _ _ (by decide) (by decide)), h2.fr (c _ _ (by decide) (by decide)) (c _ _ (by decide) (by decide)) (fun a j z => q a j (by omega) (by omega)), h3.fr (fun a j z => q a j (by omega) (by omega)), hx, h5.fr (c _ _ (by decide) (by decide)) (c _ _ (by decide) (by decide)) (fun a j z => q a j (by omega) (by omega)), h6.fr (c _ _ (by decide) (by decide)) (c _ _ (by decide) (by decide)) (fun a j z => q a j (by omega) (by omega)), h7.fr (c _ _ (by decide) (by decide)) (c _ _ (by decide) (by decide)) (c _ _ (by decide) (by decide)) (c _ _ (by decide) (by decide))⟩
theorem Sml.b5 (h : Sml ns nf σ) (hF : ∀ a j, smB a j → ¬ ((a = 92 ∧ j = 3) ∨ (a = 109 ∧ j = 13) ∨ (93 ≤ a ∧ a ≤ 95) ∨ (118 ≤ a ∧ a ≤ 120)) → τ.1 a j = σ.1 a j) (hx : Sm5 nf τ) : Sml ns nf τ := by
  obtain ⟨h1, h2, h3, h4, h5, h6, h7⟩ := h
  have c : ∀ a j, (a, j) ∈ smL → ¬ ((a = 92 ∧ j = 3) ∨ (a = 109 ∧ j = 13) ∨ (93 ≤ a ∧ a ≤ 95) ∨ (118 ≤ a ∧ a ≤ 120)) → τ.1 a j = σ.1 a j := fun a j z => hF a j (Or.inr z)
  have q : ∀ a j, smA a → ¬ ((a = 92 ∧ j = 3) ∨ (a = 109 ∧ j = 13) ∨ (93 ≤ a ∧ a ≤ 95) ∨ (118 ≤ a ∧ a ≤ 120)) → τ.1 a j = σ.1 a j := fun a j z => hF a j (Or.inl z)
  unfold smA at q
  exact ⟨h1.fr (c _ _ (by decide) (by decide)) (c _ _ (by decide) (by decide)), h2.fr (c _ _ (by decide) (by decide)) (c _ _ (by decide) (by decide)) (fun a j z => q a j (by omega) (by omega)), h3.fr (fun a j z => q a j (by omega) (by omega)), h4.fr (c _ _ (by decide) (by decide)) (c _ _ (by decide) (by decide)) (fun a j z => q a j (by omega) (by omega)), hx, h6.fr (c _ _ (by decide) (by decide)) (c _ _ (by decide) (by decide)) (fun a j z => q a j (by omega) (by omega)), h7.fr (c _ _ (by decide) (by decide)) (c _ _ (by decide) (by decide)) (c _ _ (by decide) (by decide)) (c _ _ (by decide) (by decide))⟩
theorem Sml.b6 (h : Sml ns nf σ) (hF : ∀ a j, smB a j → ¬ ((a = 96 ∧ j = 1) ∨ (a = 109 ∧ j = 18) ∨ a = 97 ∨ a = 121) → τ.1 a j = σ.1 a j) (hx : Sm6 τ) : Sml ns nf τ := by
  obtain ⟨h1, h2, h3, h4, h5, h6, h7⟩ := h
  have c : ∀ a j, (a, j) ∈ smL → ¬ ((a = 96 ∧ j = 1) ∨ (a = 109 ∧ j = 18) ∨ a = 97 ∨ a = 121) → τ.1 a j = σ.1 a j := fun a j z => hF a j (Or.inr z)
  have q : ∀ a j, smA a → ¬ ((a = 96 ∧ j = 1) ∨ (a = 109 ∧ j = 18) ∨ a = 97 ∨ a = 121) → τ.1 a j = σ.1 a j := fun a j z => hF a j (Or.inl z)
  unfold smA at q
  exact ⟨h1.fr (c _ _ (by decide) (by decide)) (c _ _ (by decide) (by decide)), h2.fr (c _ _ (by decide) (by decide)) (c _ _ (by decide) (by decide)) (fun a j z => q a j (by omega) (by omega)), h3.fr (fun a j z => q a j (by omega) (by omega)), h4.fr (c _ _ (by decide) (by decide)) (c _ _ (by decide) (by decide)) (fun a j z => q a j (by omega) (by omega)), h5.fr (c _ _ (by decide) (by decide)) (c _ _ (by decide) (by decide)) (fun a j z => q a j (by omega) (by omega)), hx, h7.fr (c _ _ (by decide) (by decide)) (c _ _ (by decide) (by decide)) (c _ _ (by decide) (by decide)) (c _ _ (by decide) (by decide))⟩
theorem Sml.b7 (h : Sml ns nf σ) (hF : ∀ a j, smB a j → ¬ ((a = 98 ∧ (j = 0 ∨ j = 1)) ∨ (a = 109 ∧ (j = 19 ∨ j = 20))) → τ.1 a j = σ.1 a j) (hx : Sm7 τ) : Sml ns nf τ := by
  obtain ⟨h1, h2, h3, h4, h5, h6, h7⟩ := h
  have c : ∀ a j, (a, j) ∈ smL → ¬ ((a = 98 ∧ (j = 0 ∨ j = 1)) ∨ (a = 109 ∧ (j = 19 ∨ j = 20))) → τ.1 a j = σ.1 a j := fun a j z => hF a j (Or.inr z)
  have q : ∀ a j, smA a → ¬ ((a = 98 ∧ (j = 0 ∨ j = 1)) ∨ (a = 109 ∧ (j = 19 ∨ j = 20))) → τ.1 a j = σ.1 a j := fun a j z => hF a j (Or.inl z)
  unfold smA at q
  exact ⟨h1.fr (c _ _ (by decide) (by decide)) (c _ _ (by decide) (by decide)), h2.fr (c _ _ (by decide) (by decide)) (c _ _ (by decide) (by decide)) (fun a j z => q a j (by omega) (by omega)), h3.fr (fun a j z => q a j (by omega) (by omega)), h4.fr (c _ _ (by decide) (by decide)) (c _ _ (by decide) (by decide)) (fun a j z => q a j (by omega) (by omega)), h5.fr (c _ _ (by decide) (by decide)) (c _ _ (by decide) (by decide)) (fun a j z => q a j (by omega) (by omega)), h6.fr (c _ _ (by decide) (by decide)) (c _ _ (by decide) (by decide)) (fun a j z => q a j (by omega) (by omega)), hx⟩
theorem PastR.fr {σ' : St} (h : PastR σ pi A) (h2 : σ'.2 = σ.2) (hF : ∀ a j : Nat, 1 ≤ a → a ≤ 72 → σ'.1 a j = σ.1 a j) : PastR σ' pi A := by
  obtain ⟨hp, hd, hu, hle, hrep⟩ := h
  refine ⟨by rw [h2]; exact hp, by rw [hF 1 1 (by omega) (by omega)]; exact hd, by rw [hF 1 2 (by omega) (by omega)]; exact hu, hle, fun j hj => (hrep j hj).eqs (fun a b c jj => hF a jj (by omega) ?_)⟩
  have := (hp.1 j (by omega)).2
  omega
theorem act_w {d1 d2 : Nat} {m1 m2 : MI} {as1 as2 : List MV} {v ns' : Int} {σ1 : St} (h : SimP σ pi A ns nf) (h1 : Con d1 m1 1 6 as1 σ (vI 0, M1 σ1 133 0 v)) (e1 : σ1.2 = σ.2) (f1 : ∀ a j : Nat, a ≤ 72 ∨ 109 ≤ a → σ1.1 a j = σ.1 a j) (hI : AllI nf ns' A)
    (h2 : ∀ τ : St, Str τ.2.1 → (∀ a j : Nat, 109 ≤ a → a < 133 → τ.1 a j = σ.1 a j) → ∃ τ' : St, Con d2 m2 0 0 as2 τ (vI v, τ') ∧ τ'.2 = τ.2 ∧ τ'.1 109 0 = 0 ∧ (∀ a j : Nat, a < 109 ∨ (110 ≤ a ∧ a ≤ 112) ∨ (a = 109 ∧ (j = 4 ∨ j = 5)) ∨ 133 ≤ a → τ'.1 a j = τ.1 a j) ∧ ((∀ a j : Nat, a < 109 → τ'.1 a j = σ1.1 a j) → Sml ns' nf τ')) : Act d1 d2 m1 m2 as1 as2 σ := by
  obtain ⟨a, b, c, d, e, f⟩ := h
  obtain ⟨τ', k1, k2, k3, k4, k5⟩ := h2 (M1 σ1 133 0 v) (by show Str σ1.2.1; rw [e1]; exact a) (fun a j z q => by rw [M1_ne (by omega)]; exact f1 a j (by omega))
  have hc : ∀ a j : Nat, a < 109 → τ'.1 a j = σ1.1 a j := fun a j q => by rw [k4 a j (by omega), M1_ne (by omega)]
  refine ⟨0, v, M1 σ1 133 0 v, τ', h1, k1, k3, fun _ => by rw [k4 _ _ (by omega)]; exact M1_eq rfl, pi, A, ns', nf, by rw [k2]; show Str σ1.2.1; rw [e1]; exact a, by rw [k2]; show σ1.2.2 = _; rw [e1]; exact b, c.fr (k2.trans e1) (fun a j q1 q2 => by rw [hc a j (by omega)]; exact f1 a j (by omega)), d.fr (fun a j z => ?_), hI, k5 hc⟩
  rw [k4 a j (by omega), M1_ne (by omega)]; exact f1 a j (by omega)
theorem st_setKind (h : SimP σ pi A ns nf) {l v z : Int} : Act 3 2 mL_setKind mX10_setKind [vA 0, vI l, vI v, vI z, vA 133] [vA 109, vI l, vI v, vI z] σ := by
  obtain ⟨hS, hc, hA, hM, hI, hs⟩ := id h
  have hP := hI.now
  have h20 : nf ≤ 20 := hs.2.2.2.2.1.1.2.2.2
  have hWM := hP.wfM h20
  have hWB := hP.wfB h20
  have hN : RepN (cN σ) (A.1 A.2.1) := hM.2.2.2.1
  have hE := hP.1.1
  obtain ⟨e1, e2, e3, e4⟩ := id hE
  have hRw := hP.1.2.1
  by_cases q : (0 ≤ l ∧ l < 3 ∧ 0 ≤ v ∧ v < 3) ∧ (z = 100 ∨ z = 97 ∨ z = 114)
  · obtain ⟨g1, g2, g3⟩ := hs.2.2.1
    refine act_w (σ1 := M1 σ 88 (l * 3 + v) z) (ns' := ns) h (wo_setKind (ok_setKind hS q.1 q.2)) rfl (fun a j z => by rw [M1_ne (by omega)]) (hI) (fun τ t2 t1 => ?_)
    have k := m_setKind (σ := τ) t2 (l := l) (v := v) (z := z) (by rw [t1 _ _ (by omega) (by omega)]; have y := g2 (3 * l + v).toNat (by omega); omega) (by omega) q.2
    rw [show τ.1 116 (3 * l + v).toNat = σ.1 88 (l * 3 + v).toNat % 65536 by
      rw [t1 _ _ (by omega) (by omega), g1, show l * 3 + v = 3 * l + v by omega]
      have y := g2 (3 * l + v).toNat (by omega)
      omega] at k
    refine ⟨M1 (P1 τ 109 0 0) 116 (3 * l + v) z, k, rfl, by rw [M1_ne (by omega), P1_eq], fun a j z => by rw [M1_ne (by omega), P1_off (by omega)], fun r1 => ?_⟩
    refine Sml.b3 hs (fun a j z q => ?_) ?_
    · replace z := smB_b z
      by_cases y : a < 109
      · rw [r1 a j y, M1_ne (by omega)]
      · rw [M1_ne (by omega), P1_off (by omega)]
        exact t1 a j (by omega) (by omega)
    · have c88 : ∀ j : Nat, (M1 (P1 τ 109 0 0) 116 (3 * l + v) z).1 88 j = if j = (3 * l + v).toNat then z else σ.1 88 j := fun j => by rw [r1 88 j (by decide), up_at, show l * 3 + v = 3 * l + v by omega]
      have c116 : ∀ j : Nat, (M1 (P1 τ 109 0 0) 116 (3 * l + v) z).1 116 j = if j = (3 * l + v).toNat then z else σ.1 116 j := fun j => by rw [up_at, P1_ne (by decide), t1 116 j (by decide) (by decide)]
      refine ⟨fun j => by rw [c88, c116, g1], fun j hj => ?_, fun j => ?_⟩
      · rw [c116]
        split
        · exact q.2
        · exact g2 j hj
      · rw [r1 89 j (by decide), M1_ne (by decide), M1_ne (by decide), P1_ne (by decide), t1 117 j (by decide) (by decide)]
        exact g3 j
  · exact act_no h (wt_setKind_1 (th1_setKind hS q)) (m_setKind_no hS (by omega)) (by decide)
theorem st_setLegal (h : SimP σ pi A ns nf) {l z : Int} (hz : z = 0 ∨ z = 1) : Act 3 2 mL_setLegal mX10_setLegal [vA 0, vI l, vI z, vA 133] [vA 109, vI l, vI z] σ := by
  obtain ⟨hS, hc, hA, hM, hI, hs⟩ := id h
  have hP := hI.now
  have h20 : nf ≤ 20 := hs.2.2.2.2.1.1.2.2.2
  have hWM := hP.wfM h20
  have hWB := hP.wfB h20
  have hN : RepN (cN σ) (A.1 A.2.1) := hM.2.2.2.1
  have hE := hP.1.1
  obtain ⟨e1, e2, e3, e4⟩ := id hE
  have hRw := hP.1.2.1
  by_cases q : 0 ≤ l ∧ l < 3
  · obtain ⟨g1, g2, g3⟩ := hs.2.2.1
    refine act_w (σ1 := M1 σ 89 l z) (ns' := ns) h (wo_setLegal (by rw [(g3 _).1]; exact (g3 _).2) (ok_setLegal hS q hz (by rw [(g3 _).1]; exact (g3 _).2))) rfl (fun a j z => by rw [M1_ne (by omega)]) (hI) (fun τ t2 t1 => ?_)
    have k := m_setLegal (σ := τ) t2 (l := l) hz (by rw [t1 _ _ (by omega) (by omega)]; exact (g3 _).2) (by omega)
    rw [t1 _ _ (by omega) (by omega), ← (g3 _).1] at k
    refine ⟨M1 (P1 τ 109 0 0) 117 l z, k, rfl, by rw [M1_ne (by omega), P1_eq], fun a j z => by rw [M1_ne (by omega), P1_off (by omega)], fun r1 => ?_⟩
    refine Sml.b3 hs (fun a j z q => ?_) ?_
    · replace z := smB_b z
      by_cases y : a < 109
      · rw [r1 a j y, M1_ne (by omega)]
      · rw [M1_ne (by omega), P1_off (by omega)]
        exact t1 a j (by omega) (by omega)
    · refine ⟨fun j => ?_, fun j hj => ?_, fun j => ?_⟩
      · rw [r1 88 j (by decide), M1_ne (by decide), M1_ne (by decide), P1_ne (by decide), t1 116 j (by decide) (by decide)]
        exact g1 j
      · rw [M1_ne (by decide), P1_ne (by decide), t1 116 j (by decide) (by decide)]
        exact g2 j hj
      · rw [r1 89 j (by decide), up_at, up_at, P1_ne (by decide), t1 117 j (by decide) (by decide)]
        by_cases y : j = l.toNat
        · rw [if_pos y, if_pos y]; exact ⟨rfl, hz⟩
        · rw [if_neg y, if_neg y]; exact g3 j
  · obtain ⟨g1, g2, g3⟩ := hs.2.2.1
    exact act_no h (wt_setLegal_1 (th1_setLegal hS q)) (m_setLegal_no hS hz (g3 _).2 (by omega)) (by decide)
theorem st_setRecord (h : SimP σ pi A ns nf) {r c z : Int} : Act 4 2 mL_setRecord mX10_setRecord [vA 0, vI r, vI c, vI z, vA 133] [vA 109, vI r, vI c, vI z] σ := by
  obtain ⟨hS, hc, hA, hM, hI, hs⟩ := id h
  have hP := hI.now
  have h20 : nf ≤ 20 := hs.2.2.2.2.1.1.2.2.2
  have hWM := hP.wfM h20
  have hWB := hP.wfB h20
  have hN : RepN (cN σ) (A.1 A.2.1) := hM.2.2.2.1
  have hE := hP.1.1
  obtain ⟨e1, e2, e3, e4⟩ := id hE
  have hRw := hP.1.2.1
  by_cases q : 0 ≤ r ∧ r < 5 ∧ 0 ≤ c ∧ c < 3 ∧ 0 ≤ z ∧ z ≤ 9999
  · obtain ⟨g1, g2, g3⟩ := hs.2.2.2.2.2.1
    refine act_w (σ1 := M1 σ 97 (r * 3 + c) z) (ns' := ns) h (wo_setRecord (ok_setRecord hS ⟨q.1, q.2.1⟩ ⟨q.2.2.1, q.2.2.2.1⟩ q.2.2.2.2)) rfl (fun a j z => by rw [M1_ne (by omega)]) (hI) (fun τ t2 t1 => ?_)
    have k := m_setRecord (σ := τ) t2 (r := r) (c := c) (z := z) (by omega)
    rw [t1 _ _ (by omega) (by omega), ← g2] at k
    rw [show (σ.1 97 (3 * r + c).toNat) = σ.1 97 (r * 3 + c).toNat by rw [show r * 3 + c = 3 * r + c by omega]] at k
    refine ⟨M1 (P1 τ 109 0 0) 121 (3 * r + c) z, k, rfl, by rw [M1_ne (by omega), P1_eq], fun a j z => by rw [M1_ne (by omega), P1_off (by omega)], fun r1 => ?_⟩
    refine Sml.b6 hs (fun a j z q => ?_) ?_
    · replace z := smB_b z
      by_cases y : a < 109
      · rw [r1 a j y, M1_ne (by omega)]
      · rw [M1_ne (by omega), P1_off (by omega)]
        exact t1 a j (by omega) (by omega)
    · have c97 : ∀ j : Nat, (M1 (P1 τ 109 0 0) 121 (3 * r + c) z).1 97 j = if j = (3 * r + c).toNat then z else σ.1 97 j := fun j => by rw [r1 97 j (by decide), up_at, show r * 3 + c = 3 * r + c by omega]
      have c121 : ∀ j : Nat, (M1 (P1 τ 109 0 0) 121 (3 * r + c) z).1 121 j = if j = (3 * r + c).toNat then z else σ.1 121 j := fun j => by rw [up_at, P1_ne (by decide), t1 121 j (by decide) (by decide)]
      refine ⟨?_, fun j => by rw [c97, c121, g2], fun j hj => ?_⟩
      · rw [r1 96 1 (by decide), M1_ne (by decide), M1_ne (by decide), P1_nj (by decide), t1 109 18 (by decide) (by decide)]
        exact g1
      · rw [c121]
        split
        · exact q.2.2.2.2
        · exact g3 j hj
  · exact act_no h (wt_setRecord_1 (th1_setRecord hS q)) (m_setRecord_no hS (by omega)) (by decide)
theorem st_choose (h : SimP σ pi A ns nf) {r : Int} : Act 2 2 mL_choose mX10_choose [vA 0, vI r, vA 133] [vA 109, vI r] σ := by
  obtain ⟨hS, hc, hA, hM, hI, hs⟩ := id h
  have hP := hI.now
  have h20 : nf ≤ 20 := hs.2.2.2.2.1.1.2.2.2
  have hWM := hP.wfM h20
  have hWB := hP.wfB h20
  have hN : RepN (cN σ) (A.1 A.2.1) := hM.2.2.2.1
  have hE := hP.1.1
  obtain ⟨e1, e2, e3, e4⟩ := id hE
  have hRw := hP.1.2.1
  by_cases q : 0 ≤ r ∧ r < 5
  · obtain ⟨g1, g2, g3⟩ := hs.2.2.2.2.2.1
    refine act_w (σ1 := P1 σ 96 1 r) (ns' := ns) h (wo_choose (ok_choose hS q)) rfl (fun a j z => by rw [P1_off (by omega)]) (hI) (fun τ t2 t1 => ?_)
    have k := m_choose (σ := τ) t2 (r := r) (by omega)
    rw [t1 _ _ (by omega) (by omega), ← g1.1] at k
    refine ⟨P1 (P1 τ 109 0 0) 109 18 r, k, rfl, by rw [P1_nj (by omega), P1_eq], fun a j z => by rw [P1_off (by omega), P1_off (by omega)], fun r1 => ?_⟩
    refine Sml.b6 hs (fun a j z q => ?_) ?_
    · replace z := smB_b z
      by_cases y : a < 109
      · rw [r1 a j y, P1_off (by omega)]
      · rw [P1_off (by omega), P1_off (by omega)]
        exact t1 a j (by omega) (by omega)
    · refine ⟨?_, fun j => ?_, fun j hj => ?_⟩
      · rw [r1 96 1 (by decide), P1_eq, P1_eq]; exact ⟨rfl, q.1, q.2⟩
      · rw [r1 97 j (by decide), P1_ne (by decide), P1_ne (by decide), P1_ne (by decide), t1 121 j (by decide) (by decide)]; exact g2 j
      · rw [P1_ne (by decide), P1_ne (by decide), t1 121 j (by decide) (by decide)]; exact g3 j hj
  · exact act_no h (wt_choose_1 (th1_choose hS q)) (m_choose_no hS (by omega)) (by decide)
theorem st_lock (h : SimP σ pi A ns nf) {f z : Int} (hz : z = 0 ∨ z = 1) : Act 4 2 mL_lock mX10_lock [vA 0, vI f, vI z, vA 133] [vA 109, vI f, vI z] σ := by
  obtain ⟨hS, hc, hA, hM, hI, hs⟩ := id h
  have hP := hI.now
  have h20 : nf ≤ 20 := hs.2.2.2.2.1.1.2.2.2
  have hWM := hP.wfM h20
  have hWB := hP.wfB h20
  have hN : RepN (cN σ) (A.1 A.2.1) := hM.2.2.2.1
  have hE := hP.1.1
  obtain ⟨e1, e2, e3, e4⟩ := id hE
  have hRw := hP.1.2.1
  by_cases q : 0 ≤ f ∧ f < nf
  · obtain ⟨g1, g2, g3, g4⟩ := hs.2.2.2.2.1
    refine act_w (σ1 := M1 σ 95 f z) (ns' := ns) h (wo_lock bI_01 (ok_lock hS (by omega) (by omega) hz)) rfl (fun a j z => by rw [M1_ne (by omega)]) (hI) (fun τ t2 t1 => ?_)
    have k := m_lock (σ := τ) t2 (by rw [t1 _ _ (by omega) (by omega)]; omega) (f := f) hz (by rw [t1 _ _ (by omega) (by omega)]; exact (g2 _).2.2.2) (by rw [t1 _ _ (by omega) (by omega)]; omega)
    rw [t1 _ _ (by omega) (by omega), show σ.1 120 f.toNat = bI (σ.1 95 f.toNat ≠ 0) by
      rw [(g2 _).2.2.1]
      rcases (g2 f.toNat).2.2.2 with y | y
      · rw [y]; rfl
      · rw [y]; rfl] at k
    refine ⟨M1 (P1 τ 109 0 0) 120 f z, k, rfl, by rw [M1_ne (by omega), P1_eq], fun a j z => by rw [M1_ne (by omega), P1_off (by omega)], fun r1 => ?_⟩
    refine Sml.b5 hs (fun a j z q => ?_) ?_
    · replace z := smB_b z
      by_cases y : a < 109
      · rw [r1 a j y, M1_ne (by omega)]
      · rw [M1_ne (by omega), P1_off (by omega)]
        exact t1 a j (by omega) (by omega)
    · have m1 : ∀ x j : Nat, x ≠ 120 → x ≠ 109 → 109 ≤ x → x < 133 → (M1 (P1 τ 109 0 0) 120 f z).1 x j = σ.1 x j := fun x j y1 y2 y3 y4 => by rw [M1_ne y1, P1_ne y2, t1 x j y3 y4]
      have m2 : ∀ x j : Nat, x ≠ 95 → x < 109 → (M1 (P1 τ 109 0 0) 120 f z).1 x j = σ.1 x j := fun x j y1 y2 => by rw [r1 x j y2, M1_ne y1]
      have c95 : ∀ j : Nat, (M1 (P1 τ 109 0 0) 120 f z).1 95 j = if j = f.toNat then z else σ.1 95 j := fun j => by rw [r1 95 j (by decide), up_at]
      have c120 : ∀ j : Nat, (M1 (P1 τ 109 0 0) 120 f z).1 120 j = if j = f.toNat then z else σ.1 120 j := fun j => by rw [up_at, P1_ne (by decide), t1 120 j (by decide) (by decide)]
      refine ⟨?_, fun j => ?_, fun g y1 y2 => ?_, fun j hj => ?_⟩
      · rw [m2 92 3 (by decide) (by decide), M1_ne (by decide), P1_nj (by decide), t1 109 13 (by decide) (by decide)]; exact g1
      · rw [m2 93 j (by decide) (by decide), m2 94 j (by decide) (by decide), m1 118 j (by decide) (by decide) (by decide) (by decide), m1 119 j (by decide) (by decide) (by decide) (by decide), c95, c120]
        obtain ⟨b1, b2, b3, b4⟩ := g2 j
        refine ⟨b1, b2, ?_, ?_⟩
        · rw [b3]
        · split
          · exact hz
          · exact b4
      · rw [m1 118 _ (by decide) (by decide) (by decide) (by decide), m1 119 _ (by decide) (by decide) (by decide) (by decide)]; exact g3 g y1 y2
      · rw [c120, if_neg (by omega)]; exact g4 j hj
  · obtain ⟨g1, g2, g3, g4⟩ := hs.2.2.2.2.1
    exact act_no h (wt_lock_0 (th0_lock hS (by omega))) (m_lock_no hS (by omega) hz (g2 _).2.2.2 (by omega)) (by decide)
theorem st_setPage (h : SimP σ pi A ns nf) {w z : Int} : Act 2 1 mL_setPage mX10_setPage [vA 0, vI w, vI z, vA 133] [vA 109, vI w, vI z] σ := by
  obtain ⟨hS, hc, hA, hM, hI, hs⟩ := id h
  have hP := hI.now
  have h20 : nf ≤ 20 := hs.2.2.2.2.1.1.2.2.2
  have hWM := hP.wfM h20
  have hWB := hP.wfB h20
  have hN : RepN (cN σ) (A.1 A.2.1) := hM.2.2.2.1
  have hE := hP.1.1
  obtain ⟨e1, e2, e3, e4⟩ := id hE
  have hRw := hP.1.2.1
  by_cases q : 5 ≤ w ∧ w ≤ 60 ∧ 2 ≤ z ∧ z ≤ 40
  · obtain ⟨⟨g1, g2⟩, g3, g4⟩ := hs.2.2.2.2.2.2
    refine act_w (σ1 := P1 (P1 σ 98 0 w) 98 1 z) (ns' := ns) h (wo_setPage (ok_setPage hS hs.wh q)) rfl (fun a j z => by rw [P1_off (by omega), P1_off (by omega)]) (hI) (fun τ t2 t1 => ?_)
    have k := m_setPage (σ := τ) t2 (w := w) (z := z) (by rw [t1 _ _ (by omega) (by omega)]; omega) (by rw [t1 _ _ (by omega) (by omega)]; omega) (by omega)
    rw [t1 _ _ (by omega) (by omega), t1 _ _ (by omega) (by omega), ← g1, ← g2] at k
    refine ⟨P1 (P1 (P1 τ 109 0 0) 109 19 w) 109 20 z, k, rfl, by rw [P1_nj (by omega), P1_nj (by omega), P1_eq], fun a j z => by rw [P1_off (by omega), P1_off (by omega), P1_off (by omega)], fun r1 => ?_⟩
    refine Sml.b7 hs (fun a j z q => ?_) ?_
    · replace z := smB_b z
      by_cases y : a < 109
      · rw [r1 a j y, P1_off (by omega), P1_off (by omega)]
      · rw [P1_off (by omega), P1_off (by omega), P1_off (by omega)]
        exact t1 a j (by omega) (by omega)
    · refine ⟨?_, ?_⟩
      · rw [r1 98 0 (by decide), r1 98 1 (by decide), P1_nj (by decide), P1_eq, P1_eq, P1_nj (by decide), P1_eq, P1_eq]; exact ⟨rfl, rfl⟩
      · rw [r1 98 0 (by decide), r1 98 1 (by decide), P1_nj (by decide), P1_eq, P1_eq]; omega
  · obtain ⟨⟨g1, g2⟩, g3, g4⟩ := hs.2.2.2.2.2.2
    exact act_no h (wt_setPage_1 (th1_setPage hS q)) (m_setPage_no hS (by omega) (by omega) (by omega)) (by decide)
end Smalls
