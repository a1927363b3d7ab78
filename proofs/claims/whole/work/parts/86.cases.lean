/-! The law's cases. -/
section Cases
variable {xs : Nat → Int} {z i : Int} {σ σ2 σf : St} {n : Nat}
theorem cmpZ_eq {x y : Int} (h : x = y) : cmpZ x y = 0 := by
  unfold cmpZ
  rw [if_neg (by omega), if_pos h]
def NxtK (xs : Nat → Int) (z : Int) (n : Nat) (i : Int) (σ σf : St) : Prop := ∀ (b : Nat × Nat) (v6 v7 v8 v9 : MV), n ≤ b.1 ∧ 6 * n ≤ b.2 → Go xs 10 mL_law b 28 [vT 6 z, vA 0, vA 109, vA 133, vA 134, vI i, v6, v7, v8, v9] [] σ (vI 1, σf)
def CurK (xs : Nat → Int) (z : Int) (n : Nat) (i : Int) (pc : Nat) (σ σf : St) : Prop := ∀ (b : Nat × Nat) (v6 v7 v8 v9 : MV), n + 1 ≤ b.1 ∧ 6 * (n + 1) ≤ b.2 → Go xs 10 mL_law b pc [vT 6 z, vA 0, vA 109, vA 133, vA 134, vI i, v6, v7, v8, v9] [] σ (vI 1, σf)
theorem law_next (hi : 0 ≤ i ∧ i ≤ 2560) (K : NxtK xs z n (i + 5) σ2 σf) {b : Nat × Nat} {v6 v7 v8 v9 : MV} (hb : n ≤ b.1 ∧ 6 * n ≤ b.2) : Go xs 10 mL_law b 3207 [vT 6 z, vA 0, vA 109, vA 133, vA 134, vI i, v6, v7, v8, v9] [] σ2 (vI 1, σf) := by
  refine go_iinc (at_of tL_law 118 3 rfl) rfl (by unfold in32; omega) rfl rfl ?_
  refine go_goto (tgt := 28) (at_of tL_law 118 4 rfl) (by decide) ?_
  exact K _ _ _ _ _ hb
def ActB (d1 d2 : Nat) (m1 m2 : MI) (as1 as2 : List MV) (σ : St) : Prop := ∃ (k v : Int) (σ1 σ2 : St), Con d1 m1 1 6 as1 σ (vI k, σ1) ∧ Con d2 m2 0 0 as2 σ1 (vI v, σ2) ∧ σ2.1 109 0 = k ∧ (k = 0 → σ2.1 133 0 = v) ∧ Sim σ2 ∧ (k = 0 → v = 0 ∨ v = 1)
theorem act_noB {ns nf : Int} {pi : Nat → Nat} {A : PastD} {d1 d2 : Nat} {m1 m2 : MI} {as1 as2 : List MV} {k : Int} (h : SimP σ pi A ns nf) (h1 : Con d1 m1 1 6 as1 σ (vI k, σ)) (h2 : Con d2 m2 0 0 as2 σ (vI 0, P1 σ 109 0 k)) (hk : k ≠ 0) : ActB d1 d2 m1 m2 as1 as2 σ := by
  obtain ⟨a, b, c, d, e, f⟩ := h
  refine ⟨k, 0, σ, P1 σ 109 0 k, h1, h2, P1_eq, fun z => absurd z hk, ⟨pi, A, ns, nf, a, b, past_frm c (P1_frm (lo := 109) (hi := 109) (by omega)) (by omega), d.th, e, f.fr (fun a j z => ?_)⟩, fun z => absurd z hk⟩
  replace z := smB_b z
  by_cases q : a = 109
  · rw [q]; exact P1_nj (by omega)
  · exact P1_ne q
theorem act_qB {ns nf : Int} {pi : Nat → Nat} {A : PastD} {d1 d2 : Nat} {m1 m2 : MI} {as1 as2 : List MV} {v : Int} (h : SimP σ pi A ns nf) (h1 : Con d1 m1 1 6 as1 σ (vI 0, M1 σ 133 0 v)) (hv : v = 0 ∨ v = 1) (h2 : ∀ τ : St, τ.2 = σ.2 → (∀ a j : Nat, a < 133 → τ.1 a j = σ.1 a j) → Con d2 m2 0 0 as2 τ (vI v, P1 τ 109 0 0)) : ActB d1 d2 m1 m2 as1 as2 σ := by
  obtain ⟨a, b, c, d, e, f⟩ := h
  have hp : ∀ a j : Nat, a < 133 → ¬ (a = 109 ∧ j = 0) → (P1 (M1 σ 133 0 v) 109 0 0).1 a j = σ.1 a j := fun a j q1 q2 => by
    by_cases q : a = 109
    · rw [q, P1_nj (by omega), M1_ne (by omega)]
    · rw [P1_ne q, M1_ne (by omega)]
  refine ⟨0, v, M1 σ 133 0 v, P1 (M1 σ 133 0 v) 109 0 0, h1, h2 _ rfl (fun a j q => M1_ne (by omega)), P1_eq, fun _ => by rw [P1_ne (by omega)]; exact M1_eq rfl, ⟨pi, A, ns, nf, a, b, past_frm c (lo := 109) (hi := 134) ⟨rfl, fun a q j => ?_⟩ (by omega), d.fr (fun a j z => hp a j (by omega) (by omega)), e, f.fr (fun a j z => ?_)⟩, fun _ => hv⟩
  · by_cases q1 : a < 133
    · exact hp a j q1 (by omega)
    · rw [P1_ne (by omega), M1_ne (by omega)]
  · replace z := smB_b z
    exact hp a j (by omega) (by omega)
theorem act_wB {ns nf : Int} {pi : Nat → Nat} {A : PastD} {d1 d2 : Nat} {m1 m2 : MI} {as1 as2 : List MV} {v ns' : Int} {σ1 : St} (h : SimP σ pi A ns nf) (h1 : Con d1 m1 1 6 as1 σ (vI 0, M1 σ1 133 0 v)) (hv : v = 0 ∨ v = 1) (e1 : σ1.2 = σ.2) (f1 : ∀ a j : Nat, a ≤ 72 ∨ 109 ≤ a → σ1.1 a j = σ.1 a j) (hI : AllI nf ns' A)
    (h2 : ∀ τ : St, Str τ.2.1 → (∀ a j : Nat, 109 ≤ a → a < 133 → τ.1 a j = σ.1 a j) → ∃ τ' : St, Con d2 m2 0 0 as2 τ (vI v, τ') ∧ τ'.2 = τ.2 ∧ τ'.1 109 0 = 0 ∧ (∀ a j : Nat, a < 109 ∨ (110 ≤ a ∧ a ≤ 112) ∨ (a = 109 ∧ (j = 4 ∨ j = 5)) ∨ 133 ≤ a → τ'.1 a j = τ.1 a j) ∧ ((∀ a j : Nat, a < 109 → τ'.1 a j = σ1.1 a j) → Sml ns' nf τ')) : ActB d1 d2 m1 m2 as1 as2 σ := by
  obtain ⟨a, b, c, d, e, f⟩ := h
  obtain ⟨τ', k1, k2, k3, k4, k5⟩ := h2 (M1 σ1 133 0 v) (by show Str σ1.2.1; rw [e1]; exact a) (fun a j z q => by rw [M1_ne (by omega)]; exact f1 a j (by omega))
  have hc : ∀ a j : Nat, a < 109 → τ'.1 a j = σ1.1 a j := fun a j q => by rw [k4 a j (by omega), M1_ne (by omega)]
  refine ⟨0, v, M1 σ1 133 0 v, τ', h1, k1, k3, fun _ => by rw [k4 _ _ (by omega)]; exact M1_eq rfl, ⟨pi, A, ns', nf, by rw [k2]; show Str σ1.2.1; rw [e1]; exact a, by rw [k2]; show σ1.2.2 = _; rw [e1]; exact b, c.fr (k2.trans e1) (fun a j q1 q2 => by rw [hc a j (by omega)]; exact f1 a j (by omega)), d.fr (fun a j z => ?_), hI, k5 hc⟩, fun _ => hv⟩
  rw [k4 a j (by omega), M1_ne (by omega)]; exact f1 a j (by omega)
theorem act_edB {ns nf : Int} {pi : Nat → Nat} {A : PastD} {d1 d2 : Nat} {m1 m2 : MI} {as1 as2 : List MV} {v ns' nf' : Int} {σ0 σ1 : St} {pi' : Nat → Nat} {A' : PastD} (h : SimP σ pi A ns nf) (h1 : Con d1 m1 1 6 as1 σ (vI 0, M1 σ1 133 0 v)) (hv : v = 0 ∨ v = 1) (hE : Ed σ0 σ1 pi' A') (h00 : σ0.2 = σ.2) (h0 : ∀ a j : Nat, ¬ (92 ≤ a ∧ a ≤ 94) → σ0.1 a j = σ.1 a j)
    (h2 : ∀ τ : St, Str τ.2.1 → PastM τ A → (∀ a j : Nat, (109 ≤ a ∧ a < 133) → τ.1 a j = σ.1 a j) → ∃ τ' τ'' : St, Con d2 m2 0 0 as2 τ (vI v, τ'') ∧ PastM τ' A' ∧ FrE τ τ' ∧ τ'.1 109 0 = 0 ∧ τ''.2 = τ'.2 ∧ (∀ a j : Nat, ¬ (a = 109 ∧ j = 13) → ¬ (118 ≤ a ∧ a ≤ 120) → τ''.1 a j = τ'.1 a j) ∧ ((∀ a j : Nat, a < 109 → τ''.1 a j = (M1 σ1 133 0 v).1 a j) → (∀ a j : Nat, 113 ≤ a ∧ a ≤ 122 → τ'.1 a j = σ.1 a j) → (∀ j : Nat, j ≠ 0 → j ≠ 4 → j ≠ 5 → τ'.1 109 j = σ.1 109 j) → Sml ns' nf' τ''))
    (hI : AllI nf' ns' A') : ActB d1 d2 m1 m2 as1 as2 σ := by
  obtain ⟨a, b, c, d, e, f⟩ := h
  obtain ⟨p1, p2, p3, p4⟩ := hE
  have hk : ∀ a j : Nat, 109 ≤ a → a < 133 → (M1 σ1 133 0 v).1 a j = σ.1 a j := fun a j q1 q2 => by
    rw [M1_ne (by omega), p4 a (by omega), h0 a j (by omega)]
  obtain ⟨τ', τ'', k1, k2, k3, k4, k5, k6, k7⟩ := h2 (M1 σ1 133 0 v) p2 (d.fr (fun a j z => hk a j (by omega) (by omega))) (fun a j z => hk a j z.1 z.2)
  have hc : ∀ a j : Nat, a < 109 → τ''.1 a j = (M1 σ1 133 0 v).1 a j := fun a j q => by rw [k6 a j (by omega) (by omega), k3.2 a j (by omega)]
  have hsm := k7 hc (fun a j q => by rw [k3.2 a j (by omega), hk a j (by omega) (by omega)]) (fun j q1 q2 q3 => by rw [k3.2 109 j (by omega), hk 109 j (by omega) (by omega)])
  have h22 : τ''.2 = σ1.2 := k5.trans k3.1
  refine ⟨0, v, M1 σ1 133 0 v, τ'', h1, k1, by rw [k6 _ _ (by omega) (by omega)]; exact k4, fun _ => by rw [k6 _ _ (by omega) (by omega), k3.2 _ _ (by omega)]; exact M1_eq rfl, ⟨pi', A', ns', nf', by rw [h22]; exact p2, by rw [h22, p3, h00]; exact b, past_frm p1 (lo := 109) (hi := 134) ⟨h22, fun a q j => ?_⟩ (by omega), k2.fr (fun a j z => k6 a j (by omega) (by omega)), hI, hsm⟩, fun _ => hv⟩
  by_cases q1 : a < 109
  · rw [hc a j q1, M1_ne (by omega)]
  · rw [k6 a j (by omega) (by omega), k3.2 a j (by omega), M1_ne (by omega)]
theorem act_ed0B {ns nf : Int} {pi : Nat → Nat} {A : PastD} {d1 d2 : Nat} {m1 m2 : MI} {as1 as2 : List MV} {v : Int} {σ1 : St} {pi' : Nat → Nat} {A' : PastD} (h : SimP σ pi A ns nf) (h1 : Con d1 m1 1 6 as1 σ (vI 0, M1 σ1 133 0 v)) (hv : v = 0 ∨ v = 1) (hE : Ed σ σ1 pi' A')
    (h2 : ∀ τ : St, Str τ.2.1 → PastM τ A → (∀ a j : Nat, (109 ≤ a ∧ a < 133) → τ.1 a j = σ.1 a j) → ∃ τ' : St, Con d2 m2 0 0 as2 τ (vI v, τ') ∧ PastM τ' A' ∧ FrE τ τ' ∧ τ'.1 109 0 = 0)
    (hI : AllI nf ns A') : ActB d1 d2 m1 m2 as1 as2 σ := by
  refine act_edB h h1 hv hE rfl (fun _ _ _ => rfl) (fun τ q1 q2 q3 => ?_) hI
  obtain ⟨τ', k1, k2, k3, k4⟩ := h2 τ q1 q2 q3
  refine ⟨τ', τ', k1, k2, k3, k4, rfl, fun _ _ _ _ => rfl, fun r1 r2 r3 => h.2.2.2.2.2.fr (fun a j z => ?_)⟩
  replace z := smB_b z
  by_cases y : a < 109
  · rw [r1 a j y, M1_ne (by omega), hE.2.2.2 a (by omega)]
  · by_cases y2 : a = 109
    · rw [y2]; exact r3 j (by omega) (by omega) (by omega)
    · exact r2 a j (by omega)
theorem st_isBoldB {ns nf : Int} {pi : Nat → Nat} {A : PastD} (h : SimP σ pi A ns nf) {p : Int} : ActB 5 4 mL_isBold mX10_isBold [vA 0, vI p, vA 133] [vA 109, vI p] σ := by
  obtain ⟨hS, hc, hA, hM, hI, hs⟩ := id h
  have hP := hI.now
  have h20 : nf ≤ 20 := hs.2.2.2.2.1.1.2.2.2
  have hWM := hP.wfM h20
  have hWB := hP.wfB h20
  have hN : RepN (cN σ) (A.1 A.2.1) := hM.2.2.2.1
  have hE := hP.1.1
  obtain ⟨e1, e2, e3, e4⟩ := id hE
  have hRw := hP.1.2.1
  by_cases q : 0 ≤ p ∧ p ≤ endsA (A.1 A.2.1).1.1 (A.1 A.2.1).1.2.1 (A.1 A.2.1).1.2.1
  · have u := ixEnd_end hRw.1 ((ixEnd_iff hE).mpr q)
    have us := (hP.1.2.2.2.1 _ u.1 u.2.1).2.2.2.2.2 u.2.2.2
    obtain ⟨g1, g2, g3⟩ := hs.2.1
    refine act_qB h (wo_isBold (boldF_01 _ _ _ (Or.inl rfl)) (ok_isBold hS hA ((ixEnd_iff hE).mpr q))) (boldF_01 _ _ _ (Or.inl rfl)) (fun τ t2 t1 => ?_)
    have hS2 : Str τ.2.1 := by rw [t2]; exact hS
    have hN2 : RepN (cN τ) (A.1 A.2.1) := hN.to (fun j => t1 _ _ (by omega))
    have k := m_isBold hS2 hN2 hWM (by rw [t1 _ _ (by omega)]; omega) (fun s s0 s1 => by rw [t1 _ _ (by omega)]; rw [t1 _ _ (by omega)] at s1; exact (g3 s s0 (by omega)).1) (fun s s0 s1 => by rw [t1 _ _ (by omega)]; rw [t1 _ _ (by omega)] at s1; exact (g3 s s0 (by omega)).2) q (by rw [t1 _ _ (by omega)]; omega)
    rw [clF_eq (σ := τ) (σ' := σ) (a := 113) (b := 84) (fun j => by rw [t1 _ _ (by omega), (g2 j).1]), clF_eq (σ := τ) (σ' := σ) (a := 114) (b := 85) (fun j => by rw [t1 _ _ (by omega), (g2 j).2.1])] at k
    exact k
  · have q2 : (ixEnd (A.1 A.2.1).1.1 (A.1 A.2.1).1.2.1 p) = -1 := Decidable.not_not.mp (fun z => q ((ixEnd_iff hE).mp z))
    exact act_noB h (wt_isBold_0 (th0_isBold hS hA q2)) (m_isBold_no hS hN hWM q) (by decide)
theorem st_protectB {ns nf : Int} {pi : Nat → Nat} {A : PastD} (h : SimP σ pi A ns nf) {p : Int} {is : Bool} : ActB 5 4 mL_protect mX10_protect [vA 0, vI p, vI (bI (is = true)), vA 133] [vA 109, vI p, vI (bI (is = true))] σ := by
  obtain ⟨hS, hc, hA, hM, hI, hs⟩ := id h
  have hP := hI.now
  have h20 : nf ≤ 20 := hs.2.2.2.2.1.1.2.2.2
  have hWM := hP.wfM h20
  have hWB := hP.wfB h20
  have hN : RepN (cN σ) (A.1 A.2.1) := hM.2.2.2.1
  have hE := hP.1.1
  obtain ⟨e1, e2, e3, e4⟩ := id hE
  have hRw := hP.1.2.1
  by_cases h2 : (ixEnd (A.1 A.2.1).1.1 (A.1 A.2.1).1.2.1 p) = -1
  · exact act_noB h (wt_protect_0 (th0_protect hS hA h2)) (m_protect_no hS hM hWB (fun z => (ixEnd_iff hE).mpr z h2)) (by decide)
  · obtain ⟨σ', pi', c1, c2⟩ := ok_protect (is := is) hS hA h2
    exact act_ed0B h (wo_protect bI_01 c1) bI_01 c2 (fun τ q1 q2 q3 => m_protect (is := is) q1 q2 hWB ((ixEnd_iff hE).mp h2)) (hI.beg (hP.fact (Or.inr (Or.inr (Or.inr (Or.inr rfl))))))
theorem st_setLegalB {ns nf : Int} {pi : Nat → Nat} {A : PastD} (h : SimP σ pi A ns nf) {l z : Int} (hz : z = 0 ∨ z = 1) : ActB 3 2 mL_setLegal mX10_setLegal [vA 0, vI l, vI z, vA 133] [vA 109, vI l, vI z] σ := by
  obtain ⟨hS, hc, hA, hM, hI, hs⟩ := id h
  have hP := hI.now
  have h20 : nf ≤ 20 := hs.2.2.2.2.1.1.2.2.2
  have hWM := hP.wfM h20
  have hWB := hP.wfB h20
  have hN : RepN (cN σ) (A.1 A.2.1) := hM.2.2.2.1
  have hE := hP.1.1
  obtain ⟨e1, e2, e3, e4⟩ := id hE
  have hRw := hP.1.2.1
  by_cases q : 0 ≤ l ∧ l < 3
  · obtain ⟨g1, g2, g3⟩ := hs.2.2.1
    refine act_wB (σ1 := M1 σ 89 l z) (ns' := ns) h (wo_setLegal (by rw [(g3 _).1]; exact (g3 _).2) (ok_setLegal hS q hz (by rw [(g3 _).1]; exact (g3 _).2))) (by rw [(g3 _).1]; exact (g3 _).2) rfl (fun a j z => by rw [M1_ne (by omega)]) (hI) (fun τ t2 t1 => ?_)
    have k := m_setLegal (σ := τ) t2 (l := l) hz (by rw [t1 _ _ (by omega) (by omega)]; exact (g3 _).2) (by omega)
    rw [t1 _ _ (by omega) (by omega), ← (g3 _).1] at k
    refine ⟨M1 (P1 τ 109 0 0) 117 l z, k, rfl, by rw [M1_ne (by omega), P1_eq], fun a j z => by rw [M1_ne (by omega), P1_off (by omega)], fun r1 => ?_⟩
    refine Sml.b3 hs (fun a j z q => ?_) ?_
    · replace z := smB_b z
      by_cases y : a < 109
      · rw [r1 a j y, M1_ne (by omega)]
      · rw [M1_ne (by omega), P1_off (by omega)]
        exact t1 a j (by omega) (by omega)
    · refine ⟨fun j => ?_, fun j hj => ?_, fun j => ?_⟩
      · rw [r1 88 j (by decide), M1_ne (by decide), M1_ne (by decide), P1_ne (by decide), t1 116 j (by decide) (by decide)]
        exact g1 j
      · rw [M1_ne (by decide), P1_ne (by decide), t1 116 j (by decide) (by decide)]
        exact g2 j hj
      · rw [r1 89 j (by decide), up_at, up_at, P1_ne (by decide), t1 117 j (by decide) (by decide)]
        by_cases y : j = l.toNat
        · rw [if_pos y, if_pos y]; exact ⟨rfl, hz⟩
        · rw [if_neg y, if_neg y]; exact g3 j
  · obtain ⟨g1, g2, g3⟩ := hs.2.2.1
    exact act_noB h (wt_setLegal_1 (th1_setLegal hS q)) (m_setLegal_no hS hz (g3 _).2 (by omega)) (by decide)
theorem st_lockB {ns nf : Int} {pi : Nat → Nat} {A : PastD} (h : SimP σ pi A ns nf) {f z : Int} (hz : z = 0 ∨ z = 1) : ActB 4 2 mL_lock mX10_lock [vA 0, vI f, vI z, vA 133] [vA 109, vI f, vI z] σ := by
  obtain ⟨hS, hc, hA, hM, hI, hs⟩ := id h
  have hP := hI.now
  have h20 : nf ≤ 20 := hs.2.2.2.2.1.1.2.2.2
  have hWM := hP.wfM h20
  have hWB := hP.wfB h20
  have hN : RepN (cN σ) (A.1 A.2.1) := hM.2.2.2.1
  have hE := hP.1.1
  obtain ⟨e1, e2, e3, e4⟩ := id hE
  have hRw := hP.1.2.1
  by_cases q : 0 ≤ f ∧ f < nf
  · obtain ⟨g1, g2, g3, g4⟩ := hs.2.2.2.2.1
    refine act_wB (σ1 := M1 σ 95 f z) (ns' := ns) h (wo_lock bI_01 (ok_lock hS (by omega) (by omega) hz)) bI_01 rfl (fun a j z => by rw [M1_ne (by omega)]) (hI) (fun τ t2 t1 => ?_)
    have k := m_lock (σ := τ) t2 (by rw [t1 _ _ (by omega) (by omega)]; omega) (f := f) hz (by rw [t1 _ _ (by omega) (by omega)]; exact (g2 _).2.2.2) (by rw [t1 _ _ (by omega) (by omega)]; omega)
    rw [t1 _ _ (by omega) (by omega), show σ.1 120 f.toNat = bI (σ.1 95 f.toNat ≠ 0) by
      rw [(g2 _).2.2.1]
      rcases (g2 f.toNat).2.2.2 with y | y
      · rw [y]; rfl
      · rw [y]; rfl] at k
    refine ⟨M1 (P1 τ 109 0 0) 120 f z, k, rfl, by rw [M1_ne (by omega), P1_eq], fun a j z => by rw [M1_ne (by omega), P1_off (by omega)], fun r1 => ?_⟩
    refine Sml.b5 hs (fun a j z q => ?_) ?_
    · replace z := smB_b z
      by_cases y : a < 109
      · rw [r1 a j y, M1_ne (by omega)]
      · rw [M1_ne (by omega), P1_off (by omega)]
        exact t1 a j (by omega) (by omega)
    · have m1 : ∀ x j : Nat, x ≠ 120 → x ≠ 109 → 109 ≤ x → x < 133 → (M1 (P1 τ 109 0 0) 120 f z).1 x j = σ.1 x j := fun x j y1 y2 y3 y4 => by rw [M1_ne y1, P1_ne y2, t1 x j y3 y4]
      have m2 : ∀ x j : Nat, x ≠ 95 → x < 109 → (M1 (P1 τ 109 0 0) 120 f z).1 x j = σ.1 x j := fun x j y1 y2 => by rw [r1 x j y2, M1_ne y1]
      have c95 : ∀ j : Nat, (M1 (P1 τ 109 0 0) 120 f z).1 95 j = if j = f.toNat then z else σ.1 95 j := fun j => by rw [r1 95 j (by decide), up_at]
      have c120 : ∀ j : Nat, (M1 (P1 τ 109 0 0) 120 f z).1 120 j = if j = f.toNat then z else σ.1 120 j := fun j => by rw [up_at, P1_ne (by decide), t1 120 j (by decide) (by decide)]
      refine ⟨?_, fun j => ?_, fun g y1 y2 => ?_, fun j hj => ?_⟩
      · rw [m2 92 3 (by decide) (by decide), M1_ne (by decide), P1_nj (by decide), t1 109 13 (by decide) (by decide)]; exact g1
      · rw [m2 93 j (by decide) (by decide), m2 94 j (by decide) (by decide), m1 118 j (by decide) (by decide) (by decide) (by decide), m1 119 j (by decide) (by decide) (by decide) (by decide), c95, c120]
        obtain ⟨b1, b2, b3, b4⟩ := g2 j
        refine ⟨b1, b2, ?_, ?_⟩
        · rw [b3]
        · split
          · exact hz
          · exact b4
      · rw [m1 118 _ (by decide) (by decide) (by decide) (by decide), m1 119 _ (by decide) (by decide) (by decide) (by decide)]; exact g3 g y1 y2
      · rw [c120, if_neg (by omega)]; exact g4 j hj
  · obtain ⟨g1, g2, g3, g4⟩ := hs.2.2.2.2.1
    exact act_noB h (wt_lock_0 (th0_lock hS (by omega))) (m_lock_no hS (by omega) hz (g2 _).2.2.2 (by omega)) (by decide)
end Cases
