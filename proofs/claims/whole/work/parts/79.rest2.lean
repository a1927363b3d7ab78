/-! Both sides make styles, count, write, lay, work out, merge. -/
section Rest2
variable {σ τ : St} {ns nf : Int} {pi : Nat → Nat} {A : PastD}
theorem Sim.of (h : SimP σ pi A ns nf) : Sim σ := ⟨pi, A, ns, nf, h⟩
theorem st_setTracking (h : SimP σ pi A ns nf) {z : Int} (hz : z = 0 ∨ z = 1) : Ask 0 0 mX9_setTracking mX10_setTracking [vA 0, vI z] [vA 109, vI z] σ := by
  obtain ⟨hS, hc, hA, hM, hI, hs⟩ := id h
  have hP := hI.now
  have h20 : nf ≤ 20 := hs.2.2.2.2.1.1.2.2.2
  have hWM := hP.wfM h20
  have hWB := hP.wfB h20
  have hN : RepN (cN σ) (A.1 A.2.1) := hM.2.2.2.1
  have hE := hP.1.1
  obtain ⟨e1, e2, e3, e4⟩ := id hE
  have hRw := hP.1.2.1
  obtain ⟨g1, g2⟩ := hs.1
  have k1 := ok_setTracking hS hA hz g2
  have k2 := m_setTracking (σ := P1 σ 0 0 z) hS hz (by rw [P1_ne (by decide), ← g1]; exact g2)
  rw [P1_ne (a' := 109) (by decide), ← g1] at k2
  refine ⟨σ.1 0 0, P1 σ 0 0 z, P1 (P1 (P1 σ 0 0 z) 109 0 0) 109 6 z, k1, k2, pi, A, ns, nf, hS, hc, hA.fr rfl (fun a j q1 q2 => by rw [P1_ne (by omega), P1_ne (by omega), P1_ne (by omega)]), hM.fr (fun a j q => by rw [P1_off (by omega), P1_off (by omega), P1_off (by omega)]), hI, hs.b1 (fun a j q1 q2 => ?_) ⟨?_, ?_⟩⟩
  · replace q1 := smB_b q1
    rw [P1_off (by omega), P1_off (by omega), P1_off (by omega)]
  · rw [P1_ne (by decide), P1_ne (by decide), P1_eq, P1_eq]
  · rw [P1_ne (by decide), P1_ne (by decide), P1_eq]; exact hz
theorem st_addStyle (h : SimP σ pi A ns nf) {q t z : Int} (ht : t = 0 ∨ t = 1) : Act 3 1 mL_addStyle mX10_addStyle [vA 0, vI q, vI t, vI z, vA 133] [vA 109, vI q, vI t, vI z] σ := by
  obtain ⟨hS, hc, hA, hM, hI, hs⟩ := id h
  have hP := hI.now
  have h20 : nf ≤ 20 := hs.2.2.2.2.1.1.2.2.2
  have hWM := hP.wfM h20
  have hWB := hP.wfB h20
  have hN : RepN (cN σ) (A.1 A.2.1) := hM.2.2.2.1
  have hE := hP.1.1
  obtain ⟨e1, e2, e3, e4⟩ := id hE
  have hRw := hP.1.2.1
  obtain ⟨⟨g1, g2, g3, g4⟩, g5, g6⟩ := hs.2.1
  by_cases c1 : (q = -1 ∨ (0 ≤ q ∧ q < σ.1 83 3)) ∧ -1 ≤ z ∧ z ≤ 1
  · by_cases c2 : 8 ≤ σ.1 83 3
    · exact act_no h (wt_addStyle_2 (th2_addStyle hS c1.1 c1.2 c2)) (m_addStyle_2 hS (by omega) (by omega) (by omega)) (by decide)
    · have k0 := ok_addStyle hS c1.1 c1.2 (by omega) ht
      rw [g1] at k0
      refine act_w (σ1 := P1 (M1 (M1 (M1 σ 84 ns q) 85 ns t) 86 ns z) 83 3 (ns + 1)) (ns' := ns + 1) h (wo_addStyle k0) rfl (fun a j y => by rw [P1_off (by omega), M1_ne (by omega), M1_ne (by omega), M1_ne (by omega)]) (hI.mono (Int.le_refl nf) (by omega)) (fun τ t2 t1 => ?_)
      have e7 : τ.1 109 7 = ns := by rw [t1 109 7 (by decide) (by decide)]; exact g2
      have k := m_addStyle (σ := τ) t2 (by rw [e7]; omega) (q := q) (z := z) ht (by rw [e7]; omega) (by rw [e7]; omega)
      rw [e7] at k
      refine ⟨P1 (M1 (M1 (M1 (P1 τ 109 0 0) 113 ns q) 114 ns t) 115 ns z) 109 7 (ns + 1), k, rfl, by rw [P1_nj (by decide), M1_ne (by decide), M1_ne (by decide), M1_ne (by decide), P1_eq], fun a j y => by rw [P1_off (by omega), M1_ne (by omega), M1_ne (by omega), M1_ne (by omega), P1_off (by omega)], fun r1 => ?_⟩
      refine Sml.b2 hs (fun a j y1 y2 => ?_) ?_
      · replace y1 := smB_b y1
        by_cases y : a < 109
        · rw [r1 a j y, P1_off (by omega), M1_ne (by omega), M1_ne (by omega), M1_ne (by omega)]
        · rw [P1_off (by omega), M1_ne (by omega), M1_ne (by omega), M1_ne (by omega), P1_off (by omega)]
          exact t1 a j (by omega) (by omega)
      · have d84 : ∀ j : Nat, (P1 (M1 (M1 (M1 (P1 τ 109 0 0) 113 ns q) 114 ns t) 115 ns z) 109 7 (ns + 1)).1 84 j = if j = ns.toNat then q else σ.1 84 j := fun j => by rw [r1 84 j (by decide), P1_ne (by decide), M1_ne (by decide), M1_ne (by decide), up_at]
        have d85 : ∀ j : Nat, (P1 (M1 (M1 (M1 (P1 τ 109 0 0) 113 ns q) 114 ns t) 115 ns z) 109 7 (ns + 1)).1 85 j = if j = ns.toNat then t else σ.1 85 j := fun j => by rw [r1 85 j (by decide), P1_ne (by decide), M1_ne (by decide), up_at, M1_ne (by decide)]
        have d86 : ∀ j : Nat, (P1 (M1 (M1 (M1 (P1 τ 109 0 0) 113 ns q) 114 ns t) 115 ns z) 109 7 (ns + 1)).1 86 j = if j = ns.toNat then z else σ.1 86 j := fun j => by rw [r1 86 j (by decide), P1_ne (by decide), up_at, M1_ne (by decide), M1_ne (by decide)]
        have e113 : ∀ j : Nat, (P1 (M1 (M1 (M1 (P1 τ 109 0 0) 113 ns q) 114 ns t) 115 ns z) 109 7 (ns + 1)).1 113 j = if j = ns.toNat then q else σ.1 113 j := fun j => by rw [P1_ne (by decide), M1_ne (by decide), M1_ne (by decide), up_at, P1_ne (by decide), t1 113 j (by decide) (by decide)]
        have e114 : ∀ j : Nat, (P1 (M1 (M1 (M1 (P1 τ 109 0 0) 113 ns q) 114 ns t) 115 ns z) 109 7 (ns + 1)).1 114 j = if j = ns.toNat then t else σ.1 114 j := fun j => by rw [P1_ne (by decide), M1_ne (by decide), up_at, M1_ne (by decide), P1_ne (by decide), t1 114 j (by decide) (by decide)]
        have e115 : ∀ j : Nat, (P1 (M1 (M1 (M1 (P1 τ 109 0 0) 113 ns q) 114 ns t) 115 ns z) 109 7 (ns + 1)).1 115 j = if j = ns.toNat then z else σ.1 115 j := fun j => by rw [P1_ne (by decide), up_at, M1_ne (by decide), M1_ne (by decide), P1_ne (by decide), t1 115 j (by decide) (by decide)]
        refine ⟨⟨?_, ?_, by omega, by omega⟩, fun j => ?_, fun s s0 s1 => ?_⟩
        · rw [r1 83 3 (by decide), P1_eq]
        · rw [P1_eq]
        · rw [d84, d85, d86, e113, e114, e115, (g5 j).1, (g5 j).2.1, (g5 j).2.2]
          exact ⟨rfl, rfl, rfl⟩
        · rw [e113, e114]
          by_cases y : s.toNat = ns.toNat
          · rw [if_pos y, if_pos y]; exact ⟨by omega, ht⟩
          · rw [if_neg y, if_neg y]; exact g6 s s0 (by omega)
  · exact act_no h (wt_addStyle_1 (th1_addStyle hS c1)) (m_addStyle_1 hS (by omega) (by omega)) (by decide)
theorem st_numberOf (h : SimP σ pi A ns nf) {p : Int} : Act 5 4 mL_numberOf mX10_numberOf [vA 0, vI p, vA 133] [vA 109, vI p] σ := by
  obtain ⟨hS, hc, hA, hM, hI, hs⟩ := id h
  have hP := hI.now
  have h20 : nf ≤ 20 := hs.2.2.2.2.1.1.2.2.2
  have hWM := hP.wfM h20
  have hWB := hP.wfB h20
  have hN : RepN (cN σ) (A.1 A.2.1) := hM.2.2.2.1
  have hE := hP.1.1
  obtain ⟨e1, e2, e3, e4⟩ := id hE
  have hRw := hP.1.2.1
  by_cases q : 0 ≤ p ∧ p ≤ endsA (A.1 A.2.1).1.1 (A.1 A.2.1).1.2.1 (A.1 A.2.1).1.2.1
  · have q2 := (ixEnd_iff hE).mpr q
    have u := ixEnd_end hRw.1 q2
    have mt : ∀ {τ : St} {c : Int → Int}, τ.2 = σ.2 → (∀ a j : Nat, kpC a j → a < 133 → τ.1 a j = σ.1 a j) → PastM (ctT (P1 τ 109 0 0) c) A := fun {τ c} t2 t1 => hM.fr (fun a j z => by rw [ctT_ne (by omega), P1_off (by omega)]; exact t1 a j (by unfold kpC; omega) (by omega))
    by_cases h7 : (A.1 A.2.1).1.1 7 (ixEnd (A.1 A.2.1).1.1 (A.1 A.2.1).1.2.1 p) = -1
    · refine act_g (A' := A) (σ1 := σ) h (wo_numberOf (ok_numberOf_no hS hA q2 h7)) rfl (fun _ _ _ => rfl) hA hI (fun τ t2 t1 => ?_)
      have hS2 : Str τ.2.1 := by rw [t2]; exact hS
      have hN2 : RepN (cN τ) (A.1 A.2.1) := hN.to (fun j => t1 _ _ (by unfold kpC; omega) (by omega))
      exact ⟨_, m_numberOf_0 hS2 hN2.1 hE hWM.2.1 hP.endw q h7, rfl, by rw [ctT_ne (by decide), P1_eq], mt t2 t1, fun a j z => by unfold kpM at z; rw [ctT_ne (by omega), P1_off (by omega)]⟩
    · refine act_g (A' := A) h (wo_numberOf (ok_numberOf hS hA q2 u.2.2.2 h7 hP.endw)) rfl (fun a j z => ctS_ne (by unfold kpC at z; omega)) (hA.fr rfl (fun a j z1 z2 => ctS_ne (by omega))) hI (fun τ t2 t1 => ?_)
      have hS2 : Str τ.2.1 := by rw [t2]; exact hS
      have hN2 : RepN (cN τ) (A.1 A.2.1) := hN.to (fun j => t1 _ _ (by unfold kpC; omega) (by omega))
      exact ⟨_, m_numberOf hS2 hN2.1 hE hWM.2.1 hP.endw q h7, rfl, by rw [ctT_ne (by decide), P1_eq], mt t2 t1, fun a j z => by unfold kpM at z; rw [ctT_ne (by omega), P1_off (by omega)]⟩
  · have q2 : (ixEnd (A.1 A.2.1).1.1 (A.1 A.2.1).1.2.1 p) = -1 := Decidable.not_not.mp (fun z => q ((ixEnd_iff hE).mp z))
    exact act_no h (wt_numberOf_0 (th0_numberOf hS hA q2)) (m_numberOf_no hS hN.1 hE hWM.2.1 hP.endw q) (by decide)
theorem put_rel : ∀ (l : List Int) (s t : St), (∀ x ∈ l, 0 ≤ x ∧ x < 65536) → s.1 87 4 = t.1 109 21 → 0 ≤ s.1 87 4 → (∀ j : Nat, s.1 91 j = t.1 122 j ∧ 0 ≤ t.1 122 j ∧ t.1 122 j < 65536) → (putL s l).1 87 4 = (pmL t l).1 109 21 ∧ ∀ j : Nat, (putL s l).1 91 j = (pmL t l).1 122 j ∧ 0 ≤ (pmL t l).1 122 j ∧ (pmL t l).1 122 j < 65536 := by
  intro l
  induction l with
  | nil => intro s t _ h1 _ h3; exact ⟨h1, h3⟩
  | cons c l ih =>
    intro s t h0 h1 h2 h3
    show (putL (putS s c) l).1 87 4 = (pmL (pmS t c) l).1 109 21 ∧ ∀ j : Nat, (putL (putS s c) l).1 91 j = (pmL (pmS t c) l).1 122 j ∧ 0 ≤ (pmL (pmS t c) l).1 122 j ∧ (pmL (pmS t c) l).1 122 j < 65536
    refine ih _ _ (fun x hx => h0 x (List.mem_cons_of_mem _ hx)) ?_ ?_ (fun j => ?_)
    · unfold putS pmS
      rw [P1_eq, P1_eq, h1]
    · unfold putS
      rw [P1_eq]; omega
    · unfold putS pmS
      rw [P1_ne (by decide), P1_ne (by decide), up_at, up_at, h1]
      split
      · exact ⟨rfl, h0 c List.mem_cons_self⟩
      · exact h3 j
theorem digF_ch : ∀ (m : Nat) (q u : Int), ∀ x ∈ digF m q u, 0 ≤ x ∧ x < 65536 := by
  intro m
  induction m with
  | zero => intro q u x hx; cases hx
  | succ m ih =>
    intro q u x hx
    unfold digF at hx
    split at hx
    · cases hx
    · rcases List.mem_cons.mp hx with e | hx
      · rw [e]; omega
      · exact ih _ _ x hx
theorem romD_ch {d o f t : Int} (ho : 0 ≤ o ∧ o < 65536) (hf : 0 ≤ f ∧ f < 65536) (ht : 0 ≤ t ∧ t < 65536) : ∀ x ∈ romD d o f t, 0 ≤ x ∧ x < 65536 := by
  intro x hx
  unfold romD at hx
  split at hx
  · rcases List.mem_cons.mp hx with e | hx
    · rw [e]; exact ho
    · rcases List.mem_cons.mp hx with e | hx
      · rw [e]; split <;> assumption
      · cases hx
  · rcases List.mem_append.mp hx with hx | hx
    · split at hx
      · rcases List.mem_cons.mp hx with e | hx
        · rw [e]; exact hf
        · cases hx
      · cases hx
    · rw [List.eq_of_mem_replicate hx]; exact ho
theorem numC_ch {kd n : Int} : ∀ x ∈ numC kd n, 0 ≤ x ∧ x < 65536 := by
  intro x hx
  unfold numC at hx
  split at hx
  · unfold letC at hx
    rw [List.eq_of_mem_replicate hx]; omega
  · split at hx
    · unfold romC at hx
      rcases List.mem_append.mp hx with hx | hx
      · exact romD_ch (by decide) (by decide) (by decide) x hx
      · rcases List.mem_append.mp hx with hx | hx
        · exact romD_ch (by decide) (by decide) (by decide) x hx
        · exact romD_ch (by decide) (by decide) (by decide) x hx
    · exact digF_ch _ _ _ x hx
theorem linF_ch {kd c : Int → Int} : ∀ (m : Nat) (v : Int), ∀ x ∈ linF kd c m v, 0 ≤ x ∧ x < 65536 := by
  intro m
  induction m with
  | zero => intro v x hx; cases hx
  | succ m ih =>
    intro v x hx
    rw [linF] at hx
    rcases List.mem_append.mp hx with hx | hx
    · split at hx
      · rcases List.mem_cons.mp hx with e | hx
        · rw [e]; decide
        · cases hx
      · cases hx
    · rcases List.mem_append.mp hx with hx | hx
      · exact numC_ch x hx
      · exact ih _ x hx
theorem pmL_0j : ∀ {l : List Int} {s : St} {j : Nat}, j ≠ 21 → (pmL s l).1 109 j = s.1 109 j := by
  intro l
  induction l with
  | nil => intro s j _; rfl
  | cons c l ih =>
    intro s j h
    show (pmL (pmS s c) l).1 109 j = _
    rw [ih h]
    unfold pmS
    rw [P1_nj h, M1_ne (by decide)]
theorem pmL_0 {l : List Int} {s : St} : (pmL s l).1 109 0 = s.1 109 0 := pmL_0j (by decide)
theorem putL_0j : ∀ {l : List Int} {s : St} {j : Nat}, j ≠ 4 → (putL s l).1 87 j = s.1 87 j := by
  intro l
  induction l with
  | nil => intro s j _; rfl
  | cons c l ih =>
    intro s j h
    show (putL (putS s c) l).1 87 j = _
    rw [ih h]
    unfold putS
    rw [P1_nj h, M1_ne (by decide)]
theorem st_writeNumber (h : SimP σ pi A ns nf) {p : Int} : Act 7 5 mL_writeNumber mX10_writeNumber [vA 0, vI p, vA 133] [vA 109, vI p] σ := by
  obtain ⟨hS, hc, hA, hM, hI, hs⟩ := id h
  have hP := hI.now
  have h20 : nf ≤ 20 := hs.2.2.2.2.1.1.2.2.2
  have hWM := hP.wfM h20
  have hWB := hP.wfB h20
  have hN : RepN (cN σ) (A.1 A.2.1) := hM.2.2.2.1
  have hE := hP.1.1
  obtain ⟨e1, e2, e3, e4⟩ := id hE
  have hRw := hP.1.2.1
  by_cases q : 0 ≤ p ∧ p ≤ endsA (A.1 A.2.1).1.1 (A.1 A.2.1).1.2.1 (A.1 A.2.1).1.2.1
  · have q2 := (ixEnd_iff hE).mpr q
    have u := ixEnd_end hRw.1 q2
    by_cases h7 : (A.1 A.2.1).1.1 7 (ixEnd (A.1 A.2.1).1.1 (A.1 A.2.1).1.2.1 p) = -1
    · exact act_no h (wt_writeNumber_4 (th4_writeNumber hS hA q2 h7)) (m_writeNumber_2 hS hN.1 hE hWM.2.1 hP.endw q h7) (by decide)
    · have us := (hP.1.2.2.2.1 _ u.1 u.2.1).2.2.2.2.2 u.2.2.2
      obtain ⟨g1, g2, g3⟩ := hs.2.2.1
      obtain ⟨⟨a1, a2, a3⟩, a4⟩ := hs.2.2.2.1
      have hl := linF_len (kd := kdF σ ((A.1 A.2.1).1.1 7 (ixEnd (A.1 A.2.1).1.1 (A.1 A.2.1).1.2.1 p))) (c := ctF (A.1 A.2.1).1 (ixEnd (A.1 A.2.1).1.1 (A.1 A.2.1).1.2.1 p)) (fun j => by have := ctF_le hP.endw (e := (ixEnd (A.1 A.2.1).1.1 (A.1 A.2.1).1.2.1 p)) (by omega) (by omega) j; omega) ((A.1 A.2.1).1.1 8 (ixEnd (A.1 A.2.1).1.1 (A.1 A.2.1).1.2.1 p) + 1).toNat 0
      refine act_w (ns' := ns) h (wo_writeNumber (ok_writeNumber hS hA q2 u.2.2.2 h7 hP.endw)) (by rw [putL_2]; rfl) (fun a j z => by rw [putL_ne (by omega) (by omega), P1_ne (by omega), ctS_ne (by omega)]) hI (fun τ t2 t1 => ?_)
      have hN2 : RepN (cN τ) (A.1 A.2.1) := hN.to (fun j => t1 _ _ (by omega) (by omega))
      have ek : ∀ l : Int, kdM τ l = kdF σ l := fun l => funext fun v => by
        unfold kdM kdF
        rw [t1 117 _ (by decide) (by decide), t1 116 _ (by decide) (by decide), (g3 _).1, g1, show 3 * l + v = l * 3 + v by omega]
      have el : lineM τ (A.1 A.2.1).1 (ixEnd (A.1 A.2.1).1.1 (A.1 A.2.1).1.2.1 p) = lineC σ (A.1 A.2.1).1 (ixEnd (A.1 A.2.1).1.1 (A.1 A.2.1).1.2.1 p) := by unfold lineM lineC; rw [ek]
      have k := m_writeNumber (σ := τ) t2 hN2.1 hE hWM.2.1 hP.endw (p := p) (fun l v l0 l1 v0 v1 => by
        rw [ek]
        unfold kdF
        split
        · exact Or.inl rfl
        · rw [g1]; exact g2 _ (by omega)) q h7
      rw [el] at k
      refine ⟨_, k, by rw [pmL_2]; rfl, ?_, fun a j z => ?_, fun r1 => ?_⟩
      · have e := fun (l : List Int) (s : St) => (show (pmL s l).1 109 0 = s.1 109 0 from pmL_0)
        rw [e, P1_nj (by decide), ctT_ne (by decide), P1_eq]
      · by_cases y : a = 109
        · subst y
          rw [pmL_0j (by omega), P1_nj (by omega), ctT_ne (by decide), P1_nj (by omega)]
        · rw [pmL_ne y (by omega), P1_ne y, ctT_ne (by omega), P1_ne y]
      · refine Sml.b4 hs (fun a j y1 y2 => ?_) ?_
        · replace y1 := smB_b y1
          by_cases y : a < 109
          · rw [r1 a j y]
            by_cases y3 : a = 87
            · subst y3
              rw [putL_0j (by omega), P1_nj (by omega), ctS_ne (by decide)]
            · rw [putL_ne y3 (by omega), P1_ne y3, ctS_ne (by omega)]
          · by_cases y3 : a = 109
            · subst y3
              rw [pmL_0j (by omega), P1_nj (by omega), ctT_ne (by decide), P1_nj (by omega)]; exact t1 _ _ (by omega) (by omega)
            · rw [pmL_ne y3 (by omega), P1_ne y3, ctT_ne (by omega), P1_ne y3]; exact t1 _ _ (by omega) (by omega)
        · have z := put_rel (lineC σ (A.1 A.2.1).1 (ixEnd (A.1 A.2.1).1.1 (A.1 A.2.1).1.2.1 p)) (P1 (ctS σ (ctF (A.1 A.2.1).1 (ixEnd (A.1 A.2.1).1.1 (A.1 A.2.1).1.2.1 p))) 87 4 0) (P1 (ctT (P1 τ 109 0 0) (ctF (A.1 A.2.1).1 (ixEnd (A.1 A.2.1).1.1 (A.1 A.2.1).1.2.1 p))) 109 21 0) (linF_ch _ _) (by rw [P1_eq, P1_eq]) (by rw [P1_eq]; decide) (fun j => by
            rw [P1_ne (by decide), ctS_ne (by decide), P1_ne (by decide), ctT_ne (by decide), P1_ne (by decide), t1 122 j (by decide) (by decide)]; exact a4 j)
          refine ⟨⟨?_, ?_, ?_⟩, fun j => ?_⟩
          · rw [r1 87 4 (by decide)]; exact z.1
          · rw [r1 87 4 (by decide), putL_n, P1_eq]; omega
          · rw [r1 87 4 (by decide), putL_n, P1_eq]; unfold lineC; omega
          · rw [r1 91 j (by decide)]; exact z.2 j
  · have q2 : (ixEnd (A.1 A.2.1).1.1 (A.1 A.2.1).1.2.1 p) = -1 := Decidable.not_not.mp (fun z => q ((ixEnd_iff hE).mp z))
    exact act_no h (wt_writeNumber_0 (th0_writeNumber hS hA q2)) (m_writeNumber_1 hS hN.1 hE hWM.2.1 hP.endw q) (by decide)
end Rest2
