/-! The office and the reference side by side: what of their cells agrees. -/
section SimS
variable {σ σ' : St} {ns nf : Int}
def smA (a : Nat) : Prop := (84 ≤ a ∧ a ≤ 86) ∨ a = 88 ∨ a = 89 ∨ a = 91 ∨ (93 ≤ a ∧ a ≤ 95) ∨ a = 97 ∨ (113 ≤ a ∧ a ≤ 122)
def smL : List (Nat × Nat) := [(0, 0), (83, 3), (87, 4), (92, 3), (96, 1), (98, 0), (98, 1), (109, 6), (109, 7), (109, 13), (109, 18), (109, 19), (109, 20), (109, 21)]
def smB (a j : Nat) : Prop := smA a ∨ (a, j) ∈ smL
theorem smB_b {a j : Nat} (z : smB a j) : a = 0 ∨ (83 ≤ a ∧ a ≤ 89) ∨ (91 ≤ a ∧ a ≤ 97) ∨ (a = 98 ∧ j ≤ 1) ∨ (a = 109 ∧ 6 ≤ j ∧ j ≤ 21) ∨ (113 ≤ a ∧ a ≤ 122) := by
  rcases z with z | z
  · unfold smA at z; omega
  · have h : ∀ p ∈ smL, p.1 = 0 ∨ (83 ≤ p.1 ∧ p.1 ≤ 89) ∨ (91 ≤ p.1 ∧ p.1 ≤ 97) ∨ (p.1 = 98 ∧ p.2 ≤ 1) ∨ (p.1 = 109 ∧ 6 ≤ p.2 ∧ p.2 ≤ 21) ∨ (113 ≤ p.1 ∧ p.1 ≤ 122) := by decide
    exact h _ z
def Sm1 (σ : St) : Prop := σ.1 0 0 = σ.1 109 6 ∧ (σ.1 0 0 = 0 ∨ σ.1 0 0 = 1)
def Sm2 (ns : Int) (σ : St) : Prop := (σ.1 83 3 = ns ∧ σ.1 109 7 = ns ∧ 1 ≤ ns ∧ ns ≤ 8) ∧ (∀ j : Nat, σ.1 84 j = σ.1 113 j ∧ σ.1 85 j = σ.1 114 j ∧ σ.1 86 j = σ.1 115 j) ∧ ∀ s : Int, 0 ≤ s → s < ns → (-1 ≤ σ.1 113 s.toNat ∧ σ.1 113 s.toNat < s) ∧ (σ.1 114 s.toNat = 0 ∨ σ.1 114 s.toNat = 1)
def Sm3 (σ : St) : Prop := (∀ j : Nat, σ.1 88 j = σ.1 116 j) ∧ (∀ j : Nat, j < 9 → σ.1 116 j = 100 ∨ σ.1 116 j = 97 ∨ σ.1 116 j = 114) ∧ ∀ j : Nat, σ.1 89 j = σ.1 117 j ∧ (σ.1 117 j = 0 ∨ σ.1 117 j = 1)
def Sm4 (σ : St) : Prop := (σ.1 87 4 = σ.1 109 21 ∧ 0 ≤ σ.1 87 4 ∧ σ.1 87 4 ≤ 128) ∧ ∀ j : Nat, σ.1 91 j = σ.1 122 j ∧ 0 ≤ σ.1 122 j ∧ σ.1 122 j < 65536
def Sm5 (nf : Int) (σ : St) : Prop := (σ.1 92 3 = nf ∧ σ.1 109 13 = nf ∧ 0 ≤ nf ∧ nf ≤ 20) ∧ (∀ j : Nat, σ.1 93 j = σ.1 118 j ∧ σ.1 94 j = σ.1 119 j ∧ σ.1 95 j = σ.1 120 j ∧ (σ.1 120 j = 0 ∨ σ.1 120 j = 1)) ∧ (∀ f : Int, 0 ≤ f → f < nf → fkB (σ.1 118 f.toNat) (σ.1 119 f.toNat)) ∧ ∀ j : Nat, nf ≤ j → σ.1 120 j = 0
def Sm6 (σ : St) : Prop := (σ.1 96 1 = σ.1 109 18 ∧ 0 ≤ σ.1 96 1 ∧ σ.1 96 1 < 5) ∧ (∀ j : Nat, σ.1 97 j = σ.1 121 j) ∧ ∀ j : Nat, j < 15 → 0 ≤ σ.1 121 j ∧ σ.1 121 j ≤ 9999
def Sm7 (σ : St) : Prop := (σ.1 98 0 = σ.1 109 19 ∧ σ.1 98 1 = σ.1 109 20) ∧ (5 ≤ σ.1 98 0 ∧ σ.1 98 0 ≤ 60) ∧ 2 ≤ σ.1 98 1 ∧ σ.1 98 1 ≤ 40
def Sml (ns nf : Int) (σ : St) : Prop := Sm1 σ ∧ Sm2 ns σ ∧ Sm3 σ ∧ Sm4 σ ∧ Sm5 nf σ ∧ Sm6 σ ∧ Sm7 σ
theorem Sm1.fr (h : Sm1 σ) (e1 : σ'.1 0 0 = σ.1 0 0) (e2 : σ'.1 109 6 = σ.1 109 6) : Sm1 σ' := by
  unfold Sm1 at h ⊢; rw [e1, e2]; exact h
theorem Sm2.fr (h : Sm2 ns σ) (e1 : σ'.1 83 3 = σ.1 83 3) (e2 : σ'.1 109 7 = σ.1 109 7) (e3 : ∀ a j : Nat, (84 ≤ a ∧ a ≤ 86) ∨ (113 ≤ a ∧ a ≤ 115) → σ'.1 a j = σ.1 a j) : Sm2 ns σ' := by
  obtain ⟨h1, h2, h3⟩ := h
  refine ⟨by rw [e1, e2]; exact h1, fun j => by rw [e3 84 j (by omega), e3 85 j (by omega), e3 86 j (by omega), e3 113 j (by omega), e3 114 j (by omega), e3 115 j (by omega)]; exact h2 j, fun s s0 s1 => by rw [e3 113 _ (by omega), e3 114 _ (by omega)]; exact h3 s s0 s1⟩
theorem Sm3.fr (h : Sm3 σ) (e3 : ∀ a j : Nat, a = 88 ∨ a = 89 ∨ a = 116 ∨ a = 117 → σ'.1 a j = σ.1 a j) : Sm3 σ' := by
  obtain ⟨h1, h2, h3⟩ := h
  exact ⟨fun j => by rw [e3 88 j (by omega), e3 116 j (by omega)]; exact h1 j, fun j hj => by rw [e3 116 j (by omega)]; exact h2 j hj, fun j => by rw [e3 89 j (by omega), e3 117 j (by omega)]; exact h3 j⟩
theorem Sm4.fr (h : Sm4 σ) (e1 : σ'.1 87 4 = σ.1 87 4) (e2 : σ'.1 109 21 = σ.1 109 21) (e3 : ∀ a j : Nat, a = 91 ∨ a = 122 → σ'.1 a j = σ.1 a j) : Sm4 σ' := by
  obtain ⟨h1, h2⟩ := h
  exact ⟨by rw [e1, e2]; exact h1, fun j => by rw [e3 91 j (by omega), e3 122 j (by omega)]; exact h2 j⟩
theorem Sm5.fr (h : Sm5 nf σ) (e1 : σ'.1 92 3 = σ.1 92 3) (e2 : σ'.1 109 13 = σ.1 109 13) (e3 : ∀ a j : Nat, (93 ≤ a ∧ a ≤ 95) ∨ (118 ≤ a ∧ a ≤ 120) → σ'.1 a j = σ.1 a j) : Sm5 nf σ' := by
  obtain ⟨h1, h2, h3, h4⟩ := h
  refine ⟨by rw [e1, e2]; exact h1, fun j => by rw [e3 93 j (by omega), e3 94 j (by omega), e3 95 j (by omega), e3 118 j (by omega), e3 119 j (by omega), e3 120 j (by omega)]; exact h2 j, fun s s0 s1 => by rw [e3 118 _ (by omega), e3 119 _ (by omega)]; exact h3 s s0 s1, fun j hj => by rw [e3 120 j (by omega)]; exact h4 j hj⟩
theorem Sm6.fr (h : Sm6 σ) (e1 : σ'.1 96 1 = σ.1 96 1) (e2 : σ'.1 109 18 = σ.1 109 18) (e3 : ∀ a j : Nat, a = 97 ∨ a = 121 → σ'.1 a j = σ.1 a j) : Sm6 σ' := by
  obtain ⟨h1, h2, h3⟩ := h
  exact ⟨by rw [e1, e2]; exact h1, fun j => by rw [e3 97 j (by omega), e3 121 j (by omega)]; exact h2 j, fun j hj => by rw [e3 121 j (by omega)]; exact h3 j hj⟩
theorem Sm7.fr (h : Sm7 σ) (e1 : σ'.1 98 0 = σ.1 98 0) (e2 : σ'.1 98 1 = σ.1 98 1) (e3 : σ'.1 109 19 = σ.1 109 19) (e4 : σ'.1 109 20 = σ.1 109 20) : Sm7 σ' := by
  unfold Sm7 at h ⊢; rw [e1, e2, e3, e4]; exact h
theorem Sml.fr (h : Sml ns nf σ) (hF : ∀ a j, smB a j → σ'.1 a j = σ.1 a j) : Sml ns nf σ' := by
  obtain ⟨h1, h2, h3, h4, h5, h6, h7⟩ := h
  have c : ∀ a j, (a, j) ∈ smL → σ'.1 a j = σ.1 a j := fun a j z => hF a j (Or.inr z)
  have q : ∀ a j, smA a → σ'.1 a j = σ.1 a j := fun a j z => hF a j (Or.inl z)
  unfold smA at q
  exact ⟨h1.fr (c _ _ (by decide)) (c _ _ (by decide)), h2.fr (c _ _ (by decide)) (c _ _ (by decide)) (fun a j z => q a j (by omega)), h3.fr (fun a j z => q a j (by omega)), h4.fr (c _ _ (by decide)) (c _ _ (by decide)) (fun a j z => q a j (by omega)),
    h5.fr (c _ _ (by decide)) (c _ _ (by decide)) (fun a j z => q a j (by omega)), h6.fr (c _ _ (by decide)) (c _ _ (by decide)) (fun a j z => q a j (by omega)), h7.fr (c _ _ (by decide)) (c _ _ (by decide)) (c _ _ (by decide)) (c _ _ (by decide))⟩
theorem Sml.tr (h : Sml ns nf σ) : ∃ tr : Bool, σ.1 0 0 = bI (tr = true) ∧ σ.1 109 6 = bI (tr = true) := by
  obtain ⟨⟨h1, h2⟩, -⟩ := h
  rcases h2 with h2 | h2
  · exact ⟨false, by rw [h2]; rfl, by rw [← h1, h2]; rfl⟩
  · exact ⟨true, by rw [h2]; rfl, by rw [← h1, h2]; rfl⟩
theorem Sml.stym (h : Sml ns nf σ) : StyM σ := by
  obtain ⟨-, ⟨h1, h2, h3⟩, -⟩ := h
  exact ⟨by omega, fun s s0 s1 => (h3 s s0 (by omega)).1⟩
theorem clF_eq {a b n : Nat} (h : ∀ j : Nat, σ.1 a j = σ'.1 b j) : clF σ a n = clF σ' b n := by
  funext j
  unfold clF cl
  rw [h]
theorem Sml.kv (h : Sml ns nf σ) : KVs σ = KVm σ := by
  obtain ⟨-, ⟨h1, h2, h3⟩, -⟩ := h
  unfold KVs KVm
  rw [clF_eq (a := 84) (b := 113) (σ' := σ) (fun j => (h2 j).1), clF_eq (a := 86) (b := 115) (σ' := σ) (fun j => (h2 j).2.2)]
theorem Sml.wh (h : Sml ns nf σ) : WH σ := by
  obtain ⟨-, -, -, -, -, -, -, ⟨a, b⟩, c, d⟩ := h
  exact ⟨a, b, c, d⟩
theorem Sml.rc (h : Sml ns nf σ) : RcW σ := fun j hj => by
  obtain ⟨-, -, -, -, -, ⟨-, h2, h3⟩, -⟩ := h
  rw [h2]; exact h3 j hj
theorem Sml.fk {D : PapD} (h : Sml ns nf σ) (hP : PpI nf ns D) : FkW σ D.1 := fun i i0 i1 q => by
  obtain ⟨-, -, -, -, ⟨h1, h2, h3, -⟩, -⟩ := h
  have u := (hP.1.2.2.2.1 i i0 (by omega)).1
  rw [(h2 _).1, (h2 _).2.1]
  exact h3 _ (by omega) (by omega)
theorem Sml.vl (h : Sml ns nf σ) (R : RowD) (rc : Int) : vlS σ R rc = vlM σ R rc ∧ hdS σ = hdM σ := by
  have hk := h.kv
  obtain ⟨-, -, -, -, ⟨h1, h2, h3, -⟩, ⟨-, g2, g3⟩, ⟨k1, k2⟩, -⟩ := h
  refine ⟨?_, funext fun f => (h2 _).2.2.1⟩
  funext Q f
  unfold vlS vlM
  rw [hk, k1, k2, (h2 f.toNat).1, (h2 f.toNat).2.1, g2, show rc * 3 + σ.1 119 f.toNat = 3 * rc + σ.1 119 f.toNat by omega]
theorem Sml.upw {D : PapD} (h : Sml ns nf σ) (hP : PpI nf ns D) : UpW σ D.1 D.2.1 := by
  have hs := h.stym
  have hW := h.wh
  obtain ⟨-, ⟨g1, g2, g3⟩, -, -, ⟨h1, h2, h3, -⟩, ⟨-, k2, k3⟩, ⟨r1, r2⟩, r3, r4⟩ := h
  have h20 : nf ≤ 20 := h1.2.2.2
  refine ⟨hP.wfM h20, hP.ltw, hP.endw, Int.le_trans hP.1.2.2.2.2.2 h20, hs, by rw [g1.2.1]; exact hP.styw, by rw [← r1]; exact r3, by rw [← r2]; exact r4, by rw [h1.2.1]; exact h1.2.2, fun i i0 i1 q => ?_, by rw [h1.2.1]; exact h3, k3⟩
  have u := (hP.1.2.2.2.1 i i0 i1).1
  rw [h1.2.1]
  omega
theorem PastM.fr {A : PastD} (h : PastM σ A) (hF : ∀ a j : Nat, (a = 109 ∧ (j = 4 ∨ j = 5)) ∨ a = 110 ∨ a = 111 ∨ a = 112 → σ'.1 a j = σ.1 a j) : PastM σ' A := by
  obtain ⟨h1, h2, h3, h4, h5, h6⟩ := h
  have c : cN σ' = cN σ := funext fun x => hF _ _ (by omega)
  have c1 : ∀ o, cA σ' 111 o = cA σ 111 o := fun o => funext fun x => hF _ _ (by omega)
  have c2 : ∀ o, cA σ' 112 o = cA σ 112 o := fun o => funext fun x => hF _ _ (by omega)
  exact ⟨by rw [hF _ _ (by omega)]; exact h1, by rw [hF _ _ (by omega)]; exact h2, h3, by rw [c]; exact h4, fun j hj => by rw [c1]; exact h5 j hj, fun j hj => by rw [c2]; exact h6 j hj⟩
/-- both sides, of one past -/
def SimP (σ : St) (pi : Nat → Nat) (A : PastD) (ns nf : Int) : Prop := Str σ.2.1 ∧ σ.2.2 = 135 ∧ PastR σ pi A ∧ PastM σ A ∧ AllI nf ns A ∧ Sml ns nf σ
def Sim (σ : St) : Prop := ∃ (pi : Nat → Nat) (A : PastD) (ns nf : Int), SimP σ pi A ns nf
/-- one act on both sides: the office's way to call says what the reference says -/
def Act (d1 d2 : Nat) (m1 m2 : MI) (as1 as2 : List MV) (σ : St) : Prop := ∃ (k v : Int) (σ1 σ2 : St), Con d1 m1 1 6 as1 σ (vI k, σ1) ∧ Con d2 m2 0 0 as2 σ1 (vI v, σ2) ∧ σ2.1 109 0 = k ∧ (k = 0 → σ2.1 133 0 = v) ∧ Sim σ2
/-- one act on both sides of a way that never throws -/
def Ask (d1 d2 : Nat) (m1 m2 : MI) (as1 as2 : List MV) (σ : St) : Prop := ∃ (v : Int) (σ1 σ2 : St), Con d1 m1 0 0 as1 σ (vI v, σ1) ∧ Con d2 m2 0 0 as2 σ1 (vI v, σ2) ∧ Sim σ2
variable {pi : Nat → Nat} {A : PastD}
/-- a throw, told by both -/
theorem act_no {d1 d2 : Nat} {m1 m2 : MI} {as1 as2 : List MV} {k : Int} (h : SimP σ pi A ns nf) (h1 : Con d1 m1 1 6 as1 σ (vI k, σ)) (h2 : Con d2 m2 0 0 as2 σ (vI 0, P1 σ 109 0 k)) (hk : k ≠ 0) : Act d1 d2 m1 m2 as1 as2 σ := by
  obtain ⟨a, b, c, d, e, f⟩ := h
  refine ⟨k, 0, σ, P1 σ 109 0 k, h1, h2, P1_eq, fun z => absurd z hk, pi, A, ns, nf, a, b, past_frm c (P1_frm (lo := 109) (hi := 109) (by omega)) (by omega), d.th, e, f.fr (fun a j z => ?_)⟩
  replace z := smB_b z
  by_cases q : a = 109
  · rw [q]; exact P1_nj (by omega)
  · exact P1_ne q
/-- the same where the reference has laid something first -/
theorem act_no2 {d1 d2 : Nat} {m1 m2 : MI} {as1 as2 : List MV} {k : Int} {σ2 : St} (h : SimP σ pi A ns nf) (h1 : Con d1 m1 1 6 as1 σ (vI k, σ)) (h2 : Con d2 m2 0 0 as2 σ (vI 0, P1 σ2 109 0 k)) (hF : FrY σ σ2) (hk : k ≠ 0) : Act d1 d2 m1 m2 as1 as2 σ := by
  obtain ⟨a, b, c, d, e, f⟩ := h
  have hp : ∀ a j : Nat, a ≠ 109 → ¬ (126 ≤ a ∧ a ≤ 132) → (P1 σ2 109 0 k).1 a j = σ.1 a j := fun a j q1 q2 => by rw [P1_ne q1, hF.2 _ _ (by omega)]
  have hp9 : ∀ j : Nat, j ≠ 0 → j ≠ 28 → j ≠ 32 → j ≠ 33 → (P1 σ2 109 0 k).1 109 j = σ.1 109 j := fun j q1 q2 q3 q4 => by rw [P1_nj q1, hF.2 _ _ (by omega)]
  refine ⟨k, 0, σ, P1 σ2 109 0 k, h1, h2, P1_eq, fun z => absurd z hk, pi, A, ns, nf, by show Str σ2.2.1; rw [hF.1]; exact a, by show σ2.2.2 = _; rw [hF.1]; exact b, past_frm c (lo := 109) (hi := 134) ⟨hF.1, fun a q j => ?_⟩ (by omega), d.fr (fun a j z => ?_), e, f.fr (fun a j z => ?_)⟩
  · exact hp a j (by omega) (by omega)
  · by_cases q : a = 109
    · rw [q]; exact hp9 j (by omega) (by omega) (by omega) (by omega)
    · exact hp a j q (by omega)
  · replace z := smB_b z
    by_cases q : a = 109
    · rw [q]; exact hp9 j (by omega) (by omega) (by omega) (by omega)
    · exact hp a j q (by omega)
/-- a question that both answer -/
theorem act_q {d1 d2 : Nat} {m1 m2 : MI} {as1 as2 : List MV} {v : Int} (h : SimP σ pi A ns nf) (h1 : Con d1 m1 1 6 as1 σ (vI 0, M1 σ 133 0 v)) (h2 : ∀ τ : St, τ.2 = σ.2 → (∀ a j : Nat, a < 133 → τ.1 a j = σ.1 a j) → Con d2 m2 0 0 as2 τ (vI v, P1 τ 109 0 0)) : Act d1 d2 m1 m2 as1 as2 σ := by
  obtain ⟨a, b, c, d, e, f⟩ := h
  have hp : ∀ a j : Nat, a < 133 → ¬ (a = 109 ∧ j = 0) → (P1 (M1 σ 133 0 v) 109 0 0).1 a j = σ.1 a j := fun a j q1 q2 => by
    by_cases q : a = 109
    · rw [q, P1_nj (by omega), M1_ne (by omega)]
    · rw [P1_ne q, M1_ne (by omega)]
  refine ⟨0, v, M1 σ 133 0 v, P1 (M1 σ 133 0 v) 109 0 0, h1, h2 _ rfl (fun a j q => M1_ne (by omega)), P1_eq, fun _ => by rw [P1_ne (by omega)]; exact M1_eq rfl, pi, A, ns, nf, a, b, past_frm c (lo := 109) (hi := 134) ⟨rfl, fun a q j => ?_⟩ (by omega), d.fr (fun a j z => hp a j (by omega) (by omega)), e, f.fr (fun a j z => ?_)⟩
  · by_cases q1 : a < 133
    · exact hp a j q1 (by omega)
    · rw [P1_ne (by omega), M1_ne (by omega)]
  · replace z := smB_b z
    exact hp a j (by omega) (by omega)
theorem ask_q {d1 d2 : Nat} {m1 m2 : MI} {as1 as2 : List MV} {v : Int} (h : SimP σ pi A ns nf) (h1 : Con d1 m1 0 0 as1 σ (vI v, σ)) (h2 : Con d2 m2 0 0 as2 σ (vI v, P1 σ 109 0 0)) : Ask d1 d2 m1 m2 as1 as2 σ := by
  obtain ⟨a, b, c, d, e, f⟩ := h
  refine ⟨v, σ, P1 σ 109 0 0, h1, h2, pi, A, ns, nf, a, b, past_frm c (P1_frm (lo := 109) (hi := 109) (by omega)) (by omega), d.th, e, f.fr (fun a j z => ?_)⟩
  replace z := smB_b z
  by_cases q : a = 109
  · rw [q]; exact P1_nj (by omega)
  · exact P1_ne q
/-- an act that both do to the paper -/
theorem act_ed {d1 d2 : Nat} {m1 m2 : MI} {as1 as2 : List MV} {v ns' nf' : Int} {σ0 σ1 : St} {pi' : Nat → Nat} {A' : PastD} (h : SimP σ pi A ns nf) (h1 : Con d1 m1 1 6 as1 σ (vI 0, M1 σ1 133 0 v)) (hE : Ed σ0 σ1 pi' A') (h00 : σ0.2 = σ.2) (h0 : ∀ a j : Nat, ¬ (92 ≤ a ∧ a ≤ 94) → σ0.1 a j = σ.1 a j)
    (h2 : ∀ τ : St, Str τ.2.1 → PastM τ A → (∀ a j : Nat, (109 ≤ a ∧ a < 133) → τ.1 a j = σ.1 a j) → ∃ τ' τ'' : St, Con d2 m2 0 0 as2 τ (vI v, τ'') ∧ PastM τ' A' ∧ FrE τ τ' ∧ τ'.1 109 0 = 0 ∧ τ''.2 = τ'.2 ∧ (∀ a j : Nat, ¬ (a = 109 ∧ j = 13) → ¬ (118 ≤ a ∧ a ≤ 120) → τ''.1 a j = τ'.1 a j) ∧ ((∀ a j : Nat, a < 109 → τ''.1 a j = (M1 σ1 133 0 v).1 a j) → (∀ a j : Nat, 113 ≤ a ∧ a ≤ 122 → τ'.1 a j = σ.1 a j) → (∀ j : Nat, j ≠ 0 → j ≠ 4 → j ≠ 5 → τ'.1 109 j = σ.1 109 j) → Sml ns' nf' τ''))
    (hI : AllI nf' ns' A') : Act d1 d2 m1 m2 as1 as2 σ := by
  obtain ⟨a, b, c, d, e, f⟩ := h
  obtain ⟨p1, p2, p3, p4⟩ := hE
  have hk : ∀ a j : Nat, 109 ≤ a → a < 133 → (M1 σ1 133 0 v).1 a j = σ.1 a j := fun a j q1 q2 => by
    rw [M1_ne (by omega), p4 a (by omega), h0 a j (by omega)]
  obtain ⟨τ', τ'', k1, k2, k3, k4, k5, k6, k7⟩ := h2 (M1 σ1 133 0 v) p2 (d.fr (fun a j z => hk a j (by omega) (by omega))) (fun a j z => hk a j z.1 z.2)
  have hc : ∀ a j : Nat, a < 109 → τ''.1 a j = (M1 σ1 133 0 v).1 a j := fun a j q => by rw [k6 a j (by omega) (by omega), k3.2 a j (by omega)]
  have hsm := k7 hc (fun a j q => by rw [k3.2 a j (by omega), hk a j (by omega) (by omega)]) (fun j q1 q2 q3 => by rw [k3.2 109 j (by omega), hk 109 j (by omega) (by omega)])
  have h22 : τ''.2 = σ1.2 := k5.trans k3.1
  refine ⟨0, v, M1 σ1 133 0 v, τ'', h1, k1, by rw [k6 _ _ (by omega) (by omega)]; exact k4, fun _ => by rw [k6 _ _ (by omega) (by omega), k3.2 _ _ (by omega)]; exact M1_eq rfl, pi', A', ns', nf', by rw [h22]; exact p2, by rw [h22, p3, h00]; exact b, past_frm p1 (lo := 109) (hi := 134) ⟨h22, fun a q j => ?_⟩ (by omega), k2.fr (fun a j z => k6 a j (by omega) (by omega)), hI, hsm⟩
  by_cases q1 : a < 109
  · rw [hc a j q1, M1_ne (by omega)]
  · rw [k6 a j (by omega) (by omega), k3.2 a j (by omega), M1_ne (by omega)]
/-- the same, where nothing but the paper changes -/
theorem act_ed0 {d1 d2 : Nat} {m1 m2 : MI} {as1 as2 : List MV} {v : Int} {σ1 : St} {pi' : Nat → Nat} {A' : PastD} (h : SimP σ pi A ns nf) (h1 : Con d1 m1 1 6 as1 σ (vI 0, M1 σ1 133 0 v)) (hE : Ed σ σ1 pi' A')
    (h2 : ∀ τ : St, Str τ.2.1 → PastM τ A → (∀ a j : Nat, (109 ≤ a ∧ a < 133) → τ.1 a j = σ.1 a j) → ∃ τ' : St, Con d2 m2 0 0 as2 τ (vI v, τ') ∧ PastM τ' A' ∧ FrE τ τ' ∧ τ'.1 109 0 = 0)
    (hI : AllI nf ns A') : Act d1 d2 m1 m2 as1 as2 σ := by
  refine act_ed h h1 hE rfl (fun _ _ _ => rfl) (fun τ q1 q2 q3 => ?_) hI
  obtain ⟨τ', k1, k2, k3, k4⟩ := h2 τ q1 q2 q3
  refine ⟨τ', τ', k1, k2, k3, k4, rfl, fun _ _ _ _ => rfl, fun r1 r2 r3 => h.2.2.2.2.2.fr (fun a j z => ?_)⟩
  replace z := smB_b z
  by_cases y : a < 109
  · rw [r1 a j y, M1_ne (by omega), hE.2.2.2 a (by omega)]
  · by_cases y2 : a = 109
    · rw [y2]; exact r3 j (by omega) (by omega) (by omega)
    · exact r2 a j (by omega)
end SimS
