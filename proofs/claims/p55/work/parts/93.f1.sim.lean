/-! The office and the desk side by side. -/
section Sim
variable {σ σ' τ : St} {A : PastD} {F : Nat → DocF}
theorem strF_lt {a k : Nat} (h : (strF a k).isSome = true) : a < 109 := by
  unfold strF at h
  cases e : strL.find? (fun e => e.1 == a && e.2.1 == k) with
  | none => rw [e] at h; exact absurd h (by decide)
  | some x =>
    have hm := List.mem_of_find?_eq_some e
    have hp := List.find?_some e
    have h9 : ∀ e ∈ strL, e.1 < 109 := by decide +kernel
    have := h9 x hm
    have h1 : x.1 = a := by
      have : (x.1 == a && x.2.1 == k) = true := hp
      rw [Bool.and_eq_true] at this
      exact eq_of_beq this.1
    omega
/-- the office has not changed -/
def Lo (σ σ' : St) : Prop := ∀ x, x < 109 → (∀ j, σ'.1 x j = σ.1 x j) ∧ ∀ j, σ'.2.1 x j = σ.2.1 x j
theorem OutD.lo {P : Nat → Prop} (h : OutD σ σ' P) (hc : 109 ≤ σ.2.2) (hp : ∀ x, P x → 109 ≤ x) : Lo σ σ' := fun x hx => h.2 x (by omega) (fun z => by have := hp x z; omega)
/-- the office stands for A -/
def Off (σ : St) (A : PastD) : Prop := Str σ.2.1 ∧ (∃ pi, PastR σ pi A) ∧ WH σ ∧ (σ.1 0 0 = 0 ∨ σ.1 0 0 = 1)
theorem PastR.lo {pi : Nat → Nat} (h : PastR σ pi A) (hF : Lo σ σ') : PastR σ' pi A := by
  obtain ⟨⟨a, b⟩, c, d, e, f⟩ := h
  refine ⟨⟨fun j hj => ⟨((hF 2 (by omega)).2 j).trans (a j hj).1, (a j hj).2⟩, b⟩, ((hF 1 (by omega)).1 1).trans c, ((hF 1 (by omega)).1 2).trans d, e, fun j hj => (f j hj).eqs (fun x h1 h2 => (hF x ?_).1)⟩
  have := (a j (by omega)).2
  omega
theorem Off.lo (h : Off σ A) (hF : Lo σ σ') : Off σ' A := by
  obtain ⟨a, ⟨pi, b⟩, c, d⟩ := h
  refine ⟨fun x k hk => ((hF x (strF_lt hk)).2 k).trans (a x k hk), ⟨pi, b.lo hF⟩, ?_, ?_⟩
  · unfold WH
    rw [(hF 98 (by omega)).1, (hF 98 (by omega)).1]
    exact c
  · rw [(hF 0 (by omega)).1]
    exact d
/-- the law's own has not changed -/
def Hi (σ σ' : St) : Prop := OutD σ σ' (fun x => x < 109)
theorem DkR.hi {un rn : Nat} {P : Nat → PapD} (h : DkR σ F un rn P) (hF : Hi σ σ') : DkR σ' F un rn P := by
  obtain ⟨⟨⟨g1, g2, g3⟩, ⟨p1, p2⟩, hc⟩, ⟨a1, a2, a3⟩, b, c, d, e, f⟩ := h
  have m1 := hF.2 109 (by omega) (by omega)
  have m2 := hF.2 114 (by omega) (by omega)
  have m3 := hF.2 115 (by omega) (by omega)
  exact ⟨⟨⟨(hF.gam (by omega) (by omega)).trans g1, (hF.gam (by omega) (by omega)).trans g2, (hF.gam (by omega) (by omega)).trans g3⟩, ⟨(m1.2 1).trans p1, (m1.2 3).trans p2⟩, Nat.le_trans hc hF.1⟩, ⟨(m1.1 2).trans a1, (m1.1 4).trans a2, a3⟩, (m1.2 0).trans b, fun i hi => (m2.2 i).trans (c i hi), fun i hi => (m3.2 i).trans (d i hi), fun j hj => (e j hj).out hF (fun x hx => by
    have := ((e j hj).g hx).2.1
    omega), f⟩
theorem Ed.hi {pi' : Nat → Nat} (h : Ed σ σ' pi' A) : Hi σ σ' := ⟨Nat.le_of_eq h.2.2.1.symm, fun x _ hn => ⟨h.2.2.2.1 x (by omega), h.2.2.2.2 x (by omega)⟩⟩
theorem Ed.off {A0 : PastD} {pi' : Nat → Nat} (h : Ed σ σ' pi' A) (hO : Off σ A0) : Off σ' A := by
  refine ⟨h.2.1, ⟨pi', h.1⟩, ?_, ?_⟩
  · unfold WH
    rw [h.2.2.2.1 98 (by omega), h.2.2.2.1 98 (by omega)]
    exact hO.2.2.1
  · rw [h.2.2.2.1 0 (by omega)]
    exact hO.2.2.2
theorem Frm.hi {lo hi : Nat} (h : Frm σ σ' lo hi) (h9 : hi < 109) : Hi σ σ' := ⟨Nat.le_of_eq (by rw [h.1]), fun x _ hn => ⟨h.2 x (by omega), fun j => by rw [h.1]⟩⟩
/-- the office and the desk say the same; no paper has more than k units -/
def Sim (σ : St) (F : Nat → DocF) (A : PastD) (k : Nat) : Prop := Off σ A ∧ DkR σ F A.2.1 A.2.2 A.1 ∧ σ.1 109 5 = σ.1 0 0 ∧ ∀ j, j ≤ A.2.1 + A.2.2 → PpL (A.1 j) ∧ (A.1 j).1.2.1 ≤ k
theorem Sim.dk {k : Nat} (h : Sim σ F A k) : DkT σ ∧ (σ.1 109 2 = (A.2.1 : Int) ∧ σ.1 109 4 = (A.2.2 : Int) ∧ A.2.1 + A.2.2 ≤ 6) ∧ σ.2.1 109 0 = some (F A.2.1).1 ∧ DocP σ (F A.2.1) (A.1 A.2.1) ∧ PpL (A.1 A.2.1) ∧ (A.1 A.2.1).1.2.1 ≤ k := by
  obtain ⟨-, ⟨a, b, c, -, -, d, -⟩, -, e⟩ := h
  exact ⟨a, b, c, d _ (by omega), e _ (by omega)⟩
/-- what is seen of the office alone does not change -/
theorem Sim.hiLo {k : Nat} (h : Sim σ F A k) (hF : Hi σ σ') (hO : Off σ' A) (h0 : σ'.1 0 0 = σ.1 0 0) : Sim σ' F A k :=
  ⟨hO, h.2.1.hi hF, by
    have hc := h.2.1.1.2.2
    rw [(hF.2 109 (by omega) (by omega)).1, h0]
    exact h.2.2.1, h.2.2.2⟩
theorem Sim.mono {k k' : Nat} (h : Sim σ F A k) (hk : k ≤ k') : Sim σ F A k' := ⟨h.1, h.2.1, h.2.2.1, fun j hj => ⟨(h.2.2.2 j hj).1, by have := (h.2.2.2 j hj).2; omega⟩⟩
end Sim
