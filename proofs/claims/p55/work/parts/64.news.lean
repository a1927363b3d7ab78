/-! What is made takes the next position. -/
section GoNew
variable {xs : Nat → Int} {d : Nat} {m : MI} {b : Nat × Nat} {pc : Nat} {ls st : List MV} {σ : St} {out : MV × St}
theorem okM.push {σ : St} (h : okM σ) : okM (σ.1, σ.2.1, σ.2.2 + 1) := by
  obtain ⟨o1, o2, o3, o4, o5⟩ := h
  exact ⟨o1, o2, o3, fun a k i e => Nat.lt_succ_of_lt (o4 a k i e), fun a k q => o5 a k (Nat.le_of_succ_le q)⟩
def nxt (σ : St) : St := (σ.1, σ.2.1, σ.2.2 + 1)
/-- the same where the kind and length of what is made are written down -/
def nxD (σ : St) (t n : Nat) : St := (upd2 σ.1 σ.2.2 TY ((t : Int) + 64 * n), σ.2.1, σ.2.2 + 1)
theorem okM.pushD {σ : St} (h : okM σ) {t n : Nat} (ht : t < 64) (hn : n < 1000000) : okM (nxD σ t n) := by
  obtain ⟨o1, o2, o3, o4, o5⟩ := h
  refine ⟨fun a k => ?_, trivial, trivial, fun a k i e => Nat.lt_succ_of_lt (o4 a k i e), fun a k q => ?_⟩
  · show in32 (upd2 σ.1 σ.2.2 TY _ a k)
    unfold upd2; split
    · unfold in32; omega
    · exact o1 a k
  · have q9 : σ.2.2 + 1 ≤ a := q
    refine ⟨?_, (o5 a k (Nat.le_of_succ_le q9)).2⟩
    show upd2 σ.1 σ.2.2 TY _ a k = 0
    unfold upd2
    rw [if_neg (fun q => by have := q.1; omega)]
    exact (o5 a k (Nat.le_of_succ_le q9)).1
theorem GamD_nxD {σ : St} {t n : Nat} (ht : t < 64) (h : (Gam σ.2.2).1 = 99) : GamD (nxD σ t n) σ.2.2 = (t, n) := by
  unfold GamD
  rw [if_pos h]
  show tdec (upd2 σ.1 σ.2.2 TY _ σ.2.2 TY) = _
  unfold upd2 tdec
  rw [if_pos ⟨rfl, rfl⟩]
  refine Prod.ext ?_ ?_
  · show (((t : Int) + 64 * n) % 64).toNat = t
    omega
  · show (((t : Int) + 64 * n) / 64).toNat = n
    omega
theorem nxD_at {σ : St} {t n x j : Nat} (h : x ≠ σ.2.2 ∨ j ≠ TY) : (nxD σ t n).1 x j = σ.1 x j := by
  show upd2 σ.1 σ.2.2 TY _ x j = _
  unfold upd2
  rw [if_neg (fun q => by rcases h with h | h; exact h q.1; exact h q.2)]
theorem nxD_r {σ : St} {t n : Nat} : (nxD σ t n).2.1 = σ.2.1 := rfl
theorem nxD_c {σ : St} {t n : Nat} : (nxD σ t n).2.2 = σ.2.2 + 1 := rfl
theorem GamD_nx {σ : St} {t n x : Nat} (h : x ≠ σ.2.2) : GamD (nxD σ t n) x = GamD σ x := GamD_congr (nxD_at (Or.inl h))
theorem gam99 {a : Nat} (h : 109 ≤ a) : (Gam a).1 = 99 := by
  unfold Gam
  rw [List.getD_eq_getElem?_getD, List.getElem?_eq_none (show gamL.length ≤ a from Nat.le_trans (by decide +kernel) h)]
  rfl
theorem rho_ext {ρ : Nat → Nat} {c q : Nat} : ∀ i, i < c → (fun i => if i = c then q else ρ i) i = ρ i := fun i h => if_neg (Nat.ne_of_lt h)
theorem ra_same {s : State} {cA cB : ClassId} {ty : FieldType} (h : s.vm.findClass ("[" ++ ty.toString) = some cA) (h' : s.vm.findClass ("[" ++ ty.toString) = some cB) : cA = cB := Option.some.inj (h.symm.trans h')
/-- what stands behind a making: the world has one entry more -/
theorem go_made {a sz : Nat} {pc' : Nat} {σ1 : St} (hc : σ.2.2 = a) (g1 : σ1.2.2 = σ.2.2 + 1) (g2 : ∀ i, i < σ.2.2 → ∀ j, σ1.1 i j = σ.1 i j) (g3 : σ1.2.1 = σ.2.1) (g4 : okM σ → okM σ1) (hb : 1 ≤ b.1 ∧ sz ≤ b.2) (K : Go xs d m (b.1 - 1, b.2 - sz) pc' ls (vA a :: st) σ1 out)
    {p : Program} {l : Launch} {e : Env} {R : Room} {s : State} {mid : MethodId} {args : Array Value} {below : List Frame} {meth : Method} {c : Code} {Q : State → Prop} {dC : Nat → ClassId} {dI : Nat → Nat → Nat} {dA : Nat → ClassId} {N0 bs : Nat} {ρ0 : Nat → Nat} {c0 : Nat} {X : Int → Prop}
    (hS : Sta xs d m p l R s mid args meth c dC dI dA N0 bs X) (hF : FinC m p l e R s mid args below meth c Q dC dI dA N0 bs ρ0 c0 X out) {H : Heap} {locs : List Loc} {cells slots : Nat} {ρ : Nat → Nat} {LS : Array Slot} (hD : Dyn R s dC dI dA N0 ρ0 c0 b H locs cells slots ρ σ) (hL : FrR bs m.2.2.1 ρ X σ.2.2 LS ls) (ho : ∀ v ∈ st, okv σ.2.2 X v)
    {q : Nat} {en : va_E} {H1 : Heap} {locs1 : List Loc} (he : ent dA (fun i => if i = σ.2.2 then q else ρ i) σ1 σ.2.2 = en) (hP : va_P (dC, dI) vwc (wsOf dA ρ σ ++ [(q, en)]) H1) (hDD : va_D (fun q : Nat => N0 ≤ q) (wsOf dA ρ σ ++ [(q, en)])) (hSS : va_S (fun q : Nat => N0 ≤ q) s.heap H1 locs1) :
    W p l e R s mid args below meth c H1 locs1 (cells + 1) (slots + sz) Q (F0 mid pc' LS (.ref q :: st.map (vr ρ bs))) := by
  subst hc
  obtain ⟨⟨-, -, hM0⟩, -, hx1, hx2, hx3, hx4⟩ := id hD
  rw [wsOf_push hM0 g1 g2 g3 he] at hP hDD
  have kk := K p l e R s mid args below meth c Q dC dI dA N0 bs ρ0 c0 X hS hF H1 locs1 (cells + 1) (slots + sz) (fun i => if i = σ.2.2 then q else ρ i) LS
    ⟨⟨hP, hDD, g4 hM0⟩, hSS, fun i hi => (rho_ext i (Nat.lt_of_lt_of_le hi hx2)).trans (hx1 i hi), by rw [g1]; exact Nat.le_succ_of_le hx2, by show cells + 1 + (b.1 - 1) ≤ _; omega, by show slots + sz + (b.2 - sz) ≤ _; omega⟩
    (hL.ext rho_ext (by rw [g1]; exact Nat.le_succ _)) (okc (show σ.2.2 < σ1.2.2 by rw [g1]; exact Nat.lt_succ_self _) (fun v hv => okv_mono (by rw [g1]; exact Nat.le_succ _) (ho v hv)))
  rw [List.map_cons, map_ext rho_ext ho] at kk
  rw [show vr (fun i => if i = σ.2.2 then q else ρ i) bs (vA σ.2.2) = .ref q from congrArg Value.ref (if_pos rfl)] at kk
  exact kk
theorem ty_lt {ci : Nat} (hc : ci < 13) : cfn ci < 100 := by
  have h : ∀ i, i < 13 → cfn i < 100 := lt13 ⟨by decide, by decide, by decide, by decide, by decide, by decide, by decide, by decide, by decide, by decide, by decide, by decide, by decide⟩
  exact h ci hc
theorem go_newIG {σ1 : St} {a n : Nat} (hc : σ.2.2 = a) (g1 : σ1.2.2 = σ.2.2 + 1) (g2 : ∀ i, i < σ.2.2 → ∀ j, σ1.1 i j = σ.1 i j) (g3 : σ1.2.1 = σ.2.1) (g4 : okM σ → okM σ1) (g5 : ∀ j, j ≠ TY → σ1.1 σ.2.2 j = σ.1 σ.2.2 j) (hg : GamD σ1 a = (0, n)) (hn : n < 30000) (hw : Cond.arrayClass .int ∈ L0) (hb : 1 ≤ b.1 ∧ n ≤ b.2) (hd : At m pc (.newarray .int) 2) (K : Go xs d m (b.1 - 1, b.2 - n) (pc + 2) ls (vA a :: st) σ1 out) : Go xs d m b pc ls (vI (n : Int) :: st) σ out := by
  intro p l e R s mid args below meth c Q dC dI dA N0 bs ρ0 c0 X hS hF H locs cells slots ρ LS hD hL ho
  obtain ⟨⟨hP, hDD, hM0⟩, hSS, hx1, hx2, hx3, hx4⟩ := id hD
  subst hc
  have hK := hS.2.2.2.2.2.2.2.1
  have hn2 : (Int32.ofInt (n : Int)).toNatClampNeg = n := by
    rw [of_clamp (x := (n : Int)) (by unfold in32; omega) (by omega)]
    omega
  refine va_newa (atype := .int) (ty := .int) (a0 := (n, .inl (fun _ => Int32.ofInt 0))) hS.1 hS.2.1 (hS.2.2.2.2.1 _ hw) rfl hK hP hDD hSS (fun q h => Nat.le_trans hS.2.2.2.2.2.2.2.2.1 h) (fun cA => rfl) ?_ hn2 (by show n * 4 ≤ _; omega) (by omega) (by omega) hd (fun q cA H1 k1 q1 q2 q3 => ?_)
  · exact fun h => of_in (x := (n : Int)) (n := n + 1) (by unfold in32; omega) (by omega) (by omega) (Or.inl h)
  · have hA : cA = dA 0 := by
      have h1 := (k1.2 6 (cA, .int) rfl).2
      have h2 := (hK.2 0 (dA 0, .int) rfl).2
      exact ra_same h1 h2
    subst hA
    refine go_made rfl g1 g2 g3 g4 hb K hS hF hD hL (okt ho) ?_ q1 q2 q3
    rw [ent_i hg (by decide)]
    have z : ∀ j, vl σ1 σ.2.2 j = 0 := fun j => by
      by_cases h9 : j = TY
      · exact if_pos h9
      · rw [vl_ne h9, g5 j h9]
        exact (hM0.2.2.2.2 σ.2.2 j (Nat.le_refl _)).1
    simp only [z]
theorem go_newI {a n : Nat} (hc : σ.2.2 = a) (hg : Gam a = (0, n)) (hn : n < 30000) (hw : Cond.arrayClass .int ∈ L0) (hb : 1 ≤ b.1 ∧ n ≤ b.2) (hd : At m pc (.newarray .int) 2) (K : Go xs d m (b.1 - 1, b.2 - n) (pc + 2) ls (vA a :: st) (nxt σ) out) : Go xs d m b pc ls (vI (n : Int) :: st) σ out := go_newIG (σ1 := nxt σ) hc rfl (fun _ _ _ => rfl) rfl okM.push (fun _ _ => rfl) (gs hg (by decide)) hn hw hb hd K
theorem go_newID {a n : Nat} (hc : σ.2.2 = a) (h9 : 109 ≤ σ.2.2) (hn : n < 30000) (hw : Cond.arrayClass .int ∈ L0) (hb : 1 ≤ b.1 ∧ n ≤ b.2) (hd : At m pc (.newarray .int) 2) (K : Go xs d m (b.1 - 1, b.2 - n) (pc + 2) ls (vA a :: st) (nxD σ 0 n) out) : Go xs d m b pc ls (vI (n : Int) :: st) σ out := go_newIG (σ1 := nxD σ 0 n) hc rfl (fun i hi j => nxD_at (Or.inl (by omega))) rfl (fun h => h.pushD (by decide) (by omega)) (fun j hj => nxD_at (Or.inr hj)) (by subst hc; exact GamD_nxD (by decide) (gam99 h9)) hn hw hb hd K
theorem go_newZG {σ1 : St} {a n : Nat} (hc : σ.2.2 = a) (g1 : σ1.2.2 = σ.2.2 + 1) (g2 : ∀ i, i < σ.2.2 → ∀ j, σ1.1 i j = σ.1 i j) (g3 : σ1.2.1 = σ.2.1) (g4 : okM σ → okM σ1) (g5 : ∀ j, j ≠ TY → σ1.1 σ.2.2 j = σ.1 σ.2.2 j) (hg : GamD σ1 a = (1, n)) (hn : n < 30000) (hw : Cond.arrayClass .boolean ∈ L0) (hb : 1 ≤ b.1 ∧ n ≤ b.2) (hd : At m pc (.newarray .boolean) 2) (K : Go xs d m (b.1 - 1, b.2 - n) (pc + 2) ls (vA a :: st) σ1 out) : Go xs d m b pc ls (vI (n : Int) :: st) σ out := by
  intro p l e R s mid args below meth c Q dC dI dA N0 bs ρ0 c0 X hS hF H locs cells slots ρ LS hD hL ho
  obtain ⟨⟨hP, hDD, hM0⟩, hSS, hx1, hx2, hx3, hx4⟩ := id hD
  subst hc
  have hK := hS.2.2.2.2.2.2.2.1
  have hn2 : (Int32.ofInt (n : Int)).toNatClampNeg = n := by
    rw [of_clamp (x := (n : Int)) (by unfold in32; omega) (by omega)]
    omega
  refine va_newa (atype := .boolean) (ty := .boolean) (a0 := (n, .inl (fun _ => Int32.ofInt 0))) hS.1 hS.2.1 (hS.2.2.2.2.1 _ hw) rfl hK hP hDD hSS (fun q h => Nat.le_trans hS.2.2.2.2.2.2.2.2.1 h) (fun cA => rfl) ?_ hn2 (by show n * 1 ≤ _; omega) (by omega) (by omega) hd (fun q cA H1 k1 q1 q2 q3 => ?_)
  · exact fun h => of_in (x := (n : Int)) (n := n + 1) (by unfold in32; omega) (by omega) (by omega) (Or.inl h)
  · have hA : cA = dA 1 := by
      have h1 := (k1.2 6 (cA, .boolean) rfl).2
      have h2 := (hK.2 1 (dA 1, .boolean) rfl).2
      exact ra_same h1 h2
    subst hA
    refine go_made rfl g1 g2 g3 g4 hb K hS hF hD hL (okt ho) ?_ q1 q2 q3
    rw [ent_i hg (by decide)]
    have z : ∀ j, vl σ1 σ.2.2 j = 0 := fun j => by
      by_cases h9 : j = TY
      · exact if_pos h9
      · rw [vl_ne h9, g5 j h9]
        exact (hM0.2.2.2.2 σ.2.2 j (Nat.le_refl _)).1
    simp only [z]
theorem go_newZ {a n : Nat} (hc : σ.2.2 = a) (hg : Gam a = (1, n)) (hn : n < 30000) (hw : Cond.arrayClass .boolean ∈ L0) (hb : 1 ≤ b.1 ∧ n ≤ b.2) (hd : At m pc (.newarray .boolean) 2) (K : Go xs d m (b.1 - 1, b.2 - n) (pc + 2) ls (vA a :: st) (nxt σ) out) : Go xs d m b pc ls (vI (n : Int) :: st) σ out := go_newZG (σ1 := nxt σ) hc rfl (fun _ _ _ => rfl) rfl okM.push (fun _ _ => rfl) (gs hg (by decide)) hn hw hb hd K
theorem go_newZD {a n : Nat} (hc : σ.2.2 = a) (h9 : 109 ≤ σ.2.2) (hn : n < 30000) (hw : Cond.arrayClass .boolean ∈ L0) (hb : 1 ≤ b.1 ∧ n ≤ b.2) (hd : At m pc (.newarray .boolean) 2) (K : Go xs d m (b.1 - 1, b.2 - n) (pc + 2) ls (vA a :: st) (nxD σ 1 n) out) : Go xs d m b pc ls (vI (n : Int) :: st) σ out := go_newZG (σ1 := nxD σ 1 n) hc rfl (fun i hi j => nxD_at (Or.inl (by omega))) rfl (fun h => h.pushD (by decide) (by omega)) (fun j hj => nxD_at (Or.inr hj)) (by subst hc; exact GamD_nxD (by decide) (gam99 h9)) hn hw hb hd K
theorem go_newCG {σ1 : St} {a n : Nat} (hc : σ.2.2 = a) (g1 : σ1.2.2 = σ.2.2 + 1) (g2 : ∀ i, i < σ.2.2 → ∀ j, σ1.1 i j = σ.1 i j) (g3 : σ1.2.1 = σ.2.1) (g4 : okM σ → okM σ1) (g5 : ∀ j, j ≠ TY → σ1.1 σ.2.2 j = σ.1 σ.2.2 j) (hg : GamD σ1 a = (2, n)) (hn : n < 30000) (hw : Cond.arrayClass .char ∈ L0) (hb : 1 ≤ b.1 ∧ n ≤ b.2) (hd : At m pc (.newarray .char) 2) (K : Go xs d m (b.1 - 1, b.2 - n) (pc + 2) ls (vA a :: st) σ1 out) : Go xs d m b pc ls (vI (n : Int) :: st) σ out := by
  intro p l e R s mid args below meth c Q dC dI dA N0 bs ρ0 c0 X hS hF H locs cells slots ρ LS hD hL ho
  obtain ⟨⟨hP, hDD, hM0⟩, hSS, hx1, hx2, hx3, hx4⟩ := id hD
  subst hc
  have hK := hS.2.2.2.2.2.2.2.1
  have hn2 : (Int32.ofInt (n : Int)).toNatClampNeg = n := by
    rw [of_clamp (x := (n : Int)) (by unfold in32; omega) (by omega)]
    omega
  refine va_newa (atype := .char) (ty := .char) (a0 := (n, .inl (fun _ => Int32.ofInt 0))) hS.1 hS.2.1 (hS.2.2.2.2.1 _ hw) rfl hK hP hDD hSS (fun q h => Nat.le_trans hS.2.2.2.2.2.2.2.2.1 h) (fun cA => rfl) ?_ hn2 (by show n * 2 ≤ _; omega) (by omega) (by omega) hd (fun q cA H1 k1 q1 q2 q3 => ?_)
  · exact fun h => of_in (x := (n : Int)) (n := n + 1) (by unfold in32; omega) (by omega) (by omega) (Or.inl h)
  · have hA : cA = dA 2 := by
      have h1 := (k1.2 6 (cA, .char) rfl).2
      have h2 := (hK.2 2 (dA 2, .char) rfl).2
      exact ra_same h1 h2
    subst hA
    refine go_made rfl g1 g2 g3 g4 hb K hS hF hD hL (okt ho) ?_ q1 q2 q3
    rw [ent_i hg (by decide)]
    have z : ∀ j, vl σ1 σ.2.2 j = 0 := fun j => by
      by_cases h9 : j = TY
      · exact if_pos h9
      · rw [vl_ne h9, g5 j h9]
        exact (hM0.2.2.2.2 σ.2.2 j (Nat.le_refl _)).1
    simp only [z]
theorem go_newC {a n : Nat} (hc : σ.2.2 = a) (hg : Gam a = (2, n)) (hn : n < 30000) (hw : Cond.arrayClass .char ∈ L0) (hb : 1 ≤ b.1 ∧ n ≤ b.2) (hd : At m pc (.newarray .char) 2) (K : Go xs d m (b.1 - 1, b.2 - n) (pc + 2) ls (vA a :: st) (nxt σ) out) : Go xs d m b pc ls (vI (n : Int) :: st) σ out := go_newCG (σ1 := nxt σ) hc rfl (fun _ _ _ => rfl) rfl okM.push (fun _ _ => rfl) (gs hg (by decide)) hn hw hb hd K
theorem go_newCD {a n : Nat} (hc : σ.2.2 = a) (h9 : 109 ≤ σ.2.2) (hn : n < 30000) (hw : Cond.arrayClass .char ∈ L0) (hb : 1 ≤ b.1 ∧ n ≤ b.2) (hd : At m pc (.newarray .char) 2) (K : Go xs d m (b.1 - 1, b.2 - n) (pc + 2) ls (vA a :: st) (nxD σ 2 n) out) : Go xs d m b pc ls (vI (n : Int) :: st) σ out := go_newCG (σ1 := nxD σ 2 n) hc rfl (fun i hi j => nxD_at (Or.inl (by omega))) rfl (fun h => h.pushD (by decide) (by omega)) (fun j hj => nxD_at (Or.inr hj)) (by subst hc; exact GamD_nxD (by decide) (gam99 h9)) hn hw hb hd K
theorem go_newPG {σ1 : St} {a n ix tq : Nat} (hc : σ.2.2 = a) (g1 : σ1.2.2 = σ.2.2 + 1) (g2 : ∀ i, i < σ.2.2 → ∀ j, σ1.1 i j = σ.1 i j) (g3 : σ1.2.1 = σ.2.1) (g4 : okM σ → okM σ1) (g5 : ∀ j, j ≠ TY → σ1.1 σ.2.2 j = σ.1 σ.2.2 j) (hg : GamD σ1 a = (tq, n)) (h3 : tq = 3 ∨ tq = 4 ∨ tq = 5) (hn : n < 30000) (hl : Cond.classLink m.1.cls ix (cnm (arC tq)) ∈ L0) (hb : 1 ≤ b.1 ∧ n ≤ b.2) (hd : At m pc (.anewarray ix) 3) (K : Go xs d m (b.1 - 1, b.2 - n) (pc + 3) ls (vA a :: st) σ1 out) : Go xs d m b pc ls (vI (n : Int) :: st) σ out := by
  intro p l e R s mid args below meth c Q dC dI dA N0 bs ρ0 c0 X hS hF H locs cells slots ρ LS hD hL ho
  obtain ⟨⟨hP, hDD, hM0⟩, hSS, hx1, hx2, hx3, hx4⟩ := id hD
  subst hc
  have hK := hS.2.2.2.2.2.2.2.1
  have hn2 : (Int32.ofInt (n : Int)).toNatClampNeg = n := by
    rw [of_clamp (x := (n : Int)) (by unfold in32; omega) (by omega)]
    omega
  have hao : va_AO (cnm (arC tq)) s := by
    obtain ⟨a1, a2, a3⟩ := hS.2.2.2.2.2.2.2.2.2.1.2.2.2.2.2.2
    rcases h3 with rfl | rfl | rfl
    · exact a3
    · exact a2
    · exact a1
  have hty : (tysOf dA)[tq]? = some (dA tq, .object (cnm (arC tq))) := by
    rcases h3 with rfl | rfl | rfl <;> rfl
  refine va_newq (C := cnm (arC tq)) hS.1 hS.2.1 hS.2.2.2.1 (hS.2.2.2.2.1 _ hl) hao hK hP hDD hSS (fun q h => Nat.le_trans hS.2.2.2.2.2.2.2.2.1 h) ?_ hn2 (by omega) (by omega) (by omega) hd (fun q cA H1 k1 q1 q2 q3 => ?_)
  · exact fun h => of_in (x := (n : Int)) (n := n + 1) (by unfold in32; omega) (by omega) (by omega) (Or.inl h)
  · have hA : cA = dA tq := by
      obtain ⟨_, _, _, _, _, h1⟩ := (k1.2 6 (cA, .object (cnm (arC tq))) rfl).2
      obtain ⟨_, _, _, _, _, h2⟩ := (hK.2 tq (dA tq, .object (cnm (arC tq))) hty).2
      exact ra_same h1 h2
    subst hA
    refine go_made rfl g1 g2 g3 g4 hb K hS hF hD hL (okt ho) ?_ q1 q2 q3
    rw [ent_p hg (by omega) (by omega), g3]
    have z : ∀ j, σ.2.1 σ.2.2 j = none := fun j => (hM0.2.2.2.2 σ.2.2 j (Nat.le_refl _)).2
    simp only [z, Option.map_none]
theorem go_newP {a n ix : Nat} (hc : σ.2.2 = a) (hg : Gam a = (5, n)) (hn : n < 30000) (hl : Cond.classLink m.1.cls ix RX4 ∈ L0) (hb : 1 ≤ b.1 ∧ n ≤ b.2) (hd : At m pc (.anewarray ix) 3) (K : Go xs d m (b.1 - 1, b.2 - n) (pc + 3) ls (vA a :: st) (nxt σ) out) : Go xs d m b pc ls (vI (n : Int) :: st) σ out := go_newPG (σ1 := nxt σ) hc rfl (fun _ _ _ => rfl) rfl okM.push (fun _ _ => rfl) (gs hg (by decide)) (Or.inr (Or.inr rfl)) hn hl hb hd K
theorem go_newPD {a n ix tq : Nat} (hc : σ.2.2 = a) (h9 : 109 ≤ σ.2.2) (h3 : tq = 3 ∨ tq = 4 ∨ tq = 5) (hn : n < 30000) (hl : Cond.classLink m.1.cls ix (cnm (arC tq)) ∈ L0) (hb : 1 ≤ b.1 ∧ n ≤ b.2) (hd : At m pc (.anewarray ix) 3) (K : Go xs d m (b.1 - 1, b.2 - n) (pc + 3) ls (vA a :: st) (nxD σ tq n) out) : Go xs d m b pc ls (vI (n : Int) :: st) σ out := go_newPG (σ1 := nxD σ tq n) hc rfl (fun i hi j => nxD_at (Or.inl (by omega))) rfl (fun h => h.pushD (by omega) (by omega)) (fun j hj => nxD_at (Or.inr hj)) (by subst hc; exact GamD_nxD (by omega) (gam99 h9)) h3 hn hl hb hd K
theorem go_newOG {σ1 : St} {a ci ix : Nat} (hc : σ.2.2 = a) (g1 : σ1.2.2 = σ.2.2 + 1) (g2 : ∀ i, i < σ.2.2 → ∀ j, σ1.1 i j = σ.1 i j) (g3 : σ1.2.1 = σ.2.1) (g4 : okM σ → okM σ1) (g5 : ∀ j, j ≠ TY → σ1.1 σ.2.2 j = σ.1 σ.2.2 j) (hg : GamD σ1 a = (10 + ci, 0)) (hci : ci < 13) (hl : Cond.classLink m.1.cls ix (cnm ci) ∈ L0) (hi : Cond.instantiable (cnm ci) (cfn ci) ∈ L0) (hz : Cond.initialized (cnm ci) ∈ L0) (hb : 1 ≤ b.1 ∧ cfn ci ≤ b.2) (hd : At m pc (.new ix) 3) (K : Go xs d m (b.1 - 1, b.2 - cfn ci) (pc + 3) ls (vA a :: st) σ1 out) : Go xs d m b pc ls st σ out := by
  intro p l e R s mid args below meth c Q dC dI dA N0 bs ρ0 c0 X hS hF H locs cells slots ρ LS hD hL ho
  obtain ⟨⟨hP, hDD, hM0⟩, hSS, hx1, hx2, hx3, hx4⟩ := id hD
  subst hc
  have hK := hS.2.2.2.2.2.2.2.1
  have z1 : ∀ j, σ.1 σ.2.2 j = 0 := fun j => (hM0.2.2.2.2 σ.2.2 j (Nat.le_refl _)).1
  have z2 : ∀ j, σ.2.1 σ.2.2 j = none := fun j => (hM0.2.2.2.2 σ.2.2 j (Nat.le_refl _)).2
  refine va_new (ci := ci) (fs := (List.range (cfn ci)).map (obf ρ σ σ.2.2 ci)) hS.1 hS.2.1 hS.2.2.2.2.1 (uw_all ci hci) (cty ci) (ty_all ci hci) hS.2.2.2.1 (hS.2.2.2.2.1 _ hl) (hS.2.2.2.2.1 _ hi) (hS.2.2.2.2.1 _ hz) hK hP hDD hSS (fun q h => Nat.le_trans hS.2.2.2.2.2.2.2.2.1 h) (vwc_at ci hci) (fun j hj => ?_) (by omega) (by omega) hd (fun q H1 q1 q2 q3 => ?_)
  · have hf : vp_V ((List.range (cfn ci)).map (obf ρ σ σ.2.2 ci)) j = obf ρ σ σ.2.2 ci j := by
      unfold vp_V
      rw [List.getD_eq_getElem?_getD, flds_get hj]
      rfl
    rw [hf]
    unfold obf
    rw [z1, z2]
    by_cases hr : fref ci j = true
    · rw [if_pos hr]
      exact (ref_ok hci hj hr 0).2.2
    · rw [if_neg hr]
      exact (int_ok hci hj (Bool.eq_false_iff.mpr hr)).2
  · refine go_made rfl g1 g2 g3 g4 hb K hS hF hD hL ho ?_ q1 q2 q3
    rw [ent_o hg]
    have e : (List.range (cfn ci)).map (obf (fun i => if i = σ.2.2 then q else ρ i) σ1 σ.2.2 ci) = (List.range (cfn ci)).map (obf ρ σ σ.2.2 ci) := by
      refine List.map_congr_left fun k hk9 => ?_
      unfold obf
      rw [g3, z2, g5 k (by have := ty_lt hci; have := List.mem_range.mp hk9; unfold TY; omega)]
      rfl
    rw [e]
theorem go_newO {a ci ix : Nat} (hc : σ.2.2 = a) (hg : Gam a = (10 + ci, 0)) (hci : ci < 13) (hl : Cond.classLink m.1.cls ix (cnm ci) ∈ L0) (hi : Cond.instantiable (cnm ci) (cfn ci) ∈ L0) (hz : Cond.initialized (cnm ci) ∈ L0) (hb : 1 ≤ b.1 ∧ cfn ci ≤ b.2) (hd : At m pc (.new ix) 3) (K : Go xs d m (b.1 - 1, b.2 - cfn ci) (pc + 3) ls (vA a :: st) (nxt σ) out) : Go xs d m b pc ls st σ out := go_newOG (σ1 := nxt σ) hc rfl (fun _ _ _ => rfl) rfl okM.push (fun _ _ => rfl) (gs hg (by omega)) hci hl hi hz hb hd K
theorem go_newOD {a ci ix : Nat} (hc : σ.2.2 = a) (h9 : 109 ≤ σ.2.2) (hci : ci < 13) (hl : Cond.classLink m.1.cls ix (cnm ci) ∈ L0) (hi : Cond.instantiable (cnm ci) (cfn ci) ∈ L0) (hz : Cond.initialized (cnm ci) ∈ L0) (hb : 1 ≤ b.1 ∧ cfn ci ≤ b.2) (hd : At m pc (.new ix) 3) (K : Go xs d m (b.1 - 1, b.2 - cfn ci) (pc + 3) ls (vA a :: st) (nxD σ (10 + ci) 0) out) : Go xs d m b pc ls st σ out := go_newOG (σ1 := nxD σ (10 + ci) 0) hc rfl (fun i hi j => nxD_at (Or.inl (by omega))) rfl (fun h => h.pushD (by omega) (by omega)) (fun j hj => nxD_at (Or.inr hj)) (by subst hc; exact GamD_nxD (by omega) (gam99 h9)) hci hl hi hz hb hd K
end GoNew
