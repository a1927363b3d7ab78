/-! What is made takes the next position. -/
section GoNew
variable {xs : Nat → Int} {d : Nat} {m : MI} {b : Nat × Nat} {pc : Nat} {ls st : List MV} {σ : St} {out : MV × St}
theorem okM.push {σ : St} (h : okM σ) : okM (σ.1, σ.2.1, σ.2.2 + 1) := by
  obtain ⟨o1, o2, o3, o4, o5⟩ := h
  exact ⟨o1, o2, o3, fun a k i e => Nat.lt_succ_of_lt (o4 a k i e), fun a k q => o5 a k (Nat.le_of_succ_le q)⟩
def nxt (σ : St) : St := (σ.1, σ.2.1, σ.2.2 + 1)
theorem rho_ext {ρ : Nat → Nat} {c q : Nat} : ∀ i, i < c → (fun i => if i = c then q else ρ i) i = ρ i := fun i h => if_neg (Nat.ne_of_lt h)
theorem ra_same {s : State} {cA cB : ClassId} {ty : FieldType} (h : s.vm.findClass ("[" ++ ty.toString) = some cA) (h' : s.vm.findClass ("[" ++ ty.toString) = some cB) : cA = cB := Option.some.inj (h.symm.trans h')
/-- what stands behind a making: the world has one entry more -/
theorem go_made {a sz : Nat} {pc' : Nat} (hc : σ.2.2 = a) (hb : 1 ≤ b.1 ∧ sz ≤ b.2) (K : Go xs d m (b.1 - 1, b.2 - sz) pc' ls (vA a :: st) (nxt σ) out)
    {p : Program} {l : Launch} {e : Env} {R : Room} {s : State} {mid : MethodId} {args : Array Value} {below : List Frame} {meth : Method} {c : Code} {Q : State → Prop} {dC : Nat → ClassId} {dI : Nat → Nat → Nat} {dA : Nat → ClassId} {N0 bs : Nat} {ρ0 : Nat → Nat} {c0 : Nat} {X : Int → Prop}
    (hS : Sta xs d m p l R s mid args meth c dC dI dA N0 bs X) (hF : FinC m p l e R s mid args below meth c Q dC dI dA N0 bs ρ0 c0 X out) {H : Heap} {locs : List Loc} {cells slots : Nat} {ρ : Nat → Nat} {LS : Array Slot} (hD : Dyn R s dC dI dA N0 ρ0 c0 b H locs cells slots ρ σ) (hL : FrR bs m.2.2.1 ρ X σ.2.2 LS ls) (ho : ∀ v ∈ st, okv σ.2.2 X v)
    {q : Nat} {en : va_E} {H1 : Heap} {locs1 : List Loc} (he : ent dA (fun i => if i = σ.2.2 then q else ρ i) (nxt σ) σ.2.2 = en) (hP : va_P (dC, dI) vwc (wsOf dA ρ σ ++ [(q, en)]) H1) (hDD : va_D (fun q : Nat => N0 ≤ q) (wsOf dA ρ σ ++ [(q, en)])) (hSS : va_S (fun q : Nat => N0 ≤ q) s.heap H1 locs1) :
    W p l e R s mid args below meth c H1 locs1 (cells + 1) (slots + sz) Q (F0 mid pc' LS (.ref q :: st.map (vr ρ bs))) := by
  subst hc
  obtain ⟨⟨-, -, hM0⟩, -, hx1, hx2, hx3, hx4⟩ := id hD
  rw [wsOf_push hM0 he] at hP hDD
  have kk := K p l e R s mid args below meth c Q dC dI dA N0 bs ρ0 c0 X hS hF H1 locs1 (cells + 1) (slots + sz) (fun i => if i = σ.2.2 then q else ρ i) LS
    ⟨⟨hP, hDD, hM0.push⟩, hSS, fun i hi => (rho_ext i (Nat.lt_of_lt_of_le hi hx2)).trans (hx1 i hi), Nat.le_succ_of_le hx2, by show cells + 1 + (b.1 - 1) ≤ _; omega, by show slots + sz + (b.2 - sz) ≤ _; omega⟩
    (hL.ext rho_ext (Nat.le_succ _)) (okc (show σ.2.2 < σ.2.2 + 1 from Nat.lt_succ_self _) (fun v hv => okv_mono (Nat.le_succ _) (ho v hv)))
  rw [List.map_cons, map_ext rho_ext ho] at kk
  rw [show vr (fun i => if i = σ.2.2 then q else ρ i) bs (vA σ.2.2) = .ref q from congrArg Value.ref (if_pos rfl)] at kk
  exact kk
theorem go_newI {a n : Nat} (hc : σ.2.2 = a) (hg : Gam a = (0, n)) (hn : n < 30000) (hw : Cond.arrayClass .int ∈ L0) (hb : 1 ≤ b.1 ∧ n ≤ b.2) (hd : At m pc (.newarray .int) 2) (K : Go xs d m (b.1 - 1, b.2 - n) (pc + 2) ls (vA a :: st) (nxt σ) out) : Go xs d m b pc ls (vI (n : Int) :: st) σ out := by
  intro p l e R s mid args below meth c Q dC dI dA N0 bs ρ0 c0 X hS hF H locs cells slots ρ LS hD hL ho
  obtain ⟨⟨hP, hDD, hM0⟩, hSS, hx1, hx2, hx3, hx4⟩ := id hD
  subst hc
  have hK := hS.2.2.2.2.2.2.2.1
  have hn2 : (Int32.ofInt (n : Int)).toNatClampNeg = n := by
    rw [of_clamp (x := (n : Int)) (by unfold in32; omega) (by omega)]
    omega
  refine va_newa (atype := .int) (ty := .int) (a0 := (n, .inl (fun _ => Int32.ofInt 0))) hS.1 hS.2.1 (hS.2.2.2.2.1 _ hw) rfl hK hP hDD hSS (fun q h => Nat.le_trans hS.2.2.2.2.2.2.2.2.1 h) (fun cA => rfl) ?_ hn2 (by show n * 4 ≤ _; omega) (by omega) (by omega) hd (fun q cA H1 k1 q1 q2 q3 => ?_)
  · exact fun h => of_in (x := (n : Int)) (n := n + 1) (by unfold in32; omega) (by omega) (by omega) (Or.inl h)
  · have hA : cA = dA 0 := by
      have h1 := (k1.2 6 (cA, .int) rfl).2
      have h2 := (hK.2 0 (dA 0, .int) rfl).2
      exact ra_same h1 h2
    subst hA
    refine go_made rfl hb K hS hF hD hL (okt ho) ?_ q1 q2 q3
    rw [ent_i hg (by decide)]
    have z : ∀ j, (nxt σ).1 σ.2.2 j = 0 := fun j => (hM0.2.2.2.2 σ.2.2 j (Nat.le_refl _)).1
    simp only [z]
theorem go_newZ {a n : Nat} (hc : σ.2.2 = a) (hg : Gam a = (1, n)) (hn : n < 30000) (hw : Cond.arrayClass .boolean ∈ L0) (hb : 1 ≤ b.1 ∧ n ≤ b.2) (hd : At m pc (.newarray .boolean) 2) (K : Go xs d m (b.1 - 1, b.2 - n) (pc + 2) ls (vA a :: st) (nxt σ) out) : Go xs d m b pc ls (vI (n : Int) :: st) σ out := by
  intro p l e R s mid args below meth c Q dC dI dA N0 bs ρ0 c0 X hS hF H locs cells slots ρ LS hD hL ho
  obtain ⟨⟨hP, hDD, hM0⟩, hSS, hx1, hx2, hx3, hx4⟩ := id hD
  subst hc
  have hK := hS.2.2.2.2.2.2.2.1
  have hn2 : (Int32.ofInt (n : Int)).toNatClampNeg = n := by
    rw [of_clamp (x := (n : Int)) (by unfold in32; omega) (by omega)]
    omega
  refine va_newa (atype := .boolean) (ty := .boolean) (a0 := (n, .inl (fun _ => Int32.ofInt 0))) hS.1 hS.2.1 (hS.2.2.2.2.1 _ hw) rfl hK hP hDD hSS (fun q h => Nat.le_trans hS.2.2.2.2.2.2.2.2.1 h) (fun cA => rfl) ?_ hn2 (by show n * 1 ≤ _; omega) (by omega) (by omega) hd (fun q cA H1 k1 q1 q2 q3 => ?_)
  · exact fun h => of_in (x := (n : Int)) (n := n + 1) (by unfold in32; omega) (by omega) (by omega) (Or.inl h)
  · have hA : cA = dA 1 := by
      have h1 := (k1.2 6 (cA, .boolean) rfl).2
      have h2 := (hK.2 1 (dA 1, .boolean) rfl).2
      exact ra_same h1 h2
    subst hA
    refine go_made rfl hb K hS hF hD hL (okt ho) ?_ q1 q2 q3
    rw [ent_i hg (by decide)]
    have z : ∀ j, (nxt σ).1 σ.2.2 j = 0 := fun j => (hM0.2.2.2.2 σ.2.2 j (Nat.le_refl _)).1
    simp only [z]
theorem go_newC {a n : Nat} (hc : σ.2.2 = a) (hg : Gam a = (2, n)) (hn : n < 30000) (hw : Cond.arrayClass .char ∈ L0) (hb : 1 ≤ b.1 ∧ n ≤ b.2) (hd : At m pc (.newarray .char) 2) (K : Go xs d m (b.1 - 1, b.2 - n) (pc + 2) ls (vA a :: st) (nxt σ) out) : Go xs d m b pc ls (vI (n : Int) :: st) σ out := by
  intro p l e R s mid args below meth c Q dC dI dA N0 bs ρ0 c0 X hS hF H locs cells slots ρ LS hD hL ho
  obtain ⟨⟨hP, hDD, hM0⟩, hSS, hx1, hx2, hx3, hx4⟩ := id hD
  subst hc
  have hK := hS.2.2.2.2.2.2.2.1
  have hn2 : (Int32.ofInt (n : Int)).toNatClampNeg = n := by
    rw [of_clamp (x := (n : Int)) (by unfold in32; omega) (by omega)]
    omega
  refine va_newa (atype := .char) (ty := .char) (a0 := (n, .inl (fun _ => Int32.ofInt 0))) hS.1 hS.2.1 (hS.2.2.2.2.1 _ hw) rfl hK hP hDD hSS (fun q h => Nat.le_trans hS.2.2.2.2.2.2.2.2.1 h) (fun cA => rfl) ?_ hn2 (by show n * 2 ≤ _; omega) (by omega) (by omega) hd (fun q cA H1 k1 q1 q2 q3 => ?_)
  · exact fun h => of_in (x := (n : Int)) (n := n + 1) (by unfold in32; omega) (by omega) (by omega) (Or.inl h)
  · have hA : cA = dA 2 := by
      have h1 := (k1.2 6 (cA, .char) rfl).2
      have h2 := (hK.2 2 (dA 2, .char) rfl).2
      exact ra_same h1 h2
    subst hA
    refine go_made rfl hb K hS hF hD hL (okt ho) ?_ q1 q2 q3
    rw [ent_i hg (by decide)]
    have z : ∀ j, (nxt σ).1 σ.2.2 j = 0 := fun j => (hM0.2.2.2.2 σ.2.2 j (Nat.le_refl _)).1
    simp only [z]
theorem go_newJ {a n : Nat} (hc : σ.2.2 = a) (hg : Gam a = (3, n)) (hn : n < 30000) (hw : Cond.arrayClass .long ∈ L0) (hb : 1 ≤ b.1 ∧ n ≤ b.2) (hd : At m pc (.newarray .long) 2) (K : Go xs d m (b.1 - 1, b.2 - n) (pc + 2) ls (vA a :: st) (nxt σ) out) : Go xs d m b pc ls (vI (n : Int) :: st) σ out := by
  intro p l e R s mid args below meth c Q dC dI dA N0 bs ρ0 c0 X hS hF H locs cells slots ρ LS hD hL ho
  obtain ⟨⟨hP, hDD, hM0⟩, hSS, hx1, hx2, hx3, hx4⟩ := id hD
  subst hc
  have hK := hS.2.2.2.2.2.2.2.1
  have hn2 : (Int32.ofInt (n : Int)).toNatClampNeg = n := by
    rw [of_clamp (x := (n : Int)) (by unfold in32; omega) (by omega)]
    omega
  refine va_newa (atype := .long) (ty := .long) (a0 := (n, .inr (.inl (fun _ => Int64.ofInt 0)))) hS.1 hS.2.1 (hS.2.2.2.2.1 _ hw) rfl hK hP hDD hSS (fun q h => Nat.le_trans hS.2.2.2.2.2.2.2.2.1 h) (fun cA => rfl) ?_ hn2 (by show n * 8 ≤ _; omega) (by omega) (by omega) hd (fun q cA H1 k1 q1 q2 q3 => ?_)
  · exact fun h => of_in (x := (n : Int)) (n := n + 1) (by unfold in32; omega) (by omega) (by omega) (Or.inl h)
  · have hA : cA = dA 3 := by
      have h1 := (k1.2 6 (cA, .long) rfl).2
      have h2 := (hK.2 3 (dA 3, .long) rfl).2
      exact ra_same h1 h2
    subst hA
    refine go_made rfl hb K hS hF hD hL (okt ho) ?_ q1 q2 q3
    rw [ent_l hg]
    have z : ∀ j, (nxt σ).1 σ.2.2 j = 0 := fun j => (hM0.2.2.2.2 σ.2.2 j (Nat.le_refl _)).1
    simp only [z]
theorem go_newD {a n : Nat} (hc : σ.2.2 = a) (hg : Gam a = (4, n)) (hn : n < 30000) (hw : Cond.arrayClass .double ∈ L0) (hb : 1 ≤ b.1 ∧ n ≤ b.2) (hd : At m pc (.newarray .double) 2) (K : Go xs d m (b.1 - 1, b.2 - n) (pc + 2) ls (vA a :: st) (nxt σ) out) : Go xs d m b pc ls (vI (n : Int) :: st) σ out := by
  intro p l e R s mid args below meth c Q dC dI dA N0 bs ρ0 c0 X hS hF H locs cells slots ρ LS hD hL ho
  obtain ⟨⟨hP, hDD, hM0⟩, hSS, hx1, hx2, hx3, hx4⟩ := id hD
  subst hc
  have hK := hS.2.2.2.2.2.2.2.1
  have hn2 : (Int32.ofInt (n : Int)).toNatClampNeg = n := by
    rw [of_clamp (x := (n : Int)) (by unfold in32; omega) (by omega)]
    omega
  refine va_newa (atype := .double) (ty := .double) (a0 := (n, .inr (.inr (.inr (.inl (fun _ => UInt64.ofNat (0 : Int).toNat)))))) hS.1 hS.2.1 (hS.2.2.2.2.1 _ hw) rfl hK hP hDD hSS (fun q h => Nat.le_trans hS.2.2.2.2.2.2.2.2.1 h) (fun cA => rfl) ?_ hn2 (by show n * 8 ≤ _; omega) (by omega) (by omega) hd (fun q cA H1 k1 q1 q2 q3 => ?_)
  · exact fun h => of_in (x := (n : Int)) (n := n + 1) (by unfold in32; omega) (by omega) (by omega) (Or.inl h)
  · have hA : cA = dA 4 := by
      have h1 := (k1.2 6 (cA, .double) rfl).2
      have h2 := (hK.2 4 (dA 4, .double) rfl).2
      exact ra_same h1 h2
    subst hA
    refine go_made rfl hb K hS hF hD hL (okt ho) ?_ q1 q2 q3
    rw [ent_d hg]
    have z : ∀ j, (nxt σ).1 σ.2.2 j = 0 := fun j => (hM0.2.2.2.2 σ.2.2 j (Nat.le_refl _)).1
    simp only [z]
theorem go_newP {a n ix : Nat} (hc : σ.2.2 = a) (hg : Gam a = (5, n)) (hn : n < 30000) (hl : Cond.classLink m.1.cls ix RX4 ∈ L0) (hw : Cond.arrayOver (.object RX4) ∈ L0) (hb : 1 ≤ b.1 ∧ n ≤ b.2) (hd : At m pc (.anewarray ix) 3) (K : Go xs d m (b.1 - 1, b.2 - n) (pc + 3) ls (vA a :: st) (nxt σ) out) : Go xs d m b pc ls (vI (n : Int) :: st) σ out := by
  intro p l e R s mid args below meth c Q dC dI dA N0 bs ρ0 c0 X hS hF H locs cells slots ρ LS hD hL ho
  obtain ⟨⟨hP, hDD, hM0⟩, hSS, hx1, hx2, hx3, hx4⟩ := id hD
  subst hc
  have hK := hS.2.2.2.2.2.2.2.1
  have hn2 : (Int32.ofInt (n : Int)).toNatClampNeg = n := by
    rw [of_clamp (x := (n : Int)) (by unfold in32; omega) (by omega)]
    omega
  refine va_newq (C := RX4) hS.1 hS.2.1 hS.2.2.2.1 (hS.2.2.2.2.1 _ hl) (va_AO.of (hS.2.2.2.2.1 _ hw)) hK hP hDD hSS (fun q h => Nat.le_trans hS.2.2.2.2.2.2.2.2.1 h) ?_ hn2 (by omega) (by omega) (by omega) hd (fun q cA H1 k1 q1 q2 q3 => ?_)
  · exact fun h => of_in (x := (n : Int)) (n := n + 1) (by unfold in32; omega) (by omega) (by omega) (Or.inl h)
  · have hA : cA = dA 5 := by
      obtain ⟨_, _, _, _, _, h1⟩ := (k1.2 6 (cA, .object RX4) rfl).2
      obtain ⟨_, _, _, _, _, h2⟩ := (hK.2 5 (dA 5, .object RX4) rfl).2
      exact ra_same h1 h2
    subst hA
    refine go_made rfl hb K hS hF hD hL (okt ho) ?_ q1 q2 q3
    rw [ent_p hg]
    have z : ∀ j, (nxt σ).2.1 σ.2.2 j = none := fun j => (hM0.2.2.2.2 σ.2.2 j (Nat.le_refl _)).2
    simp only [z, Option.map_none]
theorem go_newO {a ci ix : Nat} (hc : σ.2.2 = a) (hg : Gam a = (10 + ci, 0)) (hci : ci < 11) (hl : Cond.classLink m.1.cls ix (cnm ci) ∈ L0) (hi : Cond.instantiable (cnm ci) (cfn ci) ∈ L0) (hz : Cond.initialized (cnm ci) ∈ L0) (hb : 1 ≤ b.1 ∧ cfn ci ≤ b.2) (hd : At m pc (.new ix) 3) (K : Go xs d m (b.1 - 1, b.2 - cfn ci) (pc + 3) ls (vA a :: st) (nxt σ) out) : Go xs d m b pc ls st σ out := by
  intro p l e R s mid args below meth c Q dC dI dA N0 bs ρ0 c0 X hS hF H locs cells slots ρ LS hD hL ho
  obtain ⟨⟨hP, hDD, hM0⟩, hSS, hx1, hx2, hx3, hx4⟩ := id hD
  subst hc
  have hK := hS.2.2.2.2.2.2.2.1
  have z1 : ∀ j, σ.1 σ.2.2 j = 0 := fun j => (hM0.2.2.2.2 σ.2.2 j (Nat.le_refl _)).1
  have z2 : ∀ j, σ.2.1 σ.2.2 j = none := fun j => (hM0.2.2.2.2 σ.2.2 j (Nat.le_refl _)).2
  refine va_new (ci := ci) (fs := (List.range (cfn ci)).map (obf ρ σ σ.2.2 ci)) hS.1 hS.2.1 hS.2.2.2.2.1 (uw_all ci hci) (cty ci) (ty_all ci hci) hS.2.2.2.1 (hS.2.2.2.2.1 _ hl) (hS.2.2.2.2.1 _ hi) (hS.2.2.2.2.1 _ hz) hK hP hDD hSS (fun q h => Nat.le_trans hS.2.2.2.2.2.2.2.2.1 h) (vwc_at ci hci) (fun j hj => ?_) (by omega) (by omega) hd (fun q H1 q1 q2 q3 => ?_)
  · have hf : vp_V ((List.range (cfn ci)).map (obf ρ σ σ.2.2 ci)) j = obf ρ σ σ.2.2 ci j := by
      unfold vp_V
      rw [List.getD_eq_getElem?_getD, flds_get hj]
      rfl
    rw [hf]
    unfold obf
    rw [z1, z2]
    by_cases hr : fref ci j = true
    · rw [if_pos hr]
      exact (ref_ok hci hj hr 0).2.2
    · rw [if_neg hr]
      exact (int_ok hci hj (Bool.eq_false_iff.mpr hr)).2
  · refine go_made rfl hb K hS hF hD hL ho ?_ q1 q2 q3
    rw [ent_o hg]
    have e : (List.range (cfn ci)).map (obf (fun i => if i = σ.2.2 then q else ρ i) (nxt σ) σ.2.2 ci) = (List.range (cfn ci)).map (obf ρ σ σ.2.2 ci) := by
      refine List.map_congr_left fun k _ => ?_
      unfold obf
      show (if fref ci k = true then va_rf ((σ.2.1 σ.2.2 k).map _) else .int (Int32.ofInt (σ.1 σ.2.2 k))) = _
      rw [z2]
      rfl
    rw [e]
end GoNew
