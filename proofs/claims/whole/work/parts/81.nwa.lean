/-! The same rules, where the state holds one word more: that there are rows of papers. -/
section GoMore
variable {xs : Nat → Int} {d : Nat} {m m' : MI} {b : Nat × Nat} {pc : Nat} {ls st : List MV} {σ : St} {out : MV × St}
abbrev phi (s : State) : Prop := va_AO RX4 s
def GoA (xs : Nat → Int) (d : Nat) (m : MI) (b : Nat × Nat) (pc : Nat) (ls st : List MV) (σ : St) (out : MV × St) : Prop :=
  ∀ (p : Program) (l : Launch) (e : Env) (R : Room) (s : State) (mid : MethodId) (args : Array Value) (below : List Frame) (meth : Method) (c : Code) (Q : State → Prop) (dC : Nat → ClassId) (dI : Nat → Nat → Nat) (dA : Nat → ClassId) (N0 bs : Nat) (ρ0 : Nat → Nat) (c0 : Nat) (X : Int → Prop),
    phi s → Sta xs d m p l R s mid args meth c dC dI dA N0 bs X → FinC m p l e R s mid args below meth c Q dC dI dA N0 bs ρ0 c0 X out →
    ∀ (H : Heap) (locs : List Loc) (cells slots : Nat) (ρ : Nat → Nat) (LS : Array Slot), Dyn R s dC dI dA N0 ρ0 c0 b H locs cells slots ρ σ → FrR bs m.2.2.1 ρ X σ.2.2 LS ls → (∀ v ∈ st, okv σ.2.2 X v) →
      W p l e R s mid args below meth c H locs cells slots Q (F0 mid pc LS (st.map (vr ρ bs)))
theorem Go.more (h : Go xs d m b pc ls st σ out) : GoA xs d m b pc ls st σ out := fun p l e R s mid args below meth c Q dC dI dA N0 bs ρ0 c0 X _ hS hF => h p l e R s mid args below meth c Q dC dI dA N0 bs ρ0 c0 X hS hF
theorem GoA.pure {pc' : Nat} {st' : List MV} (k : GoA xs d m b pc' ls st' σ out)
    (h : ∀ (p : Program) (l : Launch) (e : Env) (R : Room) (s : State) (mid : MethodId) (args : Array Value) (below : List Frame) (meth : Method) (c : Code) (Q : State → Prop) (bs : Nat) (ρ : Nat → Nat) (X : Int → Prop) (H : Heap) (locs : List Loc) (cells slots : Nat) (LS : Array Slot),
      p.tables.exec = Jvm.exec → c.code = m.2.1 → FrR bs m.2.2.1 ρ X σ.2.2 LS ls → (∀ v ∈ st, okv σ.2.2 X v) →
      (∀ v ∈ st', okv σ.2.2 X v) ∧ (W p l e R s mid args below meth c H locs cells slots Q (F0 mid pc' LS (st'.map (vr ρ bs))) → W p l e R s mid args below meth c H locs cells slots Q (F0 mid pc LS (st.map (vr ρ bs))))) :
    GoA xs d m b pc ls st σ out := by
  intro p l e R s mid args below meth c Q dC dI dA N0 bs ρ0 c0 X hφ hS hF H locs cells slots ρ LS hD hL ho
  obtain ⟨h1, h2⟩ := h p l e R s mid args below meth c Q bs ρ X H locs cells slots LS hS.1 hS.2.1 hL ho
  exact h2 (k p l e R s mid args below meth c Q dC dI dA N0 bs ρ0 c0 X hφ hS hF H locs cells slots ρ LS hD hL h1)
theorem ga_iconst {n : Int} (hd : At m pc (.iconst n) 1) (hn : in32 n) (k : GoA xs d m b (pc + 1) ls (vI n :: st) σ out) : GoA xs d m b pc ls st σ out :=
  k.pure fun p l e R s mid args below meth c Q bs ρ X H locs cells slots LS hx hb hL ho => ⟨okc hn ho, fun kk => lv_iconst hx hb hd rfl kk⟩
theorem ga_bipush {n : Int} (hd : At m pc (.bipush n) 2) (hn : -128 ≤ n ∧ n < 128) (k : GoA xs d m b (pc + 2) ls (vI n :: st) σ out) : GoA xs d m b pc ls st σ out :=
  k.pure fun p l e R s mid args below meth c Q bs ρ X H locs cells slots LS hx hb hL ho => ⟨okc (by unfold okv in32; omega) ho, fun kk => lv_bipush hx hb hd (by
    rw [← Int32.toInt_inj, in32_ext (by unfold in32; omega), Int8.toInt_toInt32, Int8.toInt_ofInt]
    unfold Int.bmod; simp only [Int8.size]; split <;> omega) kk⟩
theorem ga_aload_n {i : Fin 4} {a : Nat} (hd : At m pc (.aload_n i) 1) (hl : ls[i.val]? = some (vA a)) (k : GoA xs d m b (pc + 1) ls (vA a :: st) σ out) : GoA xs d m b pc ls st σ out :=
  k.pure fun p l e R s mid args below meth c Q bs ρ X H locs cells slots LS hx hb hL ho => ⟨okc (hL.ok hl) ho, fun kk => lv_aload_n hx hb hd rfl (hL.get hl rfl) kk⟩
theorem ga_dup {v : MV} (hd : At m pc .dup 1) (h1 : two v = false) (k : GoA xs d m b (pc + 1) ls (v :: v :: st) σ out) : GoA xs d m b pc ls (v :: st) σ out :=
  k.pure fun p l e R s mid args below meth c Q bs ρ X H locs cells slots LS hx hb hL ho => ⟨okc (okh ho) ho, fun kk => lv_dup hx hb hd (cat_vr1 h1) kk⟩
theorem ga_objInit {ix a : Nat} (hl : Cond.methodLink m.1.cls ix Lib.objectInit ∈ L0) (hd : At m pc (.invokespecial ix) 3) (hsum : (st.map cat).sum ≤ 8) (K : GoA xs d m b (pc + 3) ls st σ out) : GoA xs d m b pc ls (vA a :: st) σ out := by
  intro p l e R s mid args below meth c Q dC dI dA N0 bs ρ0 c0 X hφ hS hF H locs cells slots ρ LS hD hL ho
  obtain ⟨hx, hb, hml, hown, hts, hlk, hst, hK, hN, hXW, hZW, hRf, hRl, hnm, htb, hX⟩ := id hS
  have kk := K p l e R s mid args below meth c Q dC dI dA N0 bs ρ0 c0 X hφ hS hF H locs cells slots ρ LS hD hL (okt ho)
  refine W.objInit hx hb hown (hts _ hl) (hts _ objw.1) (hts _ objw.2) (g := F0 mid pc LS ((vA a :: st).map (vr ρ bs))) rfl (by show LS.size = _; rw [hml]; exact hL.size) rfl hd (by omega) ?_ kk
  show 2 * 0 + ((st.map (vr ρ bs)).map fun v => v.category).sum + 12 ≤ _
  rw [cats]
  omega
theorem ga_putA {a ix ci k : Nat} {v : MV} {σ' : St} (hf : FLP m.1.cls ix ci k) (hw : Wri m ci k) (hg : Gam a = (10 + ci, 0)) (hd : At m pc (.putfield ix) 3) (hc : σ'.2.2 = σ.2.2)
    (hv : ∀ ρ bs, (narrow (cty ci k) (vr ρ bs v) = vr ρ bs v ∧ fits (cty ci k) (vr ρ bs v) = true) ∧ (∀ j, j ≠ k → obf ρ σ' a ci j = obf ρ σ a ci j) ∧ obf ρ σ' a ci k = vr ρ bs v)
    (he9 : ∀ i, i ≠ a → (∀ j, σ'.1 i j = σ.1 i j) ∧ ∀ j, σ'.2.1 i j = σ.2.1 i j) (hM : ∀ X, okM σ → okv σ.2.2 X v → a < σ.2.2 → okM σ') (K : GoA xs d m b (pc + 3) ls st σ' out) : GoA xs d m b pc ls (v :: vA a :: st) σ out := by
  intro p l e R s mid args below meth c Q dC dI dA N0 bs ρ0 c0 X hφ hS hF H locs cells slots ρ LS hD hL ho
  obtain ⟨hci, hk, h⟩ := hf
  obtain ⟨hx, hb, hml, hown, hts, hlk, hst, hK, hN, hXW, hZW, hRf, hRl, hnm, htb, hX⟩ := id hS
  obtain ⟨⟨hP, hDD, hM0⟩, hSS, hx1, hx2, hx3, hx4⟩ := id hD
  have ha : a < σ.2.2 := okh (okt ho)
  have he := wsOf_get (dA := dA) (ρ := ρ) ha
  rw [ent_o hg] at he
  obtain ⟨⟨hn1, hn2⟩, h1, h2⟩ := hv ρ bs
  have hsame : ∀ x, s.fieldFound? (ctb ci k).1 (ctb ci k).2.1 (ctb ci k).2.2.1 = some x → s.fieldFound? (cnm ci) (ctb ci k).2.1 (ctb ci k).2.2.1 = some x := by
    rw [own_all ci hci k hk]; exact fun _ h => h
  have hset : (wsOf dA ρ σ).set a (ρ a, .inr (ci, ((List.range (cfn ci)).map (obf ρ σ a ci)).set k (vr ρ bs v))) = wsOf dA ρ σ' :=
    wsOf_set hc ha (fun i hi => ent_congr (he9 i hi).1 (he9 i hi).2) (by rw [ent_o hg, flds_set h1 h2])
  have kk : ∀ (H1 : Heap) (locs1 : List Loc), va_P (dC, dI) vwc ((wsOf dA ρ σ).set a (ρ a, .inr (ci, ((List.range (cfn ci)).map (obf ρ σ a ci)).set k (vr ρ bs v)))) H1 → va_D (fun q : Nat => N0 ≤ q) ((wsOf dA ρ σ).set a (ρ a, .inr (ci, ((List.range (cfn ci)).map (obf ρ σ a ci)).set k (vr ρ bs v)))) → va_S (fun q : Nat => N0 ≤ q) s.heap H1 locs1 →
      W p l e R s mid args below meth c H1 locs1 cells slots Q (F0 mid (pc + 3) LS (st.map (vr ρ bs))) := by
    intro H1 locs1 q1 q2 q3
    rw [hset] at q1 q2
    exact K p l e R s mid args below meth c Q dC dI dA N0 bs ρ0 c0 X hφ hS hF H1 locs1 cells slots ρ LS ⟨⟨q1, q2, hM X hM0 (okh ho) ha⟩, q3, hx1, by rw [hc]; exact hx2, hx3, hx4⟩ (by rw [hc]; exact hL) (by rw [hc]; exact okt (okt ho))
  rcases hw with hw | ⟨hw, hi, hcl⟩
  · exact va_put hx hb hts (uw_all ci hci) (cty ci) (ty_all ci hci) (nm_all ci hci) hown hK hP hDD hSS a he (vwc_at ci hci) k hk (hts _ h) hsame hw (ty_all ci hci k hk) hn1 hn2 (by simpa using hk) hd kk
  · exact va_putF hx hb hts (uw_all ci hci) (cty ci) (ty_all ci hci) (nm_all ci hci) hown hK hP hDD hSS a he (vwc_at ci hci) k hk (hts _ h) hsame hw (hnm.trans hi) (by rw [own_all ci hci k hk]; exact hcl) (ty_all ci hci k hk) hn1 hn2 (by simpa using hk) hd kk
theorem ga_putf {a ix ci k : Nat} {z : Int} (hf : FLP m.1.cls ix ci k) (hr : fref ci k = false) (hw : Wri m ci k) (hg : Gam a = (10 + ci, 0)) (hz : cty ci k = .int ∨ z = 0 ∨ z = 1) (hd : At m pc (.putfield ix) 3) (K : GoA xs d m b (pc + 3) ls st (upd2 σ.1 a k z, σ.2.1, σ.2.2) out) : GoA xs d m b pc ls (vI z :: vA a :: st) σ out := by
  refine ga_putA (σ' := (upd2 σ.1 a k z, σ.2.1, σ.2.2)) hf hw hg hd rfl (fun ρ bs => ⟨?_, fun j hj => ?_, ?_⟩) (fun i hi => ⟨fun j => ?_, fun j => rfl⟩) (fun X hM hz ha => hM.iset ha (fun _ _ => hz) (fun h => ?_) (fun h => ?_)) K
  · rcases (int_ok hf.1 hf.2.1 hr).1 with h | h
    · rw [h]; exact ⟨rfl, rfl⟩
    · rcases hz with h2 | rfl | rfl
      · rw [h] at h2; cases h2
      · rw [h]; exact ⟨rfl, rfl⟩
      · rw [h]; exact ⟨rfl, rfl⟩
  · unfold obf
    simp [upd2, hj]
  · unfold obf
    rw [hr]
    show Value.int (Int32.ofInt (upd2 σ.1 a k z a k)) = _
    unfold upd2
    rw [if_pos ⟨rfl, rfl⟩]
    rfl
  · show upd2 σ.1 a k z i j = _
    unfold upd2
    rw [if_neg (fun q => hi q.1)]
  · rw [hg] at h; exact absurd h (by show 10 + ci ≠ 3; omega)
  · rw [hg] at h; exact absurd h (by show 10 + ci ≠ 4; omega)
theorem ga_put1 {a ix ci k : Nat} {z : Int} (hf : FLP m.1.cls ix ci k) (hr : fref ci k = false) (hw : Wri m ci k) (hg : Gam a = (10 + ci, 0)) (hz : cty ci k = .int ∨ z = 0 ∨ z = 1) (hd : At m pc (.putfield ix) 3) (K : GoA xs d m b (pc + 3) ls st (P1 σ a k z) out) : GoA xs d m b pc ls (vI z :: vA a :: st) σ out := ga_putf hf hr hw hg hz hd K
theorem ga_made {a sz : Nat} {pc' : Nat} (hc : σ.2.2 = a) (hb : 1 ≤ b.1 ∧ sz ≤ b.2) (K : GoA xs d m (b.1 - 1, b.2 - sz) pc' ls (vA a :: st) (nxt σ) out)
    {p : Program} {l : Launch} {e : Env} {R : Room} {s : State} {mid : MethodId} {args : Array Value} {below : List Frame} {meth : Method} {c : Code} {Q : State → Prop} {dC : Nat → ClassId} {dI : Nat → Nat → Nat} {dA : Nat → ClassId} {N0 bs : Nat} {ρ0 : Nat → Nat} {c0 : Nat} {X : Int → Prop}
    (hφ : phi s) (hS : Sta xs d m p l R s mid args meth c dC dI dA N0 bs X) (hF : FinC m p l e R s mid args below meth c Q dC dI dA N0 bs ρ0 c0 X out) {H : Heap} {locs : List Loc} {cells slots : Nat} {ρ : Nat → Nat} {LS : Array Slot} (hD : Dyn R s dC dI dA N0 ρ0 c0 b H locs cells slots ρ σ) (hL : FrR bs m.2.2.1 ρ X σ.2.2 LS ls) (ho : ∀ v ∈ st, okv σ.2.2 X v)
    {q : Nat} {en : va_E} {H1 : Heap} {locs1 : List Loc} (he : ent dA (fun i => if i = σ.2.2 then q else ρ i) (nxt σ) σ.2.2 = en) (hP : va_P (dC, dI) vwc (wsOf dA ρ σ ++ [(q, en)]) H1) (hDD : va_D (fun q : Nat => N0 ≤ q) (wsOf dA ρ σ ++ [(q, en)])) (hSS : va_S (fun q : Nat => N0 ≤ q) s.heap H1 locs1) :
    W p l e R s mid args below meth c H1 locs1 (cells + 1) (slots + sz) Q (F0 mid pc' LS (.ref q :: st.map (vr ρ bs))) := by
  subst hc
  obtain ⟨⟨-, -, hM0⟩, -, hx1, hx2, hx3, hx4⟩ := id hD
  rw [wsOf_push hM0 he] at hP hDD
  have kk := K p l e R s mid args below meth c Q dC dI dA N0 bs ρ0 c0 X hφ hS hF H1 locs1 (cells + 1) (slots + sz) (fun i => if i = σ.2.2 then q else ρ i) LS
    ⟨⟨hP, hDD, hM0.push⟩, hSS, fun i hi => (rho_ext i (Nat.lt_of_lt_of_le hi hx2)).trans (hx1 i hi), Nat.le_succ_of_le hx2, by show cells + 1 + (b.1 - 1) ≤ _; omega, by show slots + sz + (b.2 - sz) ≤ _; omega⟩
    (hL.ext rho_ext (Nat.le_succ _)) (okc (show σ.2.2 < σ.2.2 + 1 from Nat.lt_succ_self _) (fun v hv => okv_mono (Nat.le_succ _) (ho v hv)))
  rw [List.map_cons, map_ext rho_ext ho] at kk
  rw [show vr (fun i => if i = σ.2.2 then q else ρ i) bs (vA σ.2.2) = .ref q from congrArg Value.ref (if_pos rfl)] at kk
  exact kk
theorem ga_newO {a ci ix : Nat} (hc : σ.2.2 = a) (hg : Gam a = (10 + ci, 0)) (hci : ci < 11) (hl : Cond.classLink m.1.cls ix (cnm ci) ∈ L0) (hi : Cond.instantiable (cnm ci) (cfn ci) ∈ L0) (hz : Cond.initialized (cnm ci) ∈ L0) (hb : 1 ≤ b.1 ∧ cfn ci ≤ b.2) (hd : At m pc (.new ix) 3) (K : GoA xs d m (b.1 - 1, b.2 - cfn ci) (pc + 3) ls (vA a :: st) (nxt σ) out) : GoA xs d m b pc ls st σ out := by
  intro p l e R s mid args below meth c Q dC dI dA N0 bs ρ0 c0 X hφ hS hF H locs cells slots ρ LS hD hL ho
  obtain ⟨⟨hP, hDD, hM0⟩, hSS, hx1, hx2, hx3, hx4⟩ := id hD
  subst hc
  have hK := hS.2.2.2.2.2.2.2.1
  have z1 : ∀ j, σ.1 σ.2.2 j = 0 := fun j => (hM0.2.2.2.2 σ.2.2 j (Nat.le_refl _)).1
  have z2 : ∀ j, σ.2.1 σ.2.2 j = none := fun j => (hM0.2.2.2.2 σ.2.2 j (Nat.le_refl _)).2
  refine va_new (ci := ci) (fs := (List.range (cfn ci)).map (obf ρ σ σ.2.2 ci)) hS.1 hS.2.1 hS.2.2.2.2.1 (uw_all ci hci) (cty ci) (ty_all ci hci) hS.2.2.2.1 (hS.2.2.2.2.1 _ hl) (hS.2.2.2.2.1 _ hi) (hS.2.2.2.2.1 _ hz) hK hP hDD hSS (fun q h => Nat.le_trans hS.2.2.2.2.2.2.2.2.1 h) (vwc_at ci hci) (fun j hj => ?_) (by omega) (by omega) hd (fun q H1 q1 q2 q3 => ?_)
  · have hf : vp_V ((List.range (cfn ci)).map (obf ρ σ σ.2.2 ci)) j = obf ρ σ σ.2.2 ci j := by
      unfold vp_V
      rw [List.getD_eq_getElem?_getD, flds_get hj]
      rfl
    rw [hf]
    unfold obf
    rw [z1, z2]
    by_cases hr : fref ci j = true
    · rw [if_pos hr]
      exact (ref_ok hci hj hr 0).2.2
    · rw [if_neg hr]
      exact (int_ok hci hj (Bool.eq_false_iff.mpr hr)).2
  · refine ga_made rfl hb K hφ hS hF hD hL ho ?_ q1 q2 q3
    rw [ent_o hg]
    have e : (List.range (cfn ci)).map (obf (fun i => if i = σ.2.2 then q else ρ i) (nxt σ) σ.2.2 ci) = (List.range (cfn ci)).map (obf ρ σ σ.2.2 ci) := by
      refine List.map_congr_left fun k _ => ?_
      unfold obf
      show (if fref ci k = true then va_rf ((σ.2.1 σ.2.2 k).map _) else .int (Int32.ofInt (σ.1 σ.2.2 k))) = _
      rw [z2]
      rfl
    rw [e]
theorem ga_newP {a n ix : Nat} (hc : σ.2.2 = a) (hg : Gam a = (5, n)) (hn : n < 30000) (hl : Cond.classLink m.1.cls ix RX4 ∈ L0) (hb : 1 ≤ b.1 ∧ n ≤ b.2) (hd : At m pc (.anewarray ix) 3) (K : GoA xs d m (b.1 - 1, b.2 - n) (pc + 3) ls (vA a :: st) (nxt σ) out) : GoA xs d m b pc ls (vI (n : Int) :: st) σ out := by
  intro p l e R s mid args below meth c Q dC dI dA N0 bs ρ0 c0 X hφ hS hF H locs cells slots ρ LS hD hL ho
  obtain ⟨⟨hP, hDD, hM0⟩, hSS, hx1, hx2, hx3, hx4⟩ := id hD
  subst hc
  have hK := hS.2.2.2.2.2.2.2.1
  have hn2 : (Int32.ofInt (n : Int)).toNatClampNeg = n := by
    rw [of_clamp (x := (n : Int)) (by unfold in32; omega) (by omega)]
    omega
  refine va_newq (C := RX4) hS.1 hS.2.1 hS.2.2.2.1 (hS.2.2.2.2.1 _ hl) hφ hK hP hDD hSS (fun q h => Nat.le_trans hS.2.2.2.2.2.2.2.2.1 h) ?_ hn2 (by omega) (by omega) (by omega) hd (fun q cA H1 k1 q1 q2 q3 => ?_)
  · exact fun h => of_in (x := (n : Int)) (n := n + 1) (by unfold in32; omega) (by omega) (by omega) (Or.inl h)
  · have hA : cA = dA 5 := by
      obtain ⟨_, _, _, _, _, h1⟩ := (k1.2 6 (cA, .object RX4) rfl).2
      obtain ⟨_, _, _, _, _, h2⟩ := (hK.2 5 (dA 5, .object RX4) rfl).2
      exact ra_same h1 h2
    subst hA
    refine ga_made rfl hb K hφ hS hF hD hL (okt ho) ?_ q1 q2 q3
    rw [ent_p hg]
    have z : ∀ j, (nxt σ).2.1 σ.2.2 j = none := fun j => (hM0.2.2.2.2 σ.2.2 j (Nat.le_refl _)).2
    simp only [z, Option.map_none]
def ConA (d : Nat) (m : MI) (mc ms : Nat) (as : List MV) (σ : St) (out : MV × St) : Prop :=
  (∀ v ∈ as, okv σ.2.2 noX v) → ∀ (l : Launch), l.stackTraces = false → ∀ (dC : Nat → ClassId) (dI : Nat → Nat → Nat) (dA : Nat → ClassId) (N0 : Nat) (ρ : Nat → Nat),
    vx_Met l m.1 (wsM m) (rmOf d mc ms) (fun a U => a = (as.map (vr ρ 0)).toArray ∧ UW dC dI dA N0 ρ σ U ∧ phi U)
      (fun _ st o t => QC dC dI dA N0 ρ σ out st o t) (fun E st t => QX dC dI dA N0 ρ σ out E st t) mc ms (fun q : Nat => N0 ≤ q)
theorem con_of_goA {m : MI} {d mc ms : Nat} {as : List MV} {σ : St} {out : MV × St} {n : Nat} (hmb : MB m n) (hre : retOK m.2.2.2.1 out.1) (hlen : (mloc as).length ≤ m.2.2.1) (hlv : as.all live = true) (hne : m.1.cls ≠ "")
    (h : GoA (fun _ => 0) d m (mc, ms) 0 (mlocs as m.2.2.1) [] σ out) : ConA d m mc ms as σ out := by
  intro hoa l hst dC dI dA N0 ρ
  have body : ∀ (p : Program) (e : Env) (s : State) (mid : MethodId) (args : Array Value) (below : List Frame) (meth : Method) (c : Code) (s₁ : State), BodyLoose p l m.1 (headSpec (wsM m) (rmOf d mc ms)) m.2.1 m.2.2.1 m.2.2.2.1 e s mid args below meth c s₁ → c.maxLocals = m.2.2.1 → c.exceptionTable.toList = tableOf m.2.2.2.2.1 →
      (args = (as.map (vr ρ 0)).toArray ∧ UW dC dI dA N0 ρ σ s ∧ phi s) → W p l e (headSpec (wsM m) (rmOf d mc ms)).room s mid args below meth c s.heap [] 0 0 (vx_MQ below (fun _ st o t => QC dC dI dA N0 ρ σ out st o t) (fun E st t => QX dC dI dA N0 ρ σ out E st t) args s mc ms (fun q : Nat => N0 ≤ q)) (entryFrame mid args m.2.2.1) := by
    intro p e s mid args below meth c s₁ B hml htb ⟨ha, ⟨hN, hH, hK, hXW, hZW⟩, hφ⟩
    subst ha
    have hts := atoms_spec (ws := wsM m) B.pre
    have hown : s.vm.findClass m.1.cls = some mid.cls := findClass_of_methodNamed B.named
    have hS : Sta (fun _ => 0) d m p l (rmOf d mc ms) s mid (as.map (vr ρ 0)).toArray meth c dC dI dA N0 0 noX :=
      ⟨B.exec, B.bytes, hml, hown, fun w hw => hts w (List.mem_cons_of_mem _ hw), B.notSynchronized, hst, hK, hN, hXW, hZW, Nat.le_refl _, Nat.le_refl _, (name_of_methodNamed B.named B.method).1, htb, fun z hz => hz.elim⟩
    have hl := lv_entry (as.map (vr ρ 0)) (n := m.2.2.1) (by rw [mloc_len]; exact hlen)
    rw [lg_entry_eq]
    refine h p l e (rmOf d mc ms) s mid _ below meth c _ dC dI dA N0 0 ρ σ.2.2 noX hφ hS (fin_of hS ⟨rfl, rfl⟩ B.returns hre hne) s.heap [] 0 0 ρ _ ⟨hH, va_S.rf, fun _ _ => rfl, Nat.le_refl _, by show 0 + mc ≤ mc; omega, by show 0 + ms ≤ ms; omega⟩ ⟨?_, ?_, ?_⟩ (fun _ h => absurd h List.not_mem_nil)
    · unfold mlocs
      rw [lps_args _ _ hlv]
      exact hl
    · unfold mlocs
      rw [List.length_append, List.length_replicate]
      omega
    · intro v hv
      have hml9 : ∀ (as : List MV), (∀ v ∈ as, okv σ.2.2 noX v) → ∀ v ∈ mloc as, okv σ.2.2 noX v := by
        intro as
        induction as with
        | nil => intro _ v hv; cases hv
        | cons w ws ih =>
          intro hw v hv
          rw [mloc] at hv
          split at hv
          · rcases List.mem_cons.mp hv with rfl | hv
            · exact hw _ List.mem_cons_self
            · rcases List.mem_cons.mp hv with rfl | hv
              · trivial
              · exact ih (fun w h => hw w (List.mem_cons_of_mem _ h)) v hv
          · rcases List.mem_cons.mp hv with rfl | hv
            · exact hw _ List.mem_cons_self
            · exact ih (fun w h => hw w (List.mem_cons_of_mem _ h)) v hv
      rcases List.mem_append.mp hv with hv | hv
      · exact hml9 as hoa v hv
      · rw [List.eq_of_mem_replicate hv]; trivial
  by_cases hh : m.2.2.2.2.1 = []
  · exact vx_ofW (cc := m.2.1) (maxL := m.2.2.1) (ret := m.2.2.2.1) hmb.2.2.2.2 (wsM0 hh) (fun p e s mid args below meth c s₁ B hml ht hP => body p e s mid args below meth c s₁ B hml (by
      rw [hh]
      exact List.eq_nil_iff_forall_not_mem.mpr (fun x hx => ht x hx)) hP)
  · exact vx_ofWH (cc := m.2.1) (maxL := m.2.2.1) (ret := m.2.2.2.1) (hh := m.2.2.2.2.1) hmb.2.2.2.2 (wsM1 hh) (fun p e s mid args below meth c s₁ B hml hP => body p e s mid args below meth c s₁ B hml (by
      have hts := atoms_spec (ws := wsM m) B.pre
      have h9 := hts _ (show headW m ∈ wsM m from List.mem_cons_self)
      unfold headW at h9
      rw [if_neg hh] at h9
      exact vx_table (x := m.1) B h9) hP)
theorem ga_cI {d' mc ms n ix r : Nat} {as' stk : List MV} {v1 : MV} {σ1 : St} (hc : ConA d' m' mc ms (vA r :: as') σ (v1, σ1)) (hlk' : LkI m.1.cls ix m' n) (hn : as'.length = n) (hd : At m pc (.invokespecial ix) 3) (hno : rets v1 = true) (hd' : d' < d) (hs : stk = (vA r :: as').reverse ++ st) (hsum : (st.map cat).sum ≤ 8) (hns : (vA r :: as').all nos = true) (hbm : mc ≤ b.1 ∧ ms ≤ b.2)
    (K : Go xs d m (b.1 - mc, b.2 - ms) (pc + 3) ls (push v1 st) σ1 out) : GoA xs d m b pc ls stk σ out := by
  intro p l e R s mid args below meth c Q dC dI dA N0 bs ρ0 c0 X hφ hS hF H locs cells slots ρ LS hD hL ho
  obtain ⟨hx, hb, hml, hown, hts, hlk, hst, hK, hN, hXW, hZW, hRf, hRl, hnm, htb, hX⟩ := id hS
  have hoa : ∀ v ∈ vA r :: as', okv σ.2.2 noX v := fun v hv => okv_no (ho v (by rw [hs]; exact List.mem_append_left _ (List.mem_reverse.mpr hv))) (List.all_eq_true.mp hns v hv)
  have hM := hc hoa l hst dC dI dA N0 ρ
  have hW : 2 * (F0 mid pc LS (stk.map (vr ρ bs))).monitorRoom + ((st.map (vr ρ bs)).map fun v => v.category).sum ≤ 8 := lv_room (by rw [cats]; exact hsum)
  have hf : cells + mc ≤ R.cells ∧ slots + ms ≤ R.slots := by obtain ⟨-, -, -, -, h5, h6⟩ := hD; omega
  have hrm : ∀ _ : Nat, m'.2.2.1 ≤ 40 → (rmOf d' mc ms).frames + 1 ≤ R.frames ∧ 8 + (m'.2.2.1 + 11) + (rmOf d' mc ms).locals ≤ R.locals := by
    intro _ h; show d' + 12 + 1 ≤ _ ∧ 8 + (m'.2.2.1 + 11) + (60 * d' + 400) ≤ _; omega
  have hPc : ∀ U : State, U.heap = H → s.WarmedH U.vm → (fun a U => a = ((vA r :: as').map (vr ρ 0)).toArray ∧ UW dC dI dA N0 ρ σ U ∧ phi U) ((vA r :: as').map (vr ρ bs)).toArray U := fun U hU hW => ⟨by rw [map_no hns], UW.of hS hD hU hW, va_AO.moved hW.alike hφ⟩
  have hbl : FrameBlind (fun a U => a = ((vA r :: as').map (vr ρ 0)).toArray ∧ UW dC dI dA N0 ρ σ U ∧ phi U) := by
    intro a U g mk ⟨e, h1, h2⟩
    have h3 := UW.blind (as := (vA r :: as').map (vr ρ 0)) (dC := dC) (dI := dI) (dA := dA) (N0 := N0) (ρ := ρ) (σ := σ) a U g mk ⟨e, h1⟩
    exact ⟨h3.1, h3.2, va_AO.moved (u := U) (U := U.calling g mk a) (Vm.Alike.refl U.vm) h2⟩
  have hstk : (stk.map (vr ρ bs)) = ((vA r :: as').map (vr ρ bs)).reverse ++ st.map (vr ρ bs) := by rw [hs, List.map_append, List.map_reverse]
  have fix : CallFix p mid c m.2.1 m.2.2.1 s args L0 m.1.cls := ⟨hx, hb, hml, hown, hts⟩
  obtain ⟨hl, ⟨⟨w1, w2, w3, w4, w5⟩, w6, w7⟩, hh, hm40, hret⟩ := hlk'
  have hw0 := wsM0 hh
  rw [hret] at hw0
  refine run_ret (vx_runI (As := as'.map (vr ρ bs)) (b := ρ r) (n := n) fix hM ⟨callB_of n hts (gin ⟨w1, w2, w3, w4, w5⟩) hw0 rfl rfl (hts _ w1) (hts _ hl) ⟨w3.1, w3.2, w4⟩ (hrm 0 hm40), w7, hts _ w6⟩ ⟨hbl, hPc⟩ rfl (by simpa using hn) hL.size ?_ hW hd hf) (rets_no hno) hbm K hS hF hD hL (fun v hv => ho v (by rw [hs]; exact List.mem_append_right _ hv))
  rw [hstk]; simp
  rfl
end GoMore
