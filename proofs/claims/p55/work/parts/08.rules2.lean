section GoHeap
variable {xs : Nat → Int} {d : Nat} {m : MI} {b : Nat × Nat} {pc : Nat} {ls st : List MV} {σ : St} {out : MV × St}
def upd2 (M : Nat → Nat → Int) (a j : Nat) (z : Int) : Nat → Nat → Int := fun a' j' => if a' = a ∧ j' = j then z else M a' j'
def updP (P : Nat → Nat → Option Nat) (a j : Nat) (r : Option Nat) : Nat → Nat → Option Nat := fun a' j' => if a' = a ∧ j' = j then r else P a' j'
theorem GamD_congr {σ σ' : St} {i : Nat} (h : σ'.1 i TY = σ.1 i TY) : GamD σ' i = GamD σ i := by
  unfold GamD
  rw [h]
theorem in_ne {j : Int} (h : in32 j) : j.toNat ≠ TY := by
  unfold in32 at h
  unfold TY
  omega
theorem ent_congr {dA : Nat → ClassId} {ρ : Nat → Nat} {σ σ' : St} {i : Nat} (h1 : ∀ j, σ'.1 i j = σ.1 i j) (h2 : ∀ j, σ'.2.1 i j = σ.2.1 i j) : ent dA ρ σ' i = ent dA ρ σ i := by
  have e1 : σ'.1 i = σ.1 i := funext h1
  have e9 : vl σ' i = vl σ i := funext fun j => by unfold vl; rw [e1]
  have e2 : σ'.2.1 i = σ.2.1 i := funext h2
  unfold ent
  have e0 : GamD σ' i = GamD σ i := GamD_congr (h1 TY)
  have e3 : obf ρ σ' i ((GamD σ i).1 - 10) = obf ρ σ i ((GamD σ i).1 - 10) := by
    funext k
    unfold obf
    rw [e1, e2]
  rw [e0, e9, e2, e3]
theorem wsOf_get {dA : Nat → ClassId} {ρ : Nat → Nat} {σ : St} {a : Nat} (h : a < σ.2.2) : (wsOf dA ρ σ)[a]? = some (ρ a, ent dA ρ σ a) := by
  simp [wsOf, h]
theorem wsOf_set {dA : Nat → ClassId} {ρ : Nat → Nat} {σ σ' : St} {a : Nat} {e : va_E} (hc : σ'.2.2 = σ.2.2) (ha : a < σ.2.2) (he : ∀ i, i ≠ a → ent dA ρ σ' i = ent dA ρ σ i) (hea : ent dA ρ σ' a = e) : (wsOf dA ρ σ).set a (ρ a, e) = wsOf dA ρ σ' := by
  apply List.ext_getElem?
  intro j
  by_cases hj : j = a
  · subst hj
    rw [List.getElem?_set_self (by simpa [wsOf] using ha), wsOf_get (by omega), hea]
  · rw [List.getElem?_set_ne (fun q => hj q.symm)]
    by_cases hjc : j < σ.2.2
    · rw [wsOf_get hjc, wsOf_get (by omega), he j hj]
    · rw [List.getElem?_eq_none (by simp [wsOf]; omega), List.getElem?_eq_none (by simp [wsOf]; omega)]
theorem wsOf_push {dA : Nat → ClassId} {ρ : Nat → Nat} {σ σ' : St} {q : Nat} {e : va_E} (ho : okM σ) (hc : σ'.2.2 = σ.2.2 + 1) (h1 : ∀ i, i < σ.2.2 → ∀ j, σ'.1 i j = σ.1 i j) (h2 : σ'.2.1 = σ.2.1) (he : ent dA (fun i => if i = σ.2.2 then q else ρ i) σ' σ.2.2 = e) : wsOf dA ρ σ ++ [(q, e)] = wsOf dA (fun i => if i = σ.2.2 then q else ρ i) σ' := by
  apply List.ext_getElem?
  intro j
  have hlen : (wsOf dA ρ σ).length = σ.2.2 := by simp [wsOf]
  have hrho : ∀ a k, (σ.2.1 a k).map (fun i => if i = σ.2.2 then q else ρ i) = (σ.2.1 a k).map ρ := by
    intro a k
    cases h : σ.2.1 a k with
    | none => rfl
    | some i =>
      have := ho.2.2.2.1 a k i h
      simp only [Option.map_some]
      rw [if_neg (by omega)]
  have hent : ∀ i, i < σ.2.2 → ent dA (fun i => if i = σ.2.2 then q else ρ i) σ' i = ent dA ρ σ i := by
    intro i hi
    have e0 : GamD σ' i = GamD σ i := GamD_congr (h1 i hi TY)
    have e1 : σ'.1 i = σ.1 i := funext (h1 i hi)
    unfold ent
    have e3 : obf (fun i => if i = σ.2.2 then q else ρ i) σ' i ((GamD σ i).1 - 10) = obf ρ σ i ((GamD σ i).1 - 10) := by
      funext k
      unfold obf
      rw [h2, hrho, e1]
    have e9 : vl σ' i = vl σ i := funext fun j => by unfold vl; rw [e1]
    rw [e0, e3, e9, h2]
    simp only [hrho]
  rcases Nat.lt_trichotomy j σ.2.2 with h | h | h
  · rw [List.getElem?_append_left (by omega), wsOf_get h, wsOf_get (by rw [hc]; omega), hent j h]
    rw [if_neg (by omega)]
  · subst h
    rw [List.getElem?_append_right (by omega), hlen, Nat.sub_self, wsOf_get (by rw [hc]; omega), he]
    simp
  · rw [List.getElem?_eq_none (by simp [hlen]; omega), List.getElem?_eq_none (by simp [wsOf, hc]; omega)]
theorem ent_i {dA : Nat → ClassId} {ρ : Nat → Nat} {σ : St} {a t n : Nat} (hg : GamD σ a = (t, n)) (ht : t < 3) : ent dA ρ σ a = .inl (dA t, n, .inl (fun j => Int32.ofInt (vl σ a j))) := by
  unfold ent
  rw [hg, if_pos ht]
theorem ent_p {dA : Nat → ClassId} {ρ : Nat → Nat} {σ : St} {a tq n : Nat} (hg : GamD σ a = (tq, n)) (h3 : 3 ≤ tq) (h6 : tq < 6) : ent dA ρ σ a = .inl (dA tq, n, .inr (.inr (.inr (.inr (fun j => (σ.2.1 a j).map ρ))))) := by
  unfold ent
  rw [hg, if_neg (show ¬ tq < 3 by omega), if_pos h6]
theorem ent_o {dA : Nat → ClassId} {ρ : Nat → Nat} {σ : St} {a ci n : Nat} (hg : GamD σ a = (10 + ci, n)) : ent dA ρ σ a = .inr (ci, (List.range (cfn ci)).map (obf ρ σ a ci)) := by
  unfold ent
  rw [hg, if_neg (by show ¬ 10 + ci < 3; omega), if_neg (by show ¬ 10 + ci < 6; omega)]
  show Sum.inr (10 + ci - 10, _) = _
  rw [show 10 + ci - 10 = ci by omega]
theorem own_all : ∀ i, i < 13 → ∀ k, k < cfn i → (ctb i k).1 = cnm i := lt13 ⟨by decide +kernel, by decide +kernel, by decide +kernel, by decide +kernel, by decide +kernel, by decide +kernel, by decide +kernel, by decide +kernel, by decide +kernel, by decide +kernel, by decide +kernel, by decide +kernel, by decide +kernel⟩
def prty (ci k : Nat) : Bool := match cty ci k with
  | .int => true
  | .boolean => true
  | .char => true
  | .object _ => true
  | .array _ => true
  | _ => false
theorem prty_all : ∀ i, i < 13 → ∀ k, k < cfn i → prty i k = true := lt13 ⟨by decide +kernel, by decide +kernel, by decide +kernel, by decide +kernel, by decide +kernel, by decide +kernel, by decide +kernel, by decide +kernel, by decide +kernel, by decide +kernel, by decide +kernel, by decide +kernel, by decide +kernel⟩
theorem ref_ok {ci k : Nat} (hc : ci < 13) (hk : k < cfn ci) (hr : fref ci k = true) (q : Nat) : narrow (cty ci k) (.ref q) = .ref q ∧ fits (cty ci k) (.ref q) = true ∧ defaultValue (cty ci k) = .null := by
  have h := prty_all ci hc k hk
  unfold prty at h
  unfold fref at hr
  cases e : cty ci k <;> simp [e] at h hr <;> exact ⟨rfl, rfl, rfl⟩
theorem int_ok {ci k : Nat} (hc : ci < 13) (hk : k < cfn ci) (hr : fref ci k = false) : (cty ci k = .int ∨ cty ci k = .boolean ∨ cty ci k = .char) ∧ defaultValue (cty ci k) = .int 0 := by
  have h := prty_all ci hc k hk
  unfold prty at h
  unfold fref at hr
  cases e : cty ci k <;> simp [e] at h hr <;> simp <;> rfl
theorem flds_get {ρ : Nat → Nat} {σ : St} {a ci k : Nat} (hk : k < cfn ci) : ((List.range (cfn ci)).map (obf ρ σ a ci))[k]? = some (obf ρ σ a ci k) := by
  simp [hk]
theorem flds_set {ρ : Nat → Nat} {σ σ' : St} {a ci k : Nat} {v : Value} (h1 : ∀ j, j ≠ k → obf ρ σ' a ci j = obf ρ σ a ci j) (h2 : obf ρ σ' a ci k = v) : ((List.range (cfn ci)).map (obf ρ σ a ci)).set k v = (List.range (cfn ci)).map (obf ρ σ' a ci) := by
  apply List.ext_getElem?
  intro j
  by_cases hjc : j < cfn ci
  · by_cases hj : j = k
    · subst hj
      rw [List.getElem?_set_self (by simpa using hjc), flds_get hjc, h2]
    · rw [List.getElem?_set_ne (fun q => hj q.symm), flds_get hjc, flds_get hjc, h1 j hj]
  · rw [List.getElem?_eq_none (by simp; omega), List.getElem?_eq_none (by simp; omega)]
theorem go_getA {a ix ci k : Nat} {v : MV} (hf : FL m.1.cls ix ci k) (hg : GamD σ a = (10 + ci, 0)) (hd : At m pc (.getfield ix) 3) (hv : ∀ ρ bs X, okM σ → obf ρ σ a ci k = vr ρ bs v ∧ okv σ.2.2 X v) (K : Go xs d m b (pc + 3) ls (v :: st) σ out) : Go xs d m b pc ls (vA a :: st) σ out := by
  intro p l e R s mid args below meth c Q dC dI dA N0 bs ρ0 c0 X hS hF H locs cells slots ρ LS hD hL ho
  obtain ⟨hci, hk, hl⟩ := hf
  obtain ⟨hx, hb, hml, hown, hts, hlk, hst, hK, hN, hXW, hZW, hRf, hRl, hnm, htb, hX⟩ := id hS
  have ha : a < σ.2.2 := okh ho
  have he := wsOf_get (dA := dA) (ρ := ρ) ha
  rw [ent_o hg] at he
  obtain ⟨h1, h2⟩ := hv ρ bs X hD.1.2.2
  have hsame : ∀ x, s.fieldFound? (ctb ci k).1 (ctb ci k).2.1 (ctb ci k).2.2.1 = some x → s.fieldFound? (cnm ci) (ctb ci k).2.1 (ctb ci k).2.2.1 = some x := by
    rw [own_all ci hci k hk]; exact fun _ h => h
  have kk := K p l e R s mid args below meth c Q dC dI dA N0 bs ρ0 c0 X hS hF H locs cells slots ρ LS hD hL (okc h2 (okt ho))
  rw [List.map_cons, ← h1] at kk
  rcases hl with h | h
  · exact va_get hx hb hts (uw_all ci hci) hown hK hD.1.1 a he (vwc_at ci hci) k hk (hts _ h) hsame (flds_get hk) hd kk
  · obtain ⟨w, h⟩ := h
    exact va_getN hx hb hts (uw_all ci hci) hown hK hD.1.1 a he (vwc_at ci hci) k hk (va_Nw.use rfl (hXW.2.1 _ h)) hsame (flds_get hk) hd kk
theorem okM.at {σ : St} (h : okM σ) {a : Nat} (k : Nat) : in32 (σ.1 a k) := h.1 a k
/-- an int or boolean field -/
theorem go_getfD {a ix ci k : Nat} (hf : FL m.1.cls ix ci k) (hr : fref ci k = false) (hg : GamD σ a = (10 + ci, 0)) (hd : At m pc (.getfield ix) 3) (K : Go xs d m b (pc + 3) ls (vI (σ.1 a k) :: st) σ out) : Go xs d m b pc ls (vA a :: st) σ out :=
  go_getA (v := vI (σ.1 a k)) hf hg hd (fun ρ bs X hM => ⟨by unfold obf; rw [hr]; rfl, hM.at k⟩) K
/-- a reference field -/
theorem go_getrD {a ix ci k q : Nat} (hf : FL m.1.cls ix ci k) (hr : fref ci k = true) (hg : GamD σ a = (10 + ci, 0)) (hq : σ.2.1 a k = some q) (hd : At m pc (.getfield ix) 3) (K : Go xs d m b (pc + 3) ls (vA q :: st) σ out) : Go xs d m b pc ls (vA a :: st) σ out :=
  go_getA (v := vA q) hf hg hd (fun ρ bs X hM => ⟨by unfold obf; rw [hr, hq]; rfl, hM.2.2.2.1 a k q hq⟩) K
theorem okM.iset {σ : St} (h : okM σ) {a j : Nat} {z : Int} (ha : a < σ.2.2) (h1 : in32 z) : okM (upd2 σ.1 a j z, σ.2.1, σ.2.2) := by
  obtain ⟨o1, o2, o3, o4, o5⟩ := h
  refine ⟨fun a' k' => ?_, trivial, trivial, o4, fun a' k' q => ?_⟩
  · show in32 (upd2 σ.1 a j z a' k')
    unfold upd2; split
    · exact h1
    · exact o1 a' k'
  · show upd2 σ.1 a j z a' k' = 0 ∧ _
    unfold upd2; split
    · rename_i e; obtain ⟨rfl, rfl⟩ := e; exact absurd ha (Nat.not_lt.mpr q)
    · exact o5 a' k' q
theorem okM.pset {σ : St} (h : okM σ) {a j q : Nat} (ha : a < σ.2.2) (hq : q < σ.2.2) : okM (σ.1, updP σ.2.1 a j (some q), σ.2.2) := by
  obtain ⟨o1, o2, o3, o4, o5⟩ := h
  refine ⟨o1, o2, o3, fun a' k' i e => ?_, fun a' k' q => ?_⟩
  · have e : updP σ.2.1 a j (some q) a' k' = some i := e
    unfold updP at e; split at e
    · cases e; exact hq
    · exact o4 a' k' i e
  · refine ⟨(o5 a' k' q).1, ?_⟩
    show updP σ.2.1 a j (some _) a' k' = none
    unfold updP; split
    · rename_i e; obtain ⟨rfl, rfl⟩ := e; exact absurd ha (Nat.not_lt.mpr q)
    · exact (o5 a' k' q).2
def FLP (own : String) (ix ci k : Nat) : Prop := FL own ix ci k
/-- the field may be written here -/
def Wri (m : MI) (ci k : Nat) : Prop := (ctb ci k).2.2.2 = false ∨ ((ctb ci k).2.2.2 = true ∧ m.1.name = "<init>" ∧ cnm ci = m.1.cls)
theorem ty_no {ci k : Nat} (hc : ci < 13) (hk : k < cfn ci) : TY ≠ k := by
  have h : ∀ i, i < 13 → cfn i < 100 := lt13 ⟨by decide, by decide, by decide, by decide, by decide, by decide, by decide, by decide, by decide, by decide, by decide, by decide, by decide⟩
  have := h ci hc
  unfold TY
  omega
theorem nest_no {own nm ds w : String} {ix ci : Nat} (h : (own, ix, cnm ci, nm, ds, w) ∈ XF) : cnm ci ≠ own := by
  have hh : ∀ q ∈ XF, q.2.2.1 ≠ q.1 := by decide +kernel
  exact hh _ h
theorem go_putA {a ix ci k : Nat} {v : MV} {σ' : St} (hf : FLP m.1.cls ix ci k) (hw : Wri m ci k) (hg : GamD σ a = (10 + ci, 0)) (hd : At m pc (.putfield ix) 3) (hc : σ'.2.2 = σ.2.2)
    (hv : ∀ ρ bs, (narrow (cty ci k) (vr ρ bs v) = vr ρ bs v ∧ fits (cty ci k) (vr ρ bs v) = true) ∧ (∀ j, j ≠ k → obf ρ σ' a ci j = obf ρ σ a ci j) ∧ obf ρ σ' a ci k = vr ρ bs v)
    (he9 : ∀ i, i ≠ a → (∀ j, σ'.1 i j = σ.1 i j) ∧ ∀ j, σ'.2.1 i j = σ.2.1 i j) (hM : ∀ X, okM σ → okv σ.2.2 X v → a < σ.2.2 → okM σ') (hgg : GamD σ' a = GamD σ a) (K : Go xs d m b (pc + 3) ls st σ' out) : Go xs d m b pc ls (v :: vA a :: st) σ out := by
  intro p l e R s mid args below meth c Q dC dI dA N0 bs ρ0 c0 X hS hF H locs cells slots ρ LS hD hL ho
  obtain ⟨hci, hk, hl⟩ := hf
  obtain ⟨hx, hb, hml, hown, hts, hlk, hst, hK, hN, hXW, hZW, hRf, hRl, hnm, htb, hX⟩ := id hS
  obtain ⟨⟨hP, hDD, hM0⟩, hSS, hx1, hx2, hx3, hx4⟩ := id hD
  have ha : a < σ.2.2 := okh (okt ho)
  have he := wsOf_get (dA := dA) (ρ := ρ) ha
  rw [ent_o hg] at he
  obtain ⟨⟨hn1, hn2⟩, h1, h2⟩ := hv ρ bs
  have hsame : ∀ x, s.fieldFound? (ctb ci k).1 (ctb ci k).2.1 (ctb ci k).2.2.1 = some x → s.fieldFound? (cnm ci) (ctb ci k).2.1 (ctb ci k).2.2.1 = some x := by
    rw [own_all ci hci k hk]; exact fun _ h => h
  have hset : (wsOf dA ρ σ).set a (ρ a, .inr (ci, ((List.range (cfn ci)).map (obf ρ σ a ci)).set k (vr ρ bs v))) = wsOf dA ρ σ' :=
    wsOf_set hc ha (fun i hi => ent_congr (he9 i hi).1 (he9 i hi).2) (by rw [ent_o (hgg.trans hg), flds_set h1 h2])
  have kk : ∀ (H1 : Heap) (locs1 : List Loc), va_P (dC, dI) vwc ((wsOf dA ρ σ).set a (ρ a, .inr (ci, ((List.range (cfn ci)).map (obf ρ σ a ci)).set k (vr ρ bs v)))) H1 → va_D (fun q : Nat => N0 ≤ q) ((wsOf dA ρ σ).set a (ρ a, .inr (ci, ((List.range (cfn ci)).map (obf ρ σ a ci)).set k (vr ρ bs v)))) → va_S (fun q : Nat => N0 ≤ q) s.heap H1 locs1 →
      W p l e R s mid args below meth c H1 locs1 cells slots Q (F0 mid (pc + 3) LS (st.map (vr ρ bs))) := by
    intro H1 locs1 q1 q2 q3
    rw [hset] at q1 q2
    exact K p l e R s mid args below meth c Q dC dI dA N0 bs ρ0 c0 X hS hF H1 locs1 cells slots ρ LS ⟨⟨q1, q2, hM X hM0 (okh ho) ha⟩, q3, hx1, by rw [hc]; exact hx2, hx3, hx4⟩ (by rw [hc]; exact hL) (by rw [hc]; exact okt (okt ho))
  rcases hw with hw | ⟨hw, hi, hcl⟩
  · rcases hl with h | ⟨w, h⟩
    · exact va_put hx hb hts (uw_all ci hci) (cty ci) (ty_all ci hci) (nm_all ci hci) hown hK hP hDD hSS a he (vwc_at ci hci) k hk (hts _ h) hsame hw (ty_all ci hci k hk) hn1 hn2 (by simpa using hk) hd kk
    · exact va_putN hx hb hts (uw_all ci hci) (cty ci) (ty_all ci hci) (nm_all ci hci) hown hK hP hDD hSS a he (vwc_at ci hci) k hk (va_Nw.use rfl (hXW.2.1 _ h)) hsame hw (ty_all ci hci k hk) hn1 hn2 (by simpa using hk) hd kk
  · rcases hl with h | ⟨w, h⟩
    · exact va_putF hx hb hts (uw_all ci hci) (cty ci) (ty_all ci hci) (nm_all ci hci) hown hK hP hDD hSS a he (vwc_at ci hci) k hk (hts _ h) hsame hw (hnm.trans hi) (by rw [own_all ci hci k hk]; exact hcl) (ty_all ci hci k hk) hn1 hn2 (by simpa using hk) hd kk
    · exact absurd hcl (nest_no h)
/-- what a field of whole numbers takes -/
def fits1 (ci k : Nat) (z : Int) : Prop := (cty ci k = .int ∨ z = 0 ∨ z = 1) ∨ (cty ci k = .char ∧ 0 ≤ z ∧ z < 65536)
theorem go_putg {a ix ci k : Nat} {z : Int} (hf : FLP m.1.cls ix ci k) (hr : fref ci k = false) (hw : Wri m ci k) (hg : GamD σ a = (10 + ci, 0)) (hz : fits1 ci k z) (hd : At m pc (.putfield ix) 3) (K : Go xs d m b (pc + 3) ls st (upd2 σ.1 a k z, σ.2.1, σ.2.2) out) : Go xs d m b pc ls (vI z :: vA a :: st) σ out := by
  refine go_putA (σ' := (upd2 σ.1 a k z, σ.2.1, σ.2.2)) hf hw hg hd rfl (fun ρ bs => ⟨?_, fun j hj => ?_, ?_⟩) (fun i hi => ⟨fun j => ?_, fun j => rfl⟩) (fun X hM hz ha => hM.iset ha hz) (GamD_congr (by show upd2 σ.1 a k z a TY = σ.1 a TY; unfold upd2; rw [if_neg (fun q => ty_no hf.1 hf.2.1 q.2)])) K
  · rcases (int_ok hf.1 hf.2.1 hr).1 with h | h | h
    · rw [h]; exact ⟨rfl, rfl⟩
    · rcases hz with (h2 | rfl | rfl) | ⟨h2, -⟩
      · rw [h] at h2; cases h2
      · rw [h]; exact ⟨rfl, rfl⟩
      · rw [h]; exact ⟨rfl, rfl⟩
      · rw [h] at h2; cases h2
    · rcases hz with (h2 | rfl | rfl) | ⟨-, h2, h3⟩
      · rw [h] at h2; cases h2
      · rw [h]; exact ⟨rfl, rfl⟩
      · rw [h]; exact ⟨rfl, rfl⟩
      · rw [h]
        obtain ⟨n9, rfl⟩ := Int.eq_ofNat_of_zero_le h2
        have h9 := pk_charN (q := n9) (by omega)
        show narrow .char (.int (Int32.ofInt (n9 : Int))) = .int (Int32.ofInt (n9 : Int)) ∧ fits .char (.int (Int32.ofInt (n9 : Int))) = true
        rw [show Int32.ofInt (n9 : Int) = nI n9 from Int32.ofInt_eq_ofNat]
        exact h9
  · unfold obf
    simp [upd2, hj]
  · unfold obf
    rw [hr]
    show Value.int (Int32.ofInt (upd2 σ.1 a k z a k)) = _
    unfold upd2
    rw [if_pos ⟨rfl, rfl⟩]
    rfl
  · show upd2 σ.1 a k z i j = _
    unfold upd2
    rw [if_neg (fun q => hi q.1)]
theorem go_putf {a ix ci k : Nat} {z : Int} (hf : FLP m.1.cls ix ci k) (hr : fref ci k = false) (hw : Wri m ci k) (hg : Gam a = (10 + ci, 0)) (hz : cty ci k = .int ∨ z = 0 ∨ z = 1) (hd : At m pc (.putfield ix) 3) (K : Go xs d m b (pc + 3) ls st (upd2 σ.1 a k z, σ.2.1, σ.2.2) out) : Go xs d m b pc ls (vI z :: vA a :: st) σ out := go_putg hf hr hw (gs hg (by have := hf.1; omega)) (Or.inl hz) hd K
theorem go_putrD {a ix ci k q : Nat} (hf : FLP m.1.cls ix ci k) (hr : fref ci k = true) (hw : Wri m ci k) (hg : GamD σ a = (10 + ci, 0)) (hd : At m pc (.putfield ix) 3) (K : Go xs d m b (pc + 3) ls st (σ.1, updP σ.2.1 a k (some q), σ.2.2) out) : Go xs d m b pc ls (vA q :: vA a :: st) σ out := by
  refine go_putA (σ' := (σ.1, updP σ.2.1 a k (some q), σ.2.2)) hf hw hg hd rfl (fun ρ bs => ⟨?_, fun j hj => ?_, ?_⟩) (fun i hi => ⟨fun j => rfl, fun j => ?_⟩) (fun X hM hz ha => hM.pset ha hz) (GamD_congr rfl) K
  · have := ref_ok hf.1 hf.2.1 hr (ρ q)
    exact ⟨this.1, this.2.1⟩
  · unfold obf
    simp [updP, hj]
  · unfold obf
    rw [hr]
    show va_rf ((updP σ.2.1 a k (some q) a k).map ρ) = _
    unfold updP
    rw [if_pos ⟨rfl, rfl⟩]
    rfl
  · show updP σ.2.1 a k (some q) i j = _
    unfold updP
    rw [if_neg (fun q => hi q.1)]
-- arrays: reads
theorem go_ialdD {a n : Nat} {j : Int} (hg : GamD σ a = (0, n)) (hj : 0 ≤ j) (hjn : j < n) (hd : At m pc .iaload 1) (K : Go xs d m b (pc + 1) ls (vI (σ.1 a j.toNat) :: st) σ out) : Go xs d m b pc ls (vI j :: vA a :: st) σ out := by
  intro p l e R s mid args below meth c Q dC dI dA N0 bs ρ0 c0 X hS hF H locs cells slots ρ LS hD hL ho
  have ha : a < σ.2.2 := okh (okt ho)
  have he := wsOf_get (dA := dA) (ρ := ρ) ha
  rw [ent_i hg (by decide)] at he
  have kk := K p l e R s mid args below meth c Q dC dI dA N0 bs ρ0 c0 X hS hF H locs cells slots ρ LS hD hL (okc (hD.1.2.2.at j.toNat) (okt (okt ho)))
  exact va_iald hS.1 hS.2.1 hS.2.2.2.2.2.2.2.1 hD.1.1 a 0 he rfl (of_in (okh ho) hj hjn) hd (by rw [of_clamp (okh ho) hj, vl_ne (in_ne (okh ho))]; exact kk)
theorem go_baldD {a n : Nat} {j : Int} (hg : GamD σ a = (1, n)) (hj : 0 ≤ j) (hjn : j < n) (hd : At m pc .baload 1) (K : Go xs d m b (pc + 1) ls (vI (σ.1 a j.toNat) :: st) σ out) : Go xs d m b pc ls (vI j :: vA a :: st) σ out := by
  intro p l e R s mid args below meth c Q dC dI dA N0 bs ρ0 c0 X hS hF H locs cells slots ρ LS hD hL ho
  have ha : a < σ.2.2 := okh (okt ho)
  have he := wsOf_get (dA := dA) (ρ := ρ) ha
  rw [ent_i hg (by decide)] at he
  have kk := K p l e R s mid args below meth c Q dC dI dA N0 bs ρ0 c0 X hS hF H locs cells slots ρ LS hD hL (okc (hD.1.2.2.at j.toNat) (okt (okt ho)))
  exact va_zald hS.1 hS.2.1 hS.2.2.2.2.2.2.2.1 hD.1.1 a 1 he rfl (of_in (okh ho) hj hjn) hd (by rw [of_clamp (okh ho) hj, vl_ne (in_ne (okh ho))]; exact kk)
theorem go_caldD {a n : Nat} {j : Int} (hg : GamD σ a = (2, n)) (hj : 0 ≤ j) (hjn : j < n) (hd : At m pc .caload 1) (K : Go xs d m b (pc + 1) ls (vI (σ.1 a j.toNat) :: st) σ out) : Go xs d m b pc ls (vI j :: vA a :: st) σ out := by
  intro p l e R s mid args below meth c Q dC dI dA N0 bs ρ0 c0 X hS hF H locs cells slots ρ LS hD hL ho
  have ha : a < σ.2.2 := okh (okt ho)
  have he := wsOf_get (dA := dA) (ρ := ρ) ha
  rw [ent_i hg (by decide)] at he
  have kk := K p l e R s mid args below meth c Q dC dI dA N0 bs ρ0 c0 X hS hF H locs cells slots ρ LS hD hL (okc (hD.1.2.2.at j.toNat) (okt (okt ho)))
  exact va_cald hS.1 hS.2.1 hS.2.2.2.2.2.2.2.1 hD.1.1 a 2 he rfl (of_in (okh ho) hj hjn) hd (by rw [of_clamp (okh ho) hj, vl_ne (in_ne (okh ho))]; exact kk)
theorem go_aaldD {a n q tq : Nat} {j : Int} (hg : GamD σ a = (tq, n)) (h3 : tq = 3 ∨ tq = 4 ∨ tq = 5) (hj : 0 ≤ j) (hjn : j < n) (hq : σ.2.1 a j.toNat = some q) (hd : At m pc .aaload 1) (K : Go xs d m b (pc + 1) ls (vA q :: st) σ out) : Go xs d m b pc ls (vI j :: vA a :: st) σ out := by
  intro p l e R s mid args below meth c Q dC dI dA N0 bs ρ0 c0 X hS hF H locs cells slots ρ LS hD hL ho
  have ha : a < σ.2.2 := okh (okt ho)
  have he := wsOf_get (dA := dA) (ρ := ρ) ha
  rw [ent_p hg (by omega) (by omega)] at he
  have kk := K p l e R s mid args below meth c Q dC dI dA N0 bs ρ0 c0 X hS hF H locs cells slots ρ LS hD hL (okc (hD.1.2.2.2.2.2.1 a j.toNat q hq) (okt (okt ho)))
  rcases h3 with rfl | rfl | rfl
  · exact va_aldq hS.1 hS.2.1 hS.2.2.2.2.2.2.2.1 hD.1.1 a 3 he rfl (of_in (okh ho) hj hjn) hd (by rw [of_clamp (okh ho) hj, hq]; exact kk)
  · exact va_aldq hS.1 hS.2.1 hS.2.2.2.2.2.2.2.1 hD.1.1 a 4 he rfl (of_in (okh ho) hj hjn) hd (by rw [of_clamp (okh ho) hj, hq]; exact kk)
  · exact va_aldq hS.1 hS.2.1 hS.2.2.2.2.2.2.2.1 hD.1.1 a 5 he rfl (of_in (okh ho) hj hjn) hd (by rw [of_clamp (okh ho) hj, hq]; exact kk)
theorem go_aald {a n q : Nat} {j : Int} (hg : Gam a = (5, n)) (hj : 0 ≤ j) (hjn : j < n) (hq : σ.2.1 a j.toNat = some q) (hd : At m pc .aaload 1) (K : Go xs d m b (pc + 1) ls (vA q :: st) σ out) : Go xs d m b pc ls (vI j :: vA a :: st) σ out := go_aaldD (gs hg (by decide)) (Or.inr (Or.inr rfl)) hj hjn hq hd K
theorem go_sld {j z : Int} (hj : 0 ≤ j) (hjn : j < z) (hd : At m pc .iaload 1) (K : Go xs d m b (pc + 1) ls (vI (xs j.toNat) :: st) σ out) : Go xs d m b pc ls (vI j :: vT 6 z :: st) σ out := by
  intro p l e R s mid args below meth c Q dC dI dA N0 bs ρ0 c0 X hS hF H locs cells slots ρ LS hD hL ho
  obtain ⟨q1, q2, q3, q4, q5, q6⟩ := hS.2.2.2.2.2.2.2.2.2.2.2.2.2.2.2 z (okh (okt ho))
  have kk := K p l e R s mid args below meth c Q dC dI dA N0 bs ρ0 c0 X hS hF H locs cells slots ρ LS hD hL (okc (q6 j.toNat) (okt (okt ho)))
  refine va_sld hS.1 hS.2.1 q3 q4 (Nat.not_le.mpr q5) hD.2.1 (of_in (okh ho) hj (by rw [Int.toNat_of_nonneg q1]; exact hjn)) hd ?_
  rw [of_clamp (okh ho) hj]
  exact kk
theorem go_slen {z : Int} (hd : At m pc .arraylength 1) (K : Go xs d m b (pc + 1) ls (vI z :: st) σ out) : Go xs d m b pc ls (vT 6 z :: st) σ out := by
  intro p l e R s mid args below meth c Q dC dI dA N0 bs ρ0 c0 X hS hF H locs cells slots ρ LS hD hL ho
  obtain ⟨q1, q2, q3, q4, q5, q6⟩ := hS.2.2.2.2.2.2.2.2.2.2.2.2.2.2.2 z (okh ho)
  have kk := K p l e R s mid args below meth c Q dC dI dA N0 bs ρ0 c0 X hS hF H locs cells slots ρ LS hD hL (okc (show in32 z by unfold in32; omega) (okt ho))
  refine va_slen hS.1 hS.2.1 q3 q4 (Nat.not_le.mpr q5) hD.2.1 hd ?_
  rw [show Int32.ofNat z.toNat = Int32.ofInt z by rw [← Int32.ofInt_eq_ofNat, Int.toNat_of_nonneg q1]]
  exact kk
-- arrays: writes
theorem fb_char9 {n : Nat} (h : n < 65536) : (nI n).toUInt32.toUInt16.toUInt32.toInt32 = nI n := by
  have h1 := (pk_charN h).1
  have h2 : vp_nar .char (nI n) = nI n := by
    unfold vp_nar
    rw [h1]
  rw [vp_nar_char] at h2
  exact h2
theorem go_iastD {a n : Nat} {j z : Int} (hg : GamD σ a = (0, n)) (hj : 0 ≤ j) (hjn : j < n) (hd : At m pc .iastore 1) (K : Go xs d m b (pc + 1) ls st (upd2 σ.1 a j.toNat z, σ.2.1, σ.2.2) out) : Go xs d m b pc ls (vI z :: vI j :: vA a :: st) σ out := by
  intro p l e R s mid args below meth c Q dC dI dA N0 bs ρ0 c0 X hS hF H locs cells slots ρ LS hD hL ho
  obtain ⟨⟨hP, hDD, hM0⟩, hSS, hx1, hx2, hx3, hx4⟩ := id hD
  have ha : a < σ.2.2 := okh (okt (okt ho))
  have he := wsOf_get (dA := dA) (ρ := ρ) ha
  rw [ent_i hg (by decide)] at he
  have hgg : GamD (upd2 σ.1 a j.toNat z, σ.2.1, σ.2.2) a = GamD σ a := GamD_congr (by
    show upd2 σ.1 a j.toNat z a TY = _
    have h32 : in32 j := okh (okt ho)
    unfold in32 at h32
    unfold upd2; rw [if_neg (fun q => by have := q.2; unfold TY at this; omega)])
  have hfun : upd (fun j => Int32.ofInt (vl σ a j)) j.toNat (Int32.ofInt z) = (fun k => Int32.ofInt (vl (upd2 σ.1 a j.toNat z, σ.2.1, σ.2.2) a k)) := by
    have hne := in_ne (okh (okt ho))
    funext k
    unfold upd vl upd2
    by_cases hk : k = j.toNat
    · subst hk; simp [hne]
    · simp [hk]
  refine va_iast hS.1 hS.2.1 hS.2.2.2.2.2.2.2.1 hP hDD hSS a 0 he rfl (of_in (okh (okt ho)) hj hjn) hd (fun H1 locs1 q1 q2 q3 => ?_)
  rw [of_clamp (okh (okt ho)) hj, hfun, wsOf_set (dA := dA) (ρ := ρ) (σ := σ) (σ' := (upd2 σ.1 a j.toNat z, σ.2.1, σ.2.2)) rfl ha (fun i hi => ent_congr (fun k => by show upd2 σ.1 a j.toNat z i k = _; unfold upd2; rw [if_neg (fun q => hi q.1)]) (fun k => rfl)) (ent_i (hgg.trans hg) (by decide))] at q1 q2
  exact K p l e R s mid args below meth c Q dC dI dA N0 bs ρ0 c0 X hS hF H1 locs1 cells slots ρ LS ⟨⟨q1, q2, hM0.iset ha (okh ho)⟩, q3, hx1, hx2, hx3, hx4⟩ hL (okt (okt (okt ho)))
theorem go_bastD {a n : Nat} {j z : Int} (hg : GamD σ a = (1, n)) (hj : 0 ≤ j) (hjn : j < n) (hz : z = 0 ∨ z = 1) (hd : At m pc .bastore 1) (K : Go xs d m b (pc + 1) ls st (upd2 σ.1 a j.toNat z, σ.2.1, σ.2.2) out) : Go xs d m b pc ls (vI z :: vI j :: vA a :: st) σ out := by
  intro p l e R s mid args below meth c Q dC dI dA N0 bs ρ0 c0 X hS hF H locs cells slots ρ LS hD hL ho
  obtain ⟨⟨hP, hDD, hM0⟩, hSS, hx1, hx2, hx3, hx4⟩ := id hD
  have ha : a < σ.2.2 := okh (okt (okt ho))
  have he := wsOf_get (dA := dA) (ρ := ρ) ha
  rw [ent_i hg (by decide)] at he
  have hnar : vp_nar .boolean (Int32.ofInt z) = Int32.ofInt z := by
    rcases hz with rfl | rfl <;> rfl
  have hgg : GamD (upd2 σ.1 a j.toNat z, σ.2.1, σ.2.2) a = GamD σ a := GamD_congr (by
    show upd2 σ.1 a j.toNat z a TY = _
    have h32 : in32 j := okh (okt ho)
    unfold in32 at h32
    unfold upd2; rw [if_neg (fun q => by have := q.2; unfold TY at this; omega)])
  have hfun : upd (fun j => Int32.ofInt (vl σ a j)) j.toNat (Int32.ofInt z) = (fun k => Int32.ofInt (vl (upd2 σ.1 a j.toNat z, σ.2.1, σ.2.2) a k)) := by
    have hne := in_ne (okh (okt ho))
    funext k
    unfold upd vl upd2
    by_cases hk : k = j.toNat
    · subst hk; simp [hne]
    · simp [hk]
  refine va_zast hS.1 hS.2.1 hS.2.2.2.2.2.2.2.1 hP hDD hSS a 1 he rfl (of_in (okh (okt ho)) hj hjn) hd (fun H1 locs1 q1 q2 q3 => ?_)
  rw [of_clamp (okh (okt ho)) hj, hnar, hfun, wsOf_set (dA := dA) (ρ := ρ) (σ := σ) (σ' := (upd2 σ.1 a j.toNat z, σ.2.1, σ.2.2)) rfl ha (fun i hi => ent_congr (fun k => by show upd2 σ.1 a j.toNat z i k = _; unfold upd2; rw [if_neg (fun q => hi q.1)]) (fun k => rfl)) (ent_i (hgg.trans hg) (by decide))] at q1 q2
  exact K p l e R s mid args below meth c Q dC dI dA N0 bs ρ0 c0 X hS hF H1 locs1 cells slots ρ LS ⟨⟨q1, q2, hM0.iset ha (okh ho)⟩, q3, hx1, hx2, hx3, hx4⟩ hL (okt (okt (okt ho)))
theorem go_castD {a n : Nat} {j z : Int} (hg : GamD σ a = (2, n)) (hj : 0 ≤ j) (hjn : j < n) (hz : 0 ≤ z ∧ z < 65536) (hd : At m pc .castore 1) (K : Go xs d m b (pc + 1) ls st (upd2 σ.1 a j.toNat z, σ.2.1, σ.2.2) out) : Go xs d m b pc ls (vI z :: vI j :: vA a :: st) σ out := by
  intro p l e R s mid args below meth c Q dC dI dA N0 bs ρ0 c0 X hS hF H locs cells slots ρ LS hD hL ho
  obtain ⟨⟨hP, hDD, hM0⟩, hSS, hx1, hx2, hx3, hx4⟩ := id hD
  have ha : a < σ.2.2 := okh (okt (okt ho))
  have he := wsOf_get (dA := dA) (ρ := ρ) ha
  rw [ent_i hg (by decide)] at he
  have hnar : vp_nar .char (Int32.ofInt z) = Int32.ofInt z := by
    obtain ⟨n9, rfl⟩ := Int.eq_ofNat_of_zero_le hz.1
    rw [vp_nar_char, show Int32.ofInt (n9 : Int) = nI n9 from Int32.ofInt_eq_ofNat, fb_char9 (by omega)]
  have hgg : GamD (upd2 σ.1 a j.toNat z, σ.2.1, σ.2.2) a = GamD σ a := GamD_congr (by
    show upd2 σ.1 a j.toNat z a TY = _
    have h32 : in32 j := okh (okt ho)
    unfold in32 at h32
    unfold upd2; rw [if_neg (fun q => by have := q.2; unfold TY at this; omega)])
  have hfun : upd (fun j => Int32.ofInt (vl σ a j)) j.toNat (Int32.ofInt z) = (fun k => Int32.ofInt (vl (upd2 σ.1 a j.toNat z, σ.2.1, σ.2.2) a k)) := by
    have hne := in_ne (okh (okt ho))
    funext k
    unfold upd vl upd2
    by_cases hk : k = j.toNat
    · subst hk; simp [hne]
    · simp [hk]
  refine va_cast hS.1 hS.2.1 hS.2.2.2.2.2.2.2.1 hP hDD hSS a 2 he rfl (of_in (okh (okt ho)) hj hjn) hd (fun H1 locs1 q1 q2 q3 => ?_)
  rw [of_clamp (okh (okt ho)) hj, hnar, hfun, wsOf_set (dA := dA) (ρ := ρ) (σ := σ) (σ' := (upd2 σ.1 a j.toNat z, σ.2.1, σ.2.2)) rfl ha (fun i hi => ent_congr (fun k => by show upd2 σ.1 a j.toNat z i k = _; unfold upd2; rw [if_neg (fun q => hi q.1)]) (fun k => rfl)) (ent_i (hgg.trans hg) (by decide))] at q1 q2
  exact K p l e R s mid args below meth c Q dC dI dA N0 bs ρ0 c0 X hS hF H1 locs1 cells slots ρ LS ⟨⟨q1, q2, hM0.iset ha (okh ho)⟩, q3, hx1, hx2, hx3, hx4⟩ hL (okt (okt (okt ho)))
/-- the class of what a row of references holds -/
def arC : Nat → Nat
  | 3 => 12
  | 4 => 11
  | _ => 4
theorem go_aastD {a n q tq : Nat} {j : Int} (hg : GamD σ a = (tq, n)) (h3 : tq = 3 ∨ tq = 4 ∨ tq = 5) (hj : 0 ≤ j) (hjn : j < n) (hq : GamD σ q = (10 + arC tq, 0)) (hd : At m pc .aastore 1) (K : Go xs d m b (pc + 1) ls st (σ.1, updP σ.2.1 a j.toNat (some q), σ.2.2) out) : Go xs d m b pc ls (vA q :: vI j :: vA a :: st) σ out := by
  intro p l e R s mid args below meth c Q dC dI dA N0 bs ρ0 c0 X hS hF H locs cells slots ρ LS hD hL ho
  obtain ⟨⟨hP, hDD, hM0⟩, hSS, hx1, hx2, hx3, hx4⟩ := id hD
  have ha : a < σ.2.2 := okh (okt (okt ho))
  have hq9 : q < σ.2.2 := okh ho
  have he := wsOf_get (dA := dA) (ρ := ρ) ha
  have heq := wsOf_get (dA := dA) (ρ := ρ) hq9
  rw [ent_p hg (by omega) (by omega)] at he
  rw [ent_o hq] at heq
  have hfun : va_up (fun k => (σ.2.1 a k).map ρ) j.toNat (some (ρ q)) = (fun k => (updP σ.2.1 a j.toNat (some q) a k).map ρ) := by
    funext k
    unfold va_up updP
    by_cases hk : k = j.toNat
    · simp [hk]
    · simp [hk]
  have fin : ∀ (H1 : Heap) (locs1 : List Loc), va_P (dC, dI) vwc ((wsOf dA ρ σ).set a (ρ a, .inl (dA tq, n, .inr (.inr (.inr (.inr (va_up (fun k => (σ.2.1 a k).map ρ) (Int32.ofInt j).toNatClampNeg (some (ρ q))))))))) H1 → va_D (fun q : Nat => N0 ≤ q) ((wsOf dA ρ σ).set a (ρ a, .inl (dA tq, n, .inr (.inr (.inr (.inr (va_up (fun k => (σ.2.1 a k).map ρ) (Int32.ofInt j).toNatClampNeg (some (ρ q))))))))) → va_S (fun q : Nat => N0 ≤ q) s.heap H1 locs1 → W p l e R s mid args below meth c H1 locs1 cells slots Q (F0 mid (pc + 1) LS (st.map (vr ρ bs))) := by
    intro H1 locs1 q1 q2 q3
    rw [of_clamp (okh (okt ho)) hj, hfun, wsOf_set (dA := dA) (ρ := ρ) (σ := σ) (σ' := (σ.1, updP σ.2.1 a j.toNat (some q), σ.2.2)) rfl ha (fun i hi => ent_congr (fun k => rfl) (fun k => by show updP σ.2.1 a j.toNat (some q) i k = _; unfold updP; rw [if_neg (fun q => hi q.1)])) (ent_p (σ := (σ.1, updP σ.2.1 a j.toNat (some q), σ.2.2)) ((GamD_congr rfl).trans hg) (by omega) (by omega))] at q1 q2
    exact K p l e R s mid args below meth c Q dC dI dA N0 bs ρ0 c0 X hS hF H1 locs1 cells slots ρ LS ⟨⟨q1, q2, hM0.pset ha hq9⟩, q3, hx1, hx2, hx3, hx4⟩ hL (okt (okt (okt ho)))
  rcases h3 with rfl | rfl | rfl
  · exact va_astq hS.1 hS.2.1 hS.2.2.2.2.2.2.2.1 hP hDD hSS a 3 q 12 (r := (RX12, TX12, 3)) he rfl heq rfl (of_in (okh (okt ho)) hj hjn) hd fin
  · exact va_astq hS.1 hS.2.1 hS.2.2.2.2.2.2.2.1 hP hDD hSS a 4 q 11 (r := (RX11, TX11, 5)) he rfl heq rfl (of_in (okh (okt ho)) hj hjn) hd fin
  · exact va_astq hS.1 hS.2.1 hS.2.2.2.2.2.2.2.1 hP hDD hSS a 5 q 4 (r := (RX4, TX4, 3)) he rfl heq rfl (of_in (okh (okt ho)) hj hjn) hd fin
theorem go_aast {a n q ci : Nat} {j : Int} (hg : Gam a = (5, n)) (hj : 0 ≤ j) (hjn : j < n) (hq : Gam q = (14, 0)) (hd : At m pc .aastore 1) (K : Go xs d m b (pc + 1) ls st (σ.1, updP σ.2.1 a j.toNat (some q), σ.2.2) out) : Go xs d m b pc ls (vA q :: vI j :: vA a :: st) σ out :=
  go_aastD (gs hg (by decide)) (Or.inr (Or.inr rfl)) hj hjn (gs hq (by decide)) hd K
theorem go_alenD {a t n : Nat} (hg : GamD σ a = (t, n)) (ht : t < 6) (hn : n < 2147483648) (hd : At m pc .arraylength 1) (K : Go xs d m b (pc + 1) ls (vI (n : Int) :: st) σ out) : Go xs d m b pc ls (vA a :: st) σ out := by
  intro p l e R s mid args below meth c Q dC dI dA N0 bs ρ0 c0 X hS hF H locs cells slots ρ LS hD hL ho
  have ha : a < σ.2.2 := okh ho
  have he := wsOf_get (dA := dA) (ρ := ρ) ha
  have kk := K p l e R s mid args below meth c Q dC dI dA N0 bs ρ0 c0 X hS hF H locs cells slots ρ LS hD hL (okc (show in32 _ by unfold in32; omega) (okt ho))
  have hv : Int32.ofNat n = Int32.ofInt (n : Int) := Int32.ofInt_eq_ofNat.symm
  rcases (show t < 3 ∨ t = 3 ∨ t = 4 ∨ t = 5 by omega) with h | h | h | h
  · rw [ent_i hg h] at he
    rcases (show t = 0 ∨ t = 1 ∨ t = 2 by omega) with h | h | h
    · subst h; exact va_alen hS.1 hS.2.1 hS.2.2.2.2.2.2.2.1 hD.1.1 a 0 he rfl hv hd kk
    · subst h; exact va_alen hS.1 hS.2.1 hS.2.2.2.2.2.2.2.1 hD.1.1 a 1 he rfl hv hd kk
    · subst h; exact va_alen hS.1 hS.2.1 hS.2.2.2.2.2.2.2.1 hD.1.1 a 2 he rfl hv hd kk
  · subst h; rw [ent_p hg (by decide) (by decide)] at he; exact va_alen hS.1 hS.2.1 hS.2.2.2.2.2.2.2.1 hD.1.1 a 3 he rfl hv hd kk
  · subst h; rw [ent_p hg (by decide) (by decide)] at he; exact va_alen hS.1 hS.2.1 hS.2.2.2.2.2.2.2.1 hD.1.1 a 4 he rfl hv hd kk
  · subst h; rw [ent_p hg (by decide) (by decide)] at he; exact va_alen hS.1 hS.2.1 hS.2.2.2.2.2.2.2.1 hD.1.1 a 5 he rfl hv hd kk
theorem go_getf {a ix ci k : Nat} (hf : FL m.1.cls ix ci k) (hr : fref ci k = false) (hg : Gam a = (10 + ci, 0)) (hd : At m pc (.getfield ix) 3) (K : Go xs d m b (pc + 3) ls (vI (σ.1 a k) :: st) σ out) : Go xs d m b pc ls (vA a :: st) σ out := go_getfD hf hr (gs hg (by have := hf.1; omega)) hd K
theorem go_getr {a ix ci k q : Nat} (hf : FL m.1.cls ix ci k) (hr : fref ci k = true) (hg : Gam a = (10 + ci, 0)) (hq : σ.2.1 a k = some q) (hd : At m pc (.getfield ix) 3) (K : Go xs d m b (pc + 3) ls (vA q :: st) σ out) : Go xs d m b pc ls (vA a :: st) σ out := go_getrD hf hr (gs hg (by have := hf.1; omega)) hq hd K
theorem go_putr {a ix ci k q : Nat} (hf : FLP m.1.cls ix ci k) (hr : fref ci k = true) (hw : Wri m ci k) (hg : Gam a = (10 + ci, 0)) (hd : At m pc (.putfield ix) 3) (K : Go xs d m b (pc + 3) ls st (σ.1, updP σ.2.1 a k (some q), σ.2.2) out) : Go xs d m b pc ls (vA q :: vA a :: st) σ out := go_putrD hf hr hw (gs hg (by have := hf.1; omega)) hd K
theorem go_iald {a n : Nat} {j : Int} (hg : Gam a = (0, n)) (hj : 0 ≤ j) (hjn : j < n) (hd : At m pc .iaload 1) (K : Go xs d m b (pc + 1) ls (vI (σ.1 a j.toNat) :: st) σ out) : Go xs d m b pc ls (vI j :: vA a :: st) σ out := go_ialdD (gs hg (by decide)) hj hjn hd K
theorem go_bald {a n : Nat} {j : Int} (hg : Gam a = (1, n)) (hj : 0 ≤ j) (hjn : j < n) (hd : At m pc .baload 1) (K : Go xs d m b (pc + 1) ls (vI (σ.1 a j.toNat) :: st) σ out) : Go xs d m b pc ls (vI j :: vA a :: st) σ out := go_baldD (gs hg (by decide)) hj hjn hd K
theorem go_cald {a n : Nat} {j : Int} (hg : Gam a = (2, n)) (hj : 0 ≤ j) (hjn : j < n) (hd : At m pc .caload 1) (K : Go xs d m b (pc + 1) ls (vI (σ.1 a j.toNat) :: st) σ out) : Go xs d m b pc ls (vI j :: vA a :: st) σ out := go_caldD (gs hg (by decide)) hj hjn hd K
theorem go_iast {a n : Nat} {j z : Int} (hg : Gam a = (0, n)) (hj : 0 ≤ j) (hjn : j < n) (hd : At m pc .iastore 1) (K : Go xs d m b (pc + 1) ls st (upd2 σ.1 a j.toNat z, σ.2.1, σ.2.2) out) : Go xs d m b pc ls (vI z :: vI j :: vA a :: st) σ out := go_iastD (gs hg (by decide)) hj hjn hd K
theorem go_bast {a n : Nat} {j z : Int} (hg : Gam a = (1, n)) (hj : 0 ≤ j) (hjn : j < n) (hz : z = 0 ∨ z = 1) (hd : At m pc .bastore 1) (K : Go xs d m b (pc + 1) ls st (upd2 σ.1 a j.toNat z, σ.2.1, σ.2.2) out) : Go xs d m b pc ls (vI z :: vI j :: vA a :: st) σ out := go_bastD (gs hg (by decide)) hj hjn hz hd K
theorem go_cast {a n : Nat} {j z : Int} (hg : Gam a = (2, n)) (hj : 0 ≤ j) (hjn : j < n) (hz : 0 ≤ z ∧ z < 65536) (hd : At m pc .castore 1) (K : Go xs d m b (pc + 1) ls st (upd2 σ.1 a j.toNat z, σ.2.1, σ.2.2) out) : Go xs d m b pc ls (vI z :: vI j :: vA a :: st) σ out := go_castD (gs hg (by decide)) hj hjn hz hd K
theorem go_alen {a t n : Nat} (hg : Gam a = (t, n)) (ht : t < 6) (hn : n < 2147483648) (hd : At m pc .arraylength 1) (K : Go xs d m b (pc + 1) ls (vI (n : Int) :: st) σ out) : Go xs d m b pc ls (vA a :: st) σ out := go_alenD (gs hg (by omega)) ht hn hd K
end GoHeap
