/-! Writing and erasing in the newest document. -/
section ActD
variable {σ σ' τ : St} {A : PastD} {D : PapD} {F : Nat → DocF} {k : Nat}
/-- where a unit more stands -/
def wrF (f : DocF) (k : Int) (u : Nat) : DocF := (f.1, f.2.1, f.2.2.1, f.2.2.2.1, f.2.2.2.2.take k.toNat ++ u :: f.2.2.2.2.drop k.toNat)
theorem wrF_sub {f : DocF} {k : Int} {u x : Nat} (h : fpD (wrF f k u) x) : fpD f x ∨ x = u := by
  rcases h with h | h | h | h | h
  · exact Or.inl (Or.inl h)
  · exact Or.inl (Or.inr (Or.inl h))
  · exact Or.inl (Or.inr (Or.inr (Or.inl h)))
  · exact Or.inl (Or.inr (Or.inr (Or.inr (Or.inl h))))
  · rcases List.mem_append.mp h with h | h
    · exact Or.inl (Or.inr (Or.inr (Or.inr (Or.inr (List.mem_of_mem_take h)))))
    · rcases List.mem_cons.mp h with h | h
      · exact Or.inr h
      · exact Or.inl (Or.inr (Or.inr (Or.inr (Or.inr (List.mem_of_mem_drop h)))))
theorem DkR.writeD (h : DkR σ F A.2.1 A.2.2 (edA A D).1) (hP : PpL D) {a p l : Int} {tr : Bool} (hp : 0 ≤ p ∧ p ≤ cntS (toL D.1)) (hn : D.1.2.1 < 200) (hl : 0 ≤ l ∧ l < 65536) (h60 : D.2.1.1 < 60) : ∃ τ f, Con 1 mX11_write 1 3 [vA (F A.2.1).1, vI a, vI p, vI l, vI (bI (tr = true))] σ (vI (wrC D tr a (atL (toL D.1) p)), τ) ∧ DkR τ (setF F A.2.1 f) A.2.1 A.2.2 (edA A (wrD D tr a (atL (toL D.1) p) l (-1))).1 ∧ OutD σ τ (fpD (F A.2.1)) ∧ f.1 = (F A.2.1).1 := by
  have hnow := h.nowD
  have hD : DocR σ (F A.2.1).1 (F A.2.1).2.1 (F A.2.1).2.2.1 (F A.2.1).2.2.2.1 (F A.2.1).2.2.2.2 (toL D.1) D.2.1.1 D.2.1.2.2.1 D.2.1.2.2.2 := hnow
  have hc0 := hP.1.2.1.1.1
  have hN := hP.nn
  have hle := hD.len
  have hle2 := toL_len (R := D.1)
  have hcs := cntS_le (toL D.1)
  have hat := atL_le (toL D.1) p
  have hus : (F A.2.1).2.2.2.2.length < 200 := by omega
  have hk : 0 ≤ atL (toL D.1) p ∧ atL (toL D.1) p ≤ (F A.2.1).2.2.2.2.length := by omega
  have hkn : 0 ≤ atL (toL D.1) p ∧ atL (toL D.1) p ≤ D.1.2.1 := by omega
  have hah := hP.ahead (a := a) hkn.1 hkn.2
  have hput : ∀ c, toL (putR D.1 (atL (toL D.1) p) l (-1) c) = (toL D.1).take (atL (toL D.1) p).toNat ++ (l, c, -1) :: (toL D.1).drop (atL (toL D.1) p).toNat := fun c => toL_put hkn
  have fin : ∀ {σ1 : St} {w ch : Int} {au sg : Int → Int}, DocR σ1 (F A.2.1).1 (F A.2.1).2.1 (F A.2.1).2.2.1 (F A.2.1).2.2.2.1 (F A.2.1).2.2.2.2 (toL D.1) ch au sg → -1 ≤ w ∧ w < ch → OutD σ σ1 (fun x => x = (F A.2.1).1 ∨ x = (F A.2.1).2.2.1 ∨ x = (F A.2.1).2.2.2.1) → σ1.2.2 = σ.2.2 → DocR (wrS σ1 (F A.2.1).1 (F A.2.1).2.1 (atL (toL D.1) p) (F A.2.1).2.2.2.2.length l w) (F A.2.1).1 (F A.2.1).2.1 (F A.2.1).2.2.1 (F A.2.1).2.2.2.1 ((F A.2.1).2.2.2.2.take (atL (toL D.1) p).toNat ++ σ.2.2 :: (F A.2.1).2.2.2.2.drop (atL (toL D.1) p).toNat) ((toL D.1).take (atL (toL D.1) p).toNat ++ (l, w, -1) :: (toL D.1).drop (atL (toL D.1) p).toNat) ch au sg ∧ OutD σ (wrS σ1 (F A.2.1).1 (F A.2.1).2.1 (atL (toL D.1) p) (F A.2.1).2.2.2.2.length l w) (fpD (F A.2.1)) := fun {σ1 w ch au sg} g hw ho hc => by
    obtain ⟨w1, w2, -⟩ := g.write hk hus hl hw
    rw [hc] at w1
    exact ⟨w1, (ho.trans w2).mono (fun x _ hx => by
      rcases hx with (hx | hx | hx) | hx | hx
      · exact Or.inl hx
      · exact Or.inr (Or.inr (Or.inl hx))
      · exact Or.inr (Or.inr (Or.inr (Or.inl hx)))
      · exact Or.inl hx
      · exact Or.inr (Or.inl hx))⟩
  have sub : ∀ x, fpD (wrF (F A.2.1) (atL (toL D.1) p) σ.2.2) x → fpD (F A.2.1) x ∨ σ.2.2 ≤ x := fun x hx => (wrF_sub hx).imp id (fun e => Nat.le_of_eq e.symm)
  cases tr with
  | false =>
    have ew : wrC D false a (atL (toL D.1) p) = -1 := if_neg (by decide)
    have eD : wrD D false a (atL (toL D.1) p) l (-1) = (putR D.1 (atL (toL D.1) p) l (-1) (-1), D.2.1, D.2.2) := by
      unfold wrD
      rw [ew, if_neg (fun z => absurd z.1 (by decide))]
    rw [ew, eD]
    obtain ⟨w1, w2⟩ := fin hD (w := -1) ⟨Int.le_refl _, by omega⟩ OutD.refl rfl
    refine ⟨_, wrF (F A.2.1) (atL (toL D.1) p) σ.2.2, con_write_f hD ⟨hp.1, by omega⟩ hus hl, h.nowE ?_ w2 rfl sub, w2, rfl⟩
    show DocR _ _ _ _ _ _ (toL (putR D.1 (atL (toL D.1) p) l (-1) (-1))) _ _ _
    rw [hput]
    exact w1
  | true =>
    by_cases ho : 0 ≤ wrA (toL D.1) (atL (toL D.1) p) ∧ D.2.1.2.2.1 (wrA (toL D.1) (atL (toL D.1) p)) = a
    · have e1 := hah.1 ho
      have ew : wrC D true a (atL (toL D.1) p) = wrA (toL D.1) (atL (toL D.1) p) := by
        unfold wrC
        rw [if_pos rfl, e1, if_neg (by omega)]
      have eD : wrD D true a (atL (toL D.1) p) l (-1) = (putR D.1 (atL (toL D.1) p) l (-1) (wrA (toL D.1) (atL (toL D.1) p)), D.2.1, D.2.2) := by
        unfold wrD
        rw [ew, e1, if_neg (by omega)]
      rw [ew, eD]
      have hwc : wrA (toL D.1) (atL (toL D.1) p) < D.2.1.1 := by
        have q1 := ho.1
        unfold wrA at q1 ⊢
        by_cases q : atL (toL D.1) p = 0
        · rw [if_pos q]; omega
        · rw [if_neg q, List.getD_eq_getElem?_getD, toL_get (by omega)] at q1 ⊢
          have hu := (hP.u (i := (((atL (toL D.1) p) - 1).toNat : Nat)) (by omega) (by omega)).1.ge.2 q1
          exact hu.1
      obtain ⟨w1, w2⟩ := fin hD (w := wrA (toL D.1) (atL (toL D.1) p)) ⟨by omega, hwc⟩ OutD.refl rfl
      refine ⟨_, wrF (F A.2.1) (atL (toL D.1) p) σ.2.2, con_write_o hD ⟨hp.1, by omega⟩ hus hl ho, h.nowE ?_ w2 rfl sub, w2, rfl⟩
      show DocR _ _ _ _ _ _ (toL (putR D.1 (atL (toL D.1) p) l (-1) (wrA (toL D.1) (atL (toL D.1) p)))) _ _ _
      rw [hput]
      exact w1
    · have e1 := hah.2 ho
      have ew : wrC D true a (atL (toL D.1) p) = D.2.1.1 := by
        unfold wrC
        rw [if_pos rfl, e1, if_pos rfl]
      have eD : wrD D true a (atL (toL D.1) p) l (-1) = (putR D.1 (atL (toL D.1) p) l (-1) D.2.1.1, enrL D.2.1 105 a, D.2.2) := by
        unfold wrD
        rw [ew, e1, if_pos ⟨rfl, rfl⟩]
      rw [ew, eD]
      obtain ⟨c1, c2⟩ := hD.change (a := a) h60
      obtain ⟨w1, w2⟩ := fin c1 (w := D.2.1.1) ⟨by omega, by omega⟩ c2 rfl
      refine ⟨_, wrF (F A.2.1) (atL (toL D.1) p) σ.2.2, con_write_n hD ⟨hp.1, by omega⟩ hus hl h60 ho, h.nowE ?_ w2 rfl sub, w2, rfl⟩
      show DocR _ _ _ _ _ _ (toL (putR D.1 (atL (toL D.1) p) l (-1) D.2.1.1)) (D.2.1.1 + 1) (updZ D.2.1.2.2.1 D.2.1.1 a) (updZ D.2.1.2.2.2 D.2.1.1 119)
      rw [hput]
      exact w1
/-- a part erased: the paper, and what is answered -/
def erD (D : PapD) (tr : Bool) (a x y : Int) : PapD := if tr = true then strikeD D a x y else (dnX (drpF (fun R i => seenB R.1 R.2.1 i)) (y - x).toNat (y - 1) D.1, D.2)
def erC (D : PapD) (tr : Bool) (a x y : Int) : Int := if tr = true then stkC D a x y else -1
theorem PpL.erz (h : PpL D) {p z : Int} (hp : 0 ≤ p ∧ p < z ∧ z ≤ cntS (toL D.1)) : atL (toL D.1) z = atL (toL D.1) p + atL ((toL D.1).drop (atL (toL D.1) p).toNat) (z - p).toNat ∧ (((z - p).toNat : Nat) : Int) ≤ cntS ((toL D.1).drop (atL (toL D.1) p).toNat) ∧ 0 ≤ atL (toL D.1) p ∧ atL (toL D.1) p ≤ D.1.2.1 := by
  have h1 := atL_add (toL D.1) p (z - p) hp.1 (by omega)
  have h2 := cntS_drop (toL D.1) p hp.1 (by omega)
  have h3 := atL_le (toL D.1) p
  have h4 := toL_len (R := D.1)
  have h5 := h.nn
  rw [show p + (z - p) = z by omega] at h1
  rw [show (((z - p).toNat : Nat) : Int) = z - p by omega]
  exact ⟨h1, by omega, h3.1, by omega⟩
theorem PpL.er (h : PpL D) {a p z : Int} {tr : Bool} (ha : 0 ≤ a ∧ a < 4) (hp : 0 ≤ p ∧ p < z ∧ z ≤ cntS (toL D.1)) (h60 : D.2.1.1 < 60) : PpL (erD D tr a (atL (toL D.1) p) (atL (toL D.1) z)) ∧ toL (erD D tr a (atL (toL D.1) p) (atL (toL D.1) z)).1 = (toL D.1).take (atL (toL D.1) p).toNat ++ erL D.2.1.2.2.1 a D.2.1.1 tr ((toL D.1).drop (atL (toL D.1) p).toNat) (z - p).toNat := by
  obtain ⟨e1, e2, e3, e4⟩ := h.erz hp
  unfold erD
  cases tr with
  | true =>
    rw [if_pos rfl]
    exact h.strike ha e3 e4 e2 e1 h60
  | false =>
    rw [if_neg (by decide)]
    exact h.rub e3 e4 e2 e1
theorem erL_le {au : Int → Int} {a c : Int} {tr : Bool} : ∀ (l : List Un) (s : Nat), (erL au a c tr l s).length ≤ l.length
  | [], s => by rw [erL]; exact Nat.le_refl _
  | v :: t, s => by
    have h1 := erL_le (au := au) (a := a) (c := c) (tr := tr) t s
    have h2 := erL_le (au := au) (a := a) (c := c) (tr := tr) t (s - 1)
    rw [erL]
    split
    · exact Nat.le_refl _
    · split
      · split
        · rw [List.length_cons, List.length_cons]; omega
        · rw [List.length_cons]; omega
      · rw [List.length_cons, List.length_cons]; omega
theorem PpL.er_n (h : PpL D) {a p z : Int} {tr : Bool} (ha : 0 ≤ a ∧ a < 4) (hp : 0 ≤ p ∧ p < z ∧ z ≤ cntS (toL D.1)) (h60 : D.2.1.1 < 60) : (erD D tr a (atL (toL D.1) p) (atL (toL D.1) z)).1.2.1 ≤ D.1.2.1 := by
  obtain ⟨q1, q2⟩ := h.er (tr := tr) ha hp h60
  have h1 := toL_len (R := (erD D tr a (atL (toL D.1) p) (atL (toL D.1) z)).1)
  have h2 := toL_len (R := D.1)
  have h3 := erL_le (au := D.2.1.2.2.1) (a := a) (c := D.2.1.1) (tr := tr) ((toL D.1).drop (atL (toL D.1) p).toNat) (z - p).toNat
  have h4 := q1.nn
  have h5 := h.nn
  rw [q2, List.length_append, List.length_take] at h1
  rw [List.length_drop] at h3
  omega
theorem DkR.eraseD (h : DkR σ F A.2.1 A.2.2 (edA A D).1) (hP : PpL D) {a p z : Int} {tr : Bool} (ha : 0 ≤ a ∧ a < 4) (hp : 0 ≤ p ∧ p < z ∧ z ≤ cntS (toL D.1)) (h60 : D.2.1.1 < 60) : ∃ τ f, Con 1 mX11_erase 1 200 [vA (F A.2.1).1, vI a, vI p, vI z, vI (bI (tr = true))] σ (vI (erC D tr a (atL (toL D.1) p) (atL (toL D.1) z)), τ) ∧ DkR τ (setF F A.2.1 f) A.2.1 A.2.2 (edA A (erD D tr a (atL (toL D.1) p) (atL (toL D.1) z))).1 ∧ OutD σ τ (fpD (F A.2.1)) ∧ f.1 = (F A.2.1).1 := by
  have hD : DocR σ (F A.2.1).1 (F A.2.1).2.1 (F A.2.1).2.2.1 (F A.2.1).2.2.2.1 (F A.2.1).2.2.2.2 (toL D.1) D.2.1.1 D.2.1.2.2.1 D.2.1.2.2.2 := h.nowD
  obtain ⟨e1, e2, e3, e4⟩ := hP.erz hp
  obtain ⟨τ, us1, q1, q2, q3, q4, q5⟩ := con_eraseD hD (a := a) (tr := tr) hp h60
  have hnd := hP.need (a := a) e3 e4 e2
  rw [← e1] at hnd
  have hF : OutD σ τ (fpD (F A.2.1)) := q4.mono (fun x _ hx => by
    rcases hx with hx | hx | hx | hx | hx
    · exact Or.inl hx
    · exact Or.inr (Or.inl hx)
    · exact Or.inr (Or.inr (Or.inl hx))
    · exact Or.inr (Or.inr (Or.inr (Or.inl hx)))
    · exact Or.inr (Or.inr (Or.inr (Or.inr hx))))
  have eC : csF D.2.1.1 (tr && ndL D.2.1.2.2.1 a ((toL D.1).drop (atL (toL D.1) p).toNat) (z - p).toNat) = erC D tr a (atL (toL D.1) p) (atL (toL D.1) z) := by
    rw [← hnd]
    unfold erC stkC
    cases tr
    · rfl
    · rw [if_pos rfl, Bool.true_and]
      cases needD D a (atL (toL D.1) p) (atL (toL D.1) z) <;> rfl
  rw [eC] at q1
  refine ⟨τ, ((F A.2.1).1, (F A.2.1).2.1, (F A.2.1).2.2.1, (F A.2.1).2.2.2.1, us1), q1, h.nowE ?_ hF rfl (fun x hx => Or.inl ?_), hF, rfl⟩
  · show DocR τ _ _ _ _ us1 (toL (erD D tr a (atL (toL D.1) p) (atL (toL D.1) z)).1) (erD D tr a (atL (toL D.1) p) (atL (toL D.1) z)).2.1.1 (erD D tr a (atL (toL D.1) p) (atL (toL D.1) z)).2.1.2.2.1 (erD D tr a (atL (toL D.1) p) (atL (toL D.1) z)).2.1.2.2.2
    rw [(hP.er ha hp h60).2]
    rw [← hnd] at q2
    unfold erD strikeD stkL
    cases tr
    · exact q2
    · rw [Bool.true_and] at q2
      rw [if_pos rfl]
      cases hq : needD D a (atL (toL D.1) p) (atL (toL D.1) z)
      · rw [hq] at q2
        exact q2
      · rw [hq] at q2
        exact q2
  · rcases hx with hx | hx | hx | hx | hx
    · exact Or.inl hx
    · exact Or.inr (Or.inl hx)
    · exact Or.inr (Or.inr (Or.inl hx))
    · exact Or.inr (Or.inr (Or.inr (Or.inl hx)))
    · exact Or.inr (Or.inr (Or.inr (Or.inr (q3 x hx))))
end ActD
