/-! A document's copy. -/
section Doc4
variable {σ σ' τ : St} {d U A S : Nat} {us : List Nat} {vs : List Un} {ch : Int} {au sg : Int → Int}
theorem OutD.nx {t n : Nat} : OutD σ (nxD σ t n) (fun _ => False) := ⟨Nat.le_succ _, fun x hx _ => ⟨fun j => nxD_at (Or.inl (by omega)), fun j => rfl⟩⟩
theorem OutD.r1 {a k q : Nat} : OutD σ (R1 σ a k q) (fun x => x = a) := ⟨Nat.le_refl _, fun x _ hn => ⟨fun j => rfl, fun j => R1_ne hn⟩⟩
theorem OutD.p1 {a k : Nat} {z : Int} : OutD σ (P1 σ a k z) (fun x => x = a) := ⟨Nat.le_refl _, fun x _ hn => ⟨fun j => P1_ne hn, fun j => rfl⟩⟩
theorem OutD.m1 {a : Nat} {k z : Int} : OutD σ (M1 σ a k z) (fun x => x = a) := ⟨Nat.le_refl _, fun x _ hn => ⟨fun j => M1_ne hn, fun j => rfl⟩⟩
/-- what follows, where what changed was made since -/
theorem OutD.since {σ0 : St} {P : Nat → Prop} (h : OutD σ0 σ (fun _ => False)) (h2 : OutD σ σ' P) (hp : ∀ x, P x → σ0.2.2 ≤ x) : OutD σ0 σ' (fun _ => False) :=
  (h.trans h2).mono (fun x hx hP => by rcases hP with hP | hP; exact hP; have := hp x hP; omega)
theorem cpU_out {u : Nat} : OutD σ (cpU σ u) (fun _ => False) := by
  refine ⟨Nat.le_succ _, fun x hx _ => ⟨fun j => ?_, fun j => rfl⟩⟩
  refine (P1_ne (by omega)).trans ((inU_ne (by omega)).trans (nxD_at (Or.inl (by omega))))
theorem cpU_g {u : Nat} (h9 : 109 ≤ σ.2.2) : GamD (cpU σ u) σ.2.2 = (22, 0) := (GamD_P1 (by decide)).trans (GamD_inU.trans (GamD_nxD (by decide) (gam99 h9)))
theorem cpU_v {u : Nat} : uv (cpU σ u) σ.2.2 = uv σ u := by
  have h := inU_v (σ := nxD σ 22 0) (u := σ.2.2) (l := σ.1 u 0) (w := σ.1 u 1)
  unfold uv at h ⊢
  have h1 := congrArg Prod.fst h
  have h2 := congrArg (fun z => z.2.1) h
  refine Prod.ext ?_ (Prod.ext ?_ ?_)
  · exact (P1_nj (by decide)).trans h1
  · exact (P1_nj (by decide)).trans h2
  · exact P1_eq
theorem DocT.out {P : Nat → Prop} (h : DocT σ d U A S) (hF : OutD σ σ' P) (n1 : ¬ P d) (g2 : GamD σ' U = GamD σ U) (g3 : GamD σ' A = GamD σ A) (g4 : GamD σ' S = GamD σ S) : DocT σ' d U A S := by
  obtain ⟨⟨a, b, c, e⟩, ⟨p1, p2, p3⟩, ge, ⟨l1, l2, l3, l4⟩⟩ := h
  have hc := hF.1
  obtain ⟨f1, f2⟩ := hF.2 d l1 n1
  exact ⟨⟨(hF.gam l1 n1).trans a, g2.trans b, g3.trans c, g4.trans e⟩, ⟨(f2 1).trans p1, (f2 3).trans p2, (f2 4).trans p3⟩, ge, by omega, by omega, by omega, by omega⟩
theorem inD_T (hg : GamD σ d = (21, 0)) (h9 : 109 ≤ d) (hlt : d < σ.2.2) : DocT (inD σ d) d σ.2.2 (σ.2.2 + 1) (σ.2.2 + 2) ∧ OutD σ (inD σ d) (fun x => x = d) ∧ (inD σ d).2.2 = σ.2.2 + 3 ∧ (inD σ d).1 d 0 = σ.1 d 0 ∧ (inD σ d).1 d 2 = σ.1 d 2 := by
  have e1 : (R1 (nxD σ 3 210) d 1 σ.2.2).2.2 = σ.2.2 + 1 := rfl
  have e2 : (R1 (nxD (R1 (nxD σ 3 210) d 1 σ.2.2) 0 61) d 3 (σ.2.2 + 1)).2.2 = σ.2.2 + 2 := rfl
  have gA : ∀ x, x ≠ σ.2.2 + 2 → GamD (inD σ d) x = GamD (R1 (nxD (R1 (nxD σ 3 210) d 1 σ.2.2) 0 61) d 3 (σ.2.2 + 1)) x := fun x hx => GamD_R1.trans (GamD_nx (by rw [e2]; exact hx))
  have gB : ∀ x, x ≠ σ.2.2 + 1 → GamD (R1 (nxD (R1 (nxD σ 3 210) d 1 σ.2.2) 0 61) d 3 (σ.2.2 + 1)) x = GamD (R1 (nxD σ 3 210) d 1 σ.2.2) x := fun x hx => GamD_R1.trans (GamD_nx (by rw [e1]; exact hx))
  have gC : ∀ x, x ≠ σ.2.2 → GamD (R1 (nxD σ 3 210) d 1 σ.2.2) x = GamD σ x := fun x hx => GamD_R1.trans (GamD_nx hx)
  have vv : ∀ x j, j ≠ TY → (inD σ d).1 x j = σ.1 x j := fun x j hj => (nxD_at (σ := R1 (nxD (R1 (nxD σ 3 210) d 1 σ.2.2) 0 61) d 3 (σ.2.2 + 1)) (Or.inr hj)).trans ((nxD_at (σ := R1 (nxD σ 3 210) d 1 σ.2.2) (Or.inr hj)).trans (nxD_at (Or.inr hj)))
  refine ⟨⟨⟨?_, ?_, ?_, ?_⟩, ⟨?_, ?_, ?_⟩, ⟨h9, by omega, by omega, by omega⟩, ?_⟩, ⟨by show σ.2.2 ≤ σ.2.2 + 1 + 1 + 1; omega, fun x hx hn => ⟨fun j => ?_, fun j => ?_⟩⟩, rfl, vv _ _ (by decide), vv _ _ (by decide)⟩
  · rw [gA _ (by omega), gB _ (by omega), gC _ (by omega), hg]
  · rw [gA _ (by omega), gB _ (by omega)]
    exact GamD_R1.trans (GamD_nxD (by decide) (gam99 (by omega)))
  · rw [gA _ (by omega)]
    exact GamD_R1.trans (GamD_nxD (σ := R1 (nxD σ 3 210) d 1 σ.2.2) (by decide) (gam99 (by rw [e1]; omega)))
  · exact GamD_R1.trans (GamD_nxD (σ := R1 (nxD (R1 (nxD σ 3 210) d 1 σ.2.2) 0 61) d 3 (σ.2.2 + 1)) (by decide) (gam99 (by rw [e2]; omega)))
  · exact (R1_nj (by decide)).trans ((R1_nj (by decide)).trans R1_eq)
  · exact (R1_nj (by decide)).trans R1_eq
  · exact R1_eq
  · exact ⟨by show d < σ.2.2 + 1 + 1 + 1; omega, by show σ.2.2 < σ.2.2 + 1 + 1 + 1; omega, by show σ.2.2 + 1 < σ.2.2 + 1 + 1 + 1; omega, by show σ.2.2 + 2 < σ.2.2 + 1 + 1 + 1; omega⟩
  · refine (nxD_at (σ := R1 (nxD (R1 (nxD σ 3 210) d 1 σ.2.2) 0 61) d 3 (σ.2.2 + 1)) (Or.inl (by rw [e2]; omega))).trans ((nxD_at (σ := R1 (nxD σ 3 210) d 1 σ.2.2) (Or.inl (by rw [e1]; omega))).trans (nxD_at (Or.inl (by omega))))
  · exact (R1_ne hn).trans ((R1_ne hn).trans (R1_ne hn))
/-- a copy under way: units ahead of i are copied -/
def CpI (σ : St) (us : List Nat) (c : Nat) (i : Int) (τ : St) : Prop := τ.2.2 = c + 4 + i.toNat ∧ DocT τ c (c + 1) (c + 2) (c + 3) ∧ τ.1 c 0 = (us.length : Int) ∧ OutD σ τ (fun _ => False) ∧ ∀ j, j < i.toNat → τ.2.1 (c + 1) j = some (c + 4 + j) ∧ GamD τ (c + 4 + j) = (22, 0) ∧ ∀ u, us[j]? = some u → uv τ (c + 4 + j) = uv σ u
theorem CpI.step (h : DocR σ d U A S us vs ch au sg) {i : Int} (hI : CpI σ us σ.2.2 i τ) (h0 : 0 ≤ i) (hi : i < us.length) {u : Nat} (hu : us[i.toNat]? = some u) (hult : u < σ.2.2) : CpI σ us σ.2.2 (i + 1) (R1 (cpU τ u) (σ.2.2 + 1) i.toNat τ.2.2) := by
  obtain ⟨c1, c2, c3, c4, c5⟩ := hI
  have hge := h.1.2.2.1
  have hlt := h.1.2.2.2
  have hout := cpU_out (σ := τ) (u := u)
  have e1 : (i + 1).toNat = i.toNat + 1 := by omega
  obtain ⟨-, -, -, l1, l2, l3, l4⟩ := id c2
  refine ⟨by show τ.2.2 + 1 = _; omega, (c2.out hout (fun z => z) (hout.gam l2 (fun z => z)) (hout.gam l3 (fun z => z)) (hout.gam l4 (fun z => z))).out (P := fun x => x = σ.2.2 + 1) OutD.r1 (by omega) GamD_R1 GamD_R1 GamD_R1, ((hout.2 _ l1 (fun z => z)).1 0).trans c3, (c4.since hout (fun x hx => hx.elim)).since (P := fun x => x = σ.2.2 + 1) OutD.r1 (fun x hx => by omega), fun j hj => ?_⟩
  by_cases hji : j = i.toNat
  · subst hji
    have e2 : σ.2.2 + 4 + i.toNat = τ.2.2 := c1.symm
    rw [e2]
    refine ⟨R1_eq, GamD_R1.trans (cpU_g (by omega)), fun u2 hu2 => ?_⟩
    rw [hu] at hu2
    cases hu2
    refine (cpU_v (σ := τ)).trans (uv_eq fun j => (c4.2 u hult (fun z => z)).1 j)
  · obtain ⟨a, b, c⟩ := c5 j (by omega)
    have hl : σ.2.2 + 4 + j < τ.2.2 := by omega
    refine ⟨(R1_nj hji).trans (((hout.2 _ l2 (fun z => z)).2 j).trans a), GamD_R1.trans ((hout.gam hl (fun z => z)).trans b), fun u2 hu2 => ?_⟩
    rw [← c u2 hu2]
    exact uv_eq fun k => (hout.2 _ hl (fun z => z)).1 k
theorem lp_copy1 (h : DocR σ d U A S us vs ch au sg) : ∀ (m : Nat) (i : Int) (τ : St), CpI σ us σ.2.2 i τ → 0 ≤ i → i + m = us.length → ∃ τ2, CpI σ us σ.2.2 us.length τ2 ∧ ∀ (b : Nat × Nat) (out : MV × St), m ≤ b.1 → 3 * m ≤ b.2 → (∀ b2 : Nat × Nat, Go (fun _ => 0) 2 mX11_copy b2 47 [vA d, vA σ.2.2, vI (us.length : Int)] [] τ2 out) → Go (fun _ => 0) 2 mX11_copy b 18 [vA d, vA σ.2.2, vI i] [] τ out := by
  intro m
  obtain ⟨⟨⟨hgd, hgU, hgA, hgS⟩, ⟨hpU, hpA, hpS⟩, hge, ⟨hlt1, hlt2, hlt3, hlt4⟩⟩, ⟨hn, hn2, -, -, -⟩, -, -, hch, hch2, hcl⟩ := id h
  induction m with
  | zero =>
    intro i τ hI h0 hi
    have ei : i = (us.length : Int) := by omega
    subst ei
    refine ⟨τ, hI, fun b out hb1 hb2 K => ?_⟩
    obtain ⟨c1, c2, c3, c4, c5⟩ := id hI
    have F0 := c4.2 d hlt1 (fun z => z)
    have hgd1 : GamD τ d = (21, 0) := (c4.gam hlt1 (fun z => z)).trans hgd
    have hgU1 : GamD τ U = (3, 210) := (c4.gam hlt2 (fun z => z)).trans hgU
    have hgA1 : GamD τ A = (0, 61) := (c4.gam hlt3 (fun z => z)).trans hgA
    have hgS1 : GamD τ S = (2, 61) := (c4.gam hlt4 (fun z => z)).trans hgS
    have hpU1 : τ.2.1 d 1 = some U := (F0.2 1).trans hpU
    have hpA1 : τ.2.1 d 3 = some A := (F0.2 3).trans hpA
    have hpS1 : τ.2.1 d 4 = some S := (F0.2 4).trans hpS
    have hn1 : τ.1 d 0 = (us.length : Int) := (F0.1 0).trans hn
    have hch1 : τ.1 d 2 = ch := (F0.1 2).trans hch
    obtain ⟨⟨hgc, hgcU, hgcA, hgcS⟩, ⟨hpcU, hpcA, hpcS⟩, -, hcl1, hcl2, hcl3, hcl4⟩ := id c2
    refine go_iload_n (at_of tX11_copy 0 10 rfl) rfl ?_
    refine go_aload_n (at_of tX11_copy 0 11 rfl) rfl ?_
    refine go_getfD fl_X11_24 rfl (by first | exact hgd1 | (simp (disch := omega) only [GamD_P1, GamD_M1, GamD_R1]; exact hgd1)) (at_of tX11_copy 0 12 rfl) ?_
    refine go_icmp_ge (tgt := 47) (at_of tX11_copy 0 13 rfl) (by decide) (fun h23 => ?_) (fun h23 => ?_)
    rotate_left
    · exfalso; omega
    exact K _
  | succ m ih =>
    intro i τ hI h0 hi
    obtain ⟨c1, c2, c3, c4, c5⟩ := id hI
    have F0 := c4.2 d hlt1 (fun z => z)
    have hgd1 : GamD τ d = (21, 0) := (c4.gam hlt1 (fun z => z)).trans hgd
    have hgU1 : GamD τ U = (3, 210) := (c4.gam hlt2 (fun z => z)).trans hgU
    have hgA1 : GamD τ A = (0, 61) := (c4.gam hlt3 (fun z => z)).trans hgA
    have hgS1 : GamD τ S = (2, 61) := (c4.gam hlt4 (fun z => z)).trans hgS
    have hpU1 : τ.2.1 d 1 = some U := (F0.2 1).trans hpU
    have hpA1 : τ.2.1 d 3 = some A := (F0.2 3).trans hpA
    have hpS1 : τ.2.1 d 4 = some S := (F0.2 4).trans hpS
    have hn1 : τ.1 d 0 = (us.length : Int) := (F0.1 0).trans hn
    have hch1 : τ.1 d 2 = ch := (F0.1 2).trans hch
    obtain ⟨⟨hgc, hgcU, hgcA, hgcS⟩, ⟨hpcU, hpcA, hpcS⟩, -, hcl1, hcl2, hcl3, hcl4⟩ := id c2
    obtain ⟨u, v, hu1, hv1, hvd, hud, hpu, hgu, hl0, hl1, hl2, hvw, hum, hu9, hult⟩ := h.unit h0 (by omega)
    obtain ⟨τ2, k1, k2⟩ := ih (i + 1) _ (hI.step h h0 (by omega) hu1 hult) (by omega) (by omega)
    refine ⟨τ2, k1, fun b out hb1 hb2 K => ?_⟩
    have FU := c4.2 U hlt2 (fun z => z)
    have hpu1 : τ.2.1 U i.toNat = some u := (FU.2 _).trans hpu
    have hgu1 : GamD τ u = (22, 0) := (c4.gam hult (fun z => z)).trans hgu
    have hlv : τ.1 u 0 = v.1 := ((c4.2 u hult (fun z => z)).1 0).trans hl0
    have hout := cpU_out (σ := τ) (u := u)
    have q1 : GamD (cpU τ u) (σ.2.2 + 1) = (3, 210) := (hout.gam hcl2 (fun z => z)).trans hgcU
    have q2 : GamD (cpU τ u) τ.2.2 = (22, 0) := cpU_g (by omega)
    refine go_iload_n (at_of tX11_copy 0 10 rfl) rfl ?_
    refine go_aload_n (at_of tX11_copy 0 11 rfl) rfl ?_
    refine go_getfD fl_X11_24 rfl (by first | exact hgd1 | (simp (disch := omega) only [GamD_P1, GamD_M1, GamD_R1]; exact hgd1)) (at_of tX11_copy 0 12 rfl) ?_
    refine go_icmp_ge (tgt := 47) (at_of tX11_copy 0 13 rfl) (by decide) (fun h23 => ?_) (fun h23 => ?_)
    · exfalso; omega
    refine go_aload_n (at_of tX11_copy 0 14 rfl) rfl ?_
    refine go_getrD (q := (σ.2.2 + 1)) fl_X11_9 rfl (by first | exact hgc | (simp (disch := omega) only [GamD_P1, GamD_M1, GamD_R1]; exact hgc)) hpcU (at_of tX11_copy 0 15 rfl) ?_
    refine go_iload_n (at_of tX11_copy 1 0 rfl) rfl ?_
    refine go_aload_n (at_of tX11_copy 1 1 rfl) rfl ?_
    refine go_getrD (q := U) fl_X11_9 rfl (by first | exact hgd1 | (simp (disch := omega) only [GamD_P1, GamD_M1, GamD_R1]; exact hgd1)) hpU1 (at_of tX11_copy 1 2 rfl) ?_
    refine go_iload_n (at_of tX11_copy 1 3 rfl) rfl ?_
    refine go_aaldD (by first | exact hgU1 | (simp (disch := omega) only [GamD_P1, GamD_M1, GamD_R1]; exact hgU1)) (Or.inl rfl) (by omega) (by omega) hpu1 (at_of tX11_copy 1 4 rfl) ?_
    refine go_cVD (con_copyU hgu1 hu9 (by omega) (by rw [hlv]; exact hvw.1)) lk_X11_28 rfl hgu1 (at_of tX11_copy 1 5 rfl) rfl (by decide) rfl (Nat.le_of_ble_eq_true rfl) rfl (⟨by omega, by omega⟩) ?_
    refine go_aast1D q1 (Or.inl rfl) (by omega) (by omega) q2 (at_of tX11_copy 1 6 rfl) ?_
    refine go_iinc (at_of tX11_copy 1 7 rfl) rfl (by unfold in32; omega) rfl rfl ?_
    refine go_goto (tgt := 18) (at_of tX11_copy 1 8 rfl) (by decide) ?_
    exact k2 _ _ (by omega) (by omega) K
end Doc4
