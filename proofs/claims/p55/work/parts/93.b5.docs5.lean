/-! A document's copy, whole. -/
section Doc5
variable {σ σ' τ τ' : St} {d U A S : Nat} {us : List Nat} {vs : List Un} {ch : Int} {au sg : Int → Int}
theorem DocT.same (h : DocT τ d U A S) (e2 : τ'.2 = τ.2) (hg : ∀ x, GamD τ' x = GamD τ x) : DocT τ' d U A S := by
  obtain ⟨⟨a1, a2, a3, a4⟩, ⟨p1, p2, p3⟩, ge, l⟩ := h
  exact ⟨⟨(hg _).trans a1, (hg _).trans a2, (hg _).trans a3, (hg _).trans a4⟩, ⟨by rw [e2]; exact p1, by rw [e2]; exact p2, by rw [e2]; exact p3⟩, ge, by rw [e2]; exact l⟩
theorem CpI.cong {i : Int} (hI : CpI σ us σ.2.2 i τ) (e2 : τ'.2 = τ.2) (hv : ∀ x j, x ≠ σ.2.2 + 2 → x ≠ σ.2.2 + 3 → (x ≠ σ.2.2 ∨ j ≠ 2) → τ'.1 x j = τ.1 x j) (hg : ∀ x, GamD τ' x = GamD τ x) : CpI σ us σ.2.2 i τ' := by
  obtain ⟨c1, ⟨⟨a1, a2, a3, a4⟩, ⟨p1, p2, p3⟩, ge, l1, l2, l3, l4⟩, c3, c4, c5⟩ := hI
  refine ⟨by rw [e2]; exact c1, ⟨⟨(hg _).trans a1, (hg _).trans a2, (hg _).trans a3, (hg _).trans a4⟩, ⟨by rw [e2]; exact p1, by rw [e2]; exact p2, by rw [e2]; exact p3⟩, ge, by rw [e2]; exact ⟨l1, l2, l3, l4⟩⟩, (hv _ _ (by omega) (by omega) (Or.inr (by decide))).trans c3, ⟨by rw [e2]; exact c4.1, fun x hx hn => ⟨fun j => (hv x j (by omega) (by omega) (Or.inl (by omega))).trans ((c4.2 x hx hn).1 j), fun j => by rw [e2]; exact (c4.2 x hx hn).2 j⟩⟩, fun j hj => ?_⟩
  obtain ⟨a, b, c⟩ := c5 j hj
  refine ⟨by rw [e2]; exact a, (hg _).trans b, fun u hu => ?_⟩
  rw [← c u hu]
  exact uv_eq fun k => hv _ _ (by omega) (by omega) (Or.inl (by omega))
/-- the copy's changes ahead of j stand -/
def CpC (σ : St) (us : List Nat) (ch : Int) (au sg : Int → Int) (j : Int) (τ : St) : Prop := CpI σ us σ.2.2 us.length τ ∧ τ.1 σ.2.2 2 = ch ∧ ∀ c, 0 ≤ c → c < j → τ.1 (σ.2.2 + 2) c.toNat = au c ∧ τ.1 (σ.2.2 + 3) c.toNat = sg c
theorem CpC.step {j : Int} (hI : CpC σ us ch au sg j τ) (h0 : 0 ≤ j) (hj : j < 61) : CpC σ us ch au sg (j + 1) (M1 (M1 τ (σ.2.2 + 2) j (au j)) (σ.2.2 + 3) j (sg j)) := by
  obtain ⟨c1, c2, c3⟩ := hI
  refine ⟨c1.cong rfl (fun x k h1 h2 h3 => (M1_ne h2).trans (M1_ne h1)) (fun x => (GamD_M1 (by omega)).trans (GamD_M1 (by omega))), ((M1_ne (by omega)).trans (M1_ne (by omega))).trans c2, fun c h1 h2 => ?_⟩
  by_cases hc : c = j
  · subst hc
    exact ⟨(M1_ne (by omega)).trans (M1_eq rfl), M1_eq rfl⟩
  · obtain ⟨a, b⟩ := c3 c h1 (by omega)
    exact ⟨((M1_ne (by omega)).trans (M1_nj (by omega))).trans a, ((M1_nj (by omega)).trans (M1_ne (by omega))).trans b⟩
/-- where a copy's units stand -/
def cpL (c n : Nat) : List Nat := (List.range n).map (fun j => c + 4 + j)
theorem cpL_len {c n : Nat} : (cpL c n).length = n := by unfold cpL; rw [List.length_map, List.length_range]
theorem cpL_at {c n j : Nat} (h : j < n) : (cpL c n)[j]? = some (c + 4 + j) := by
  unfold cpL
  rw [List.getElem?_map, List.getElem?_range h]
  rfl
theorem cpL_mem {c n u : Nat} : u ∈ cpL c n ↔ ∃ j, j < n ∧ u = c + 4 + j := by
  unfold cpL
  rw [List.mem_map]
  exact ⟨fun ⟨j, h1, h2⟩ => ⟨j, List.mem_range.mp h1, h2.symm⟩, fun ⟨j, h1, h2⟩ => ⟨j, List.mem_range.mpr h1, h2.symm⟩⟩
theorem cpL_nd {c n : Nat} : (cpL c n).Nodup := by
  unfold cpL
  exact List.Pairwise.map _ (fun a b hab h => hab (by omega)) List.nodup_range
theorem CpC.doc (h : DocR σ d U A S us vs ch au sg) (hI : CpC σ us ch au sg ch τ) : DocR τ σ.2.2 (σ.2.2 + 1) (σ.2.2 + 2) (σ.2.2 + 3) (cpL σ.2.2 us.length) vs ch au sg ∧ OutD σ τ (fun _ => False) ∧ τ.2.2 = σ.2.2 + 4 + us.length := by
  obtain ⟨⟨c1, c2, c3, c4, c5⟩, b2, b3⟩ := hI
  have hge := h.1.2.2.1
  have hlt := h.1.2.2.2
  have hT : ((us.length : Int)).toNat = us.length := by omega
  rw [hT] at c5 c1
  obtain ⟨hDT, ⟨u1, u2, u3, u4, u5⟩, hv, hw, hl1, hl2, hl3⟩ := h
  refine ⟨⟨c2, ⟨by rw [cpL_len]; exact c3, by rw [cpL_len]; exact u2, fun i hi => ?_, cpL_nd, fun u hu => ?_⟩, ?_, hw, b2, hl2, fun c h0 h1 => ⟨b3 c h0 h1, (hl3 c h0 h1).2⟩⟩, c4, c1⟩
  · rw [cpL_len] at hi
    rw [cpL_at hi]
    exact (c5 i hi).1
  · obtain ⟨j, hj, rfl⟩ := cpL_mem.mp hu
    exact ⟨(c5 j hj).2.1, by omega, by omega⟩
  · rw [← hv]
    apply List.ext_getElem?
    intro j
    rw [List.getElem?_map, List.getElem?_map]
    by_cases hj : j < us.length
    · rw [cpL_at hj, List.getElem?_eq_getElem hj]
      exact congrArg some ((c5 j hj).2.2 _ (List.getElem?_eq_getElem hj))
    · rw [List.getElem?_eq_none (by rw [cpL_len]; omega), List.getElem?_eq_none (by omega)]
      rfl
theorem lp_copy2 (h : DocR σ d U A S us vs ch au sg) : ∀ (m : Nat) (i : Int) (τ : St), CpC σ us ch au sg i τ → 0 ≤ i → i + m = ch → ∃ τ2, CpC σ us ch au sg ch τ2 ∧ ∀ (b : Nat × Nat) (out : MV × St), (∀ b2 : Nat × Nat, Go (fun _ => 0) 2 mX11_copy b2 95 [vA d, vA σ.2.2, vI ch] [] τ2 out) → Go (fun _ => 0) 2 mX11_copy b 57 [vA d, vA σ.2.2, vI i] [] τ out := by
  intro m
  obtain ⟨⟨⟨hgd, hgU, hgA, hgS⟩, ⟨hpU, hpA, hpS⟩, hge, ⟨hlt1, hlt2, hlt3, hlt4⟩⟩, ⟨hn, hn2, -, -, -⟩, -, -, hch, hch2, hcl⟩ := id h
  induction m with
  | zero =>
    intro i τ hI h0 hi
    have ei : i = ch := by omega
    rw [ei] at hI
    rw [ei]
    refine ⟨τ, hI, fun b out K => ?_⟩
    obtain ⟨⟨c1, c2, c3, c4, c5⟩, b2, b3⟩ := id hI
    have F0 := c4.2 d hlt1 (fun z => z)
    have hgd1 : GamD τ d = (21, 0) := (c4.gam hlt1 (fun z => z)).trans hgd
    have hgU1 : GamD τ U = (3, 210) := (c4.gam hlt2 (fun z => z)).trans hgU
    have hgA1 : GamD τ A = (0, 61) := (c4.gam hlt3 (fun z => z)).trans hgA
    have hgS1 : GamD τ S = (2, 61) := (c4.gam hlt4 (fun z => z)).trans hgS
    have hpU1 : τ.2.1 d 1 = some U := (F0.2 1).trans hpU
    have hpA1 : τ.2.1 d 3 = some A := (F0.2 3).trans hpA
    have hpS1 : τ.2.1 d 4 = some S := (F0.2 4).trans hpS
    have hn1 : τ.1 d 0 = (us.length : Int) := (F0.1 0).trans hn
    have hch1 : τ.1 d 2 = ch := (F0.1 2).trans hch
    obtain ⟨⟨hgc, hgcU, hgcA, hgcS⟩, ⟨hpcU, hpcA, hpcS⟩, -, hcl1, hcl2, hcl3, hcl4⟩ := id c2
    refine go_iload_n (at_of tX11_copy 1 15 rfl) rfl ?_
    refine go_aload_n (at_of tX11_copy 2 0 rfl) rfl ?_
    refine go_getfD fl_X11_32 rfl (by first | exact hgd1 | (simp (disch := omega) only [GamD_P1, GamD_M1, GamD_R1]; exact hgd1)) (at_of tX11_copy 2 1 rfl) ?_
    refine go_icmp_ge (tgt := 95) (at_of tX11_copy 2 2 rfl) (by decide) (fun h62 => ?_) (fun h62 => ?_)
    rotate_left
    · exfalso; omega
    exact K _
  | succ m ih =>
    intro i τ hI h0 hi
    obtain ⟨⟨c1, c2, c3, c4, c5⟩, b2, b3⟩ := id hI
    have F0 := c4.2 d hlt1 (fun z => z)
    have hgd1 : GamD τ d = (21, 0) := (c4.gam hlt1 (fun z => z)).trans hgd
    have hgU1 : GamD τ U = (3, 210) := (c4.gam hlt2 (fun z => z)).trans hgU
    have hgA1 : GamD τ A = (0, 61) := (c4.gam hlt3 (fun z => z)).trans hgA
    have hgS1 : GamD τ S = (2, 61) := (c4.gam hlt4 (fun z => z)).trans hgS
    have hpU1 : τ.2.1 d 1 = some U := (F0.2 1).trans hpU
    have hpA1 : τ.2.1 d 3 = some A := (F0.2 3).trans hpA
    have hpS1 : τ.2.1 d 4 = some S := (F0.2 4).trans hpS
    have hn1 : τ.1 d 0 = (us.length : Int) := (F0.1 0).trans hn
    have hch1 : τ.1 d 2 = ch := (F0.1 2).trans hch
    obtain ⟨⟨hgc, hgcU, hgcA, hgcS⟩, ⟨hpcU, hpcA, hpcS⟩, -, hcl1, hcl2, hcl3, hcl4⟩ := id c2
    obtain ⟨τ2, k1, k2⟩ := ih (i + 1) _ (hI.step h0 (by omega)) (by omega) (by omega)
    refine ⟨τ2, k1, fun b out K => ?_⟩
    obtain ⟨⟨e1, e2⟩, e3, e4⟩ := hcl i h0 (by omega)
    have e5 : τ.1 A i.toNat = au i := ((c4.2 A hlt3 (fun z => z)).1 _).trans e1
    have e6 : (M1 τ (σ.2.2 + 2) i (au i)).1 S i.toNat = sg i := (M1_ne (by omega)).trans (((c4.2 S hlt4 (fun z => z)).1 _).trans e2)
    refine go_iload_n (at_of tX11_copy 1 15 rfl) rfl ?_
    refine go_aload_n (at_of tX11_copy 2 0 rfl) rfl ?_
    refine go_getfD fl_X11_32 rfl (by first | exact hgd1 | (simp (disch := omega) only [GamD_P1, GamD_M1, GamD_R1]; exact hgd1)) (at_of tX11_copy 2 1 rfl) ?_
    refine go_icmp_ge (tgt := 95) (at_of tX11_copy 2 2 rfl) (by decide) (fun h62 => ?_) (fun h62 => ?_)
    · exfalso; omega
    refine go_aload_n (at_of tX11_copy 2 3 rfl) rfl ?_
    refine go_getrD (q := (σ.2.2 + 2)) fl_X11_15 rfl (by first | exact hgc | (simp (disch := omega) only [GamD_P1, GamD_M1, GamD_R1]; exact hgc)) hpcA (at_of tX11_copy 2 4 rfl) ?_
    refine go_iload_n (at_of tX11_copy 2 5 rfl) rfl ?_
    refine go_aload_n (at_of tX11_copy 2 6 rfl) rfl ?_
    refine go_getrD (q := A) fl_X11_15 rfl (by first | exact hgd1 | (simp (disch := omega) only [GamD_P1, GamD_M1, GamD_R1]; exact hgd1)) hpA1 (at_of tX11_copy 2 7 rfl) ?_
    refine go_iload_n (at_of tX11_copy 2 8 rfl) rfl ?_
    refine go_ialdD (by first | exact hgA1 | (simp (disch := omega) only [GamD_P1, GamD_M1, GamD_R1]; exact hgA1)) (by omega) (by omega) (at_of tX11_copy 2 9 rfl) ?_
    rw [e5]
    refine go_iast1D (by first | exact hgcA | (simp (disch := omega) only [GamD_P1, GamD_M1, GamD_R1]; exact hgcA)) (by omega) (by omega) (at_of tX11_copy 2 10 rfl) ?_
    refine go_aload_n (at_of tX11_copy 2 11 rfl) rfl ?_
    refine go_getrD (q := (σ.2.2 + 3)) fl_X11_19 rfl (by first | exact hgc | (simp (disch := omega) only [GamD_P1, GamD_M1, GamD_R1]; exact hgc)) hpcS (at_of tX11_copy 2 12 rfl) ?_
    refine go_iload_n (at_of tX11_copy 2 13 rfl) rfl ?_
    refine go_aload_n (at_of tX11_copy 2 14 rfl) rfl ?_
    refine go_getrD (q := S) fl_X11_19 rfl (by first | exact hgd1 | (simp (disch := omega) only [GamD_P1, GamD_M1, GamD_R1]; exact hgd1)) hpS1 (at_of tX11_copy 2 15 rfl) ?_
    refine go_iload_n (at_of tX11_copy 3 0 rfl) rfl ?_
    refine go_caldD (by first | exact hgS1 | (simp (disch := omega) only [GamD_P1, GamD_M1, GamD_R1]; exact hgS1)) (by omega) (by omega) (at_of tX11_copy 3 1 rfl) ?_
    rw [e6]
    refine go_cast1D (by first | exact hgcS | (simp (disch := omega) only [GamD_P1, GamD_M1, GamD_R1]; exact hgcS)) (by omega) (by omega) (by omega) (at_of tX11_copy 3 2 rfl) ?_
    refine go_iinc (at_of tX11_copy 3 3 rfl) rfl (by unfold in32; omega) rfl rfl ?_
    refine go_goto (tgt := 57) (at_of tX11_copy 3 4 rfl) (by decide) ?_
    exact k2 _ _ K
theorem con_copyD (h : DocR σ d U A S us vs ch au sg) : ∃ σ2, Con 2 mX11_copy (4 + us.length) (337 + 3 * us.length) [vA d] σ (vA σ.2.2, σ2) ∧ DocR σ2 σ.2.2 (σ.2.2 + 1) (σ.2.2 + 2) (σ.2.2 + 3) (cpL σ.2.2 us.length) vs ch au sg ∧ OutD σ σ2 (fun _ => False) ∧ σ2.2.2 = σ.2.2 + 4 + us.length := by
  obtain ⟨⟨⟨hgd, hgU, hgA, hgS⟩, ⟨hpU, hpA, hpS⟩, hge, ⟨hlt1, hlt2, hlt3, hlt4⟩⟩, ⟨hn, hn2, -, -, -⟩, -, -, hch, hch2, hcl⟩ := id h
  have hgn : GamD (nxD σ 21 0) σ.2.2 = (21, 0) := GamD_nxD (by decide) (gam99 (by omega))
  obtain ⟨t1, t2, t3, t4, t5⟩ := inD_T (σ := nxD σ 21 0) hgn (by omega) (by show σ.2.2 < σ.2.2 + 1; omega)
  have o1 : OutD σ (inD (nxD σ 21 0) σ.2.2) (fun _ => False) := (OutD.nx (σ := σ) (t := 21) (n := 0)).since t2 (fun x hx => by omega)
  have hI0 : CpI σ us σ.2.2 0 (P1 (inD (nxD σ 21 0) σ.2.2) σ.2.2 0 us.length) := ⟨t3, t1.same rfl (fun x => GamD_P1 (by decide)), P1_eq, o1.since OutD.p1 (fun x hx => by omega), fun j hj => absurd hj (Nat.not_lt_zero _)⟩
  obtain ⟨τ2, k1, k2⟩ := lp_copy1 h us.length 0 _ hI0 (Int.le_refl _) (by omega)
  have hC0 : CpC σ us ch au sg 0 (P1 τ2 σ.2.2 2 ch) := ⟨k1.cong rfl (fun x k h1 h2 h3 => by rcases h3 with h3 | h3; exact P1_ne h3; exact P1_nj h3) (fun x => GamD_P1 (by decide)), P1_eq, fun c h0 h1 => by omega⟩
  obtain ⟨τ3, j1, j2⟩ := lp_copy2 h ch.toNat 0 _ hC0 (Int.le_refl _) (by omega)
  refine ⟨τ3, ?_, j1.doc h⟩
  have h5 : cfn 11 = 5 := rfl
  have F0 := o1.2 d hlt1 (fun z => z)
  have hgd1 : GamD (inD (nxD σ 21 0) σ.2.2) d = (21, 0) := (o1.gam hlt1 (fun z => z)).trans hgd
  have hn1 : (inD (nxD σ 21 0) σ.2.2).1 d 0 = (us.length : Int) := (F0.1 0).trans hn
  have hgc : GamD (inD (nxD σ 21 0) σ.2.2) σ.2.2 = (21, 0) := t1.1.1
  have G0 := k1.2.2.2.1.2 d hlt1 (fun z => z)
  have hgd2 : GamD τ2 d = (21, 0) := (k1.2.2.2.1.gam hlt1 (fun z => z)).trans hgd
  have hch2 : τ2.1 d 2 = ch := (G0.1 2).trans hch
  have hgc2 : GamD τ2 σ.2.2 = (21, 0) := k1.2.1.1.1
  refine con_of_go mfX11_copy.1 trivial (Nat.le_of_ble_eq_true rfl) rfl (by decide) ?_
  show Go _ _ _ _ 0 [vA _, vT 9 0, vT 9 0] [] _ _
  refine go_newOD (a := σ.2.2) (ci := 11) rfl (by omega) (by decide) cl_X11_10 ins_11 ini_11 ⟨by omega, by show cfn 11 ≤ _; omega⟩ (at_of tX11_copy 0 0 rfl) ?_
  refine go_dup (at_of tX11_copy 0 1 rfl) rfl ?_
  refine go_cI (con_initD (σ := nxD σ 21 0) hgn (by omega) (by show σ.2.2 < σ.2.2 + 1; omega)) lk_X11_23 rfl (at_of tX11_copy 0 2 rfl) rfl (by decide) rfl (Nat.le_of_ble_eq_true rfl) rfl (by first | exact ⟨by omega, by omega⟩ | exact ⟨by omega, by show _ ≤ 337 + 3 * us.length - cfn 11; omega⟩) ?_
  refine go_astore_n (at_of tX11_copy 0 3 rfl) rfl rfl ?_
  refine go_aload_n (at_of tX11_copy 0 4 rfl) rfl ?_
  refine go_aload_n (at_of tX11_copy 0 5 rfl) rfl ?_
  refine go_getfD fl_X11_24 rfl hgd1 (at_of tX11_copy 0 6 rfl) ?_
  rw [hn1]
  refine go_put1D fp_X11_24 rfl (Or.inl rfl) hgc (Or.inl (Or.inl rfl)) (at_of tX11_copy 0 7 rfl) ?_
  refine go_iconst (at_of tX11_copy 0 8 rfl) (by unfold in32; omega) ?_
  refine go_istore_n (at_of tX11_copy 0 9 rfl) rfl rfl ?_
  refine k2 _ _ (by show us.length ≤ 4 + us.length - 1 - 3; omega) (by show 3 * us.length ≤ 337 + 3 * us.length - cfn 11 - 332; omega) (fun b2 => ?_)
  refine go_aload_n (at_of tX11_copy 1 9 rfl) rfl ?_
  refine go_aload_n (at_of tX11_copy 1 10 rfl) rfl ?_
  refine go_getfD fl_X11_32 rfl hgd2 (at_of tX11_copy 1 11 rfl) ?_
  rw [hch2]
  refine go_put1D fp_X11_32 rfl (Or.inl rfl) hgc2 (Or.inl (Or.inl rfl)) (at_of tX11_copy 1 12 rfl) ?_
  refine go_iconst (at_of tX11_copy 1 13 rfl) (by unfold in32; omega) ?_
  refine go_istore_n (at_of tX11_copy 1 14 rfl) rfl rfl ?_
  refine j2 _ _ (fun b3 => ?_)
  refine go_aload_n (at_of tX11_copy 3 5 rfl) rfl ?_
  exact go_reta (at_of tX11_copy 3 6 rfl) rfl
end Doc5
