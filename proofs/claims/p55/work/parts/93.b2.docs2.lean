/-! A unit dropped, a change made: what the document is then. -/
section Doc2
variable {σ σ' : St} {d U A S : Nat} {us : List Nat} {vs : List Un} {ch : Int} {au sg : Int → Int}
/-- nothing that stood before has changed but P -/
def OutD (σ σ' : St) (P : Nat → Prop) : Prop := σ.2.2 ≤ σ'.2.2 ∧ ∀ x, x < σ.2.2 → ¬ P x → (∀ j, σ'.1 x j = σ.1 x j) ∧ ∀ j, σ'.2.1 x j = σ.2.1 x j
theorem OutD.refl {P : Nat → Prop} : OutD σ σ P := ⟨Nat.le_refl _, fun _ _ _ => ⟨fun _ => rfl, fun _ => rfl⟩⟩
theorem OutD.trans {σ2 : St} {P P2 : Nat → Prop} (h : OutD σ σ' P) (h2 : OutD σ' σ2 P2) : OutD σ σ2 (fun x => P x ∨ P2 x) :=
  ⟨Nat.le_trans h.1 h2.1, fun x hx hn => by
    obtain ⟨a, b⟩ := h.2 x hx (fun z => hn (Or.inl z))
    obtain ⟨c, e⟩ := h2.2 x (Nat.lt_of_lt_of_le hx h.1) (fun z => hn (Or.inr z))
    exact ⟨fun j => (c j).trans (a j), fun j => (e j).trans (b j)⟩⟩
theorem OutD.mono {P P2 : Nat → Prop} (h : OutD σ σ' P) (hp : ∀ x, x < σ.2.2 → P x → P2 x) : OutD σ σ' P2 := ⟨h.1, fun x hx hn => h.2 x hx (fun z => hn (hp x hx z))⟩
theorem OutD.gam {P : Nat → Prop} (h : OutD σ σ' P) {x : Nat} (hx : x < σ.2.2) (hn : ¬ P x) : GamD σ' x = GamD σ x := GamD_congr ((h.2 x hx hn).1 TY)
theorem DocR.out {P : Nat → Prop} (h : DocR σ d U A S us vs ch au sg) (hF : OutD σ σ' P) (n1 : ¬ P d) (n2 : ¬ P U) (n3 : ¬ P A) (n4 : ¬ P S) (n5 : ∀ u ∈ us, ¬ P u) : DocR σ' d U A S us vs ch au sg := by
  obtain ⟨⟨⟨g1, g2, g3, g4⟩, ⟨p1, p2, p3⟩, ge, ⟨l1, l2, l3, l4⟩⟩, ⟨u1, u2, u3, u4, u5⟩, hv, hw, c1, c2, c3⟩ := h
  have hc := hF.1
  obtain ⟨f1, f2⟩ := hF.2 d l1 n1
  obtain ⟨f3, f4⟩ := hF.2 U l2 n2
  obtain ⟨f5, f6⟩ := hF.2 A l3 n3
  obtain ⟨f7, f8⟩ := hF.2 S l4 n4
  refine ⟨⟨⟨(hF.gam l1 n1).trans g1, (hF.gam l2 n2).trans g2, (hF.gam l3 n3).trans g3, (hF.gam l4 n4).trans g4⟩, ⟨(f2 1).trans p1, (f2 3).trans p2, (f2 4).trans p3⟩, ge, by omega, by omega, by omega, by omega⟩, ⟨(f1 0).trans u1, u2, fun i hi => (f4 i).trans (u3 i hi), u4, fun u hu => ?_⟩, ?_, hw, (f1 2).trans c1, c2, fun c h0 h1 => ?_⟩
  · obtain ⟨a, b, c⟩ := u5 u hu
    exact ⟨(hF.gam c (n5 u hu)).trans a, b, by omega⟩
  · rw [← hv]
    refine List.map_congr_left fun u hu => ?_
    obtain ⟨a, -⟩ := hF.2 u (u5 u hu).2.2 (n5 u hu)
    unfold uv
    rw [a, a, a]
  · obtain ⟨⟨a, b⟩, c9⟩ := c3 c h0 h1
    exact ⟨⟨(f5 _).trans a, (f7 _).trans b⟩, c9⟩
/-- the row's units from k on, below j, move one down -/
def dS (σ : St) (U : Nat) (k j : Int) : St := (σ.1, fun a i => if a = U ∧ k.toNat ≤ i ∧ i < j.toNat then σ.2.1 U (i + 1) else σ.2.1 a i, σ.2.2)
theorem dS_0 {k : Int} : dS σ U k k = σ := by
  refine Prod.ext rfl (Prod.ext ?_ rfl)
  funext a i
  show (if a = U ∧ k.toNat ≤ i ∧ i < k.toNat then _ else _) = _
  rw [if_neg (by omega)]
theorem dS_s {k j : Int} {q : Nat} (h0 : 0 ≤ k) (h1 : k ≤ j) (hq : σ.2.1 U (j + 1).toNat = some q) : R1 (dS σ U k j) U j.toNat q = dS σ U k (j + 1) := by
  refine Prod.ext rfl (Prod.ext ?_ rfl)
  funext a i
  show (if a = U ∧ i = j.toNat then some q else if a = U ∧ k.toNat ≤ i ∧ i < j.toNat then σ.2.1 U (i + 1) else σ.2.1 a i) = if a = U ∧ k.toNat ≤ i ∧ i < (j + 1).toNat then σ.2.1 U (i + 1) else σ.2.1 a i
  by_cases ha : a = U
  · subst ha
    by_cases hi : i = j.toNat
    · subst hi
      rw [if_pos ⟨rfl, rfl⟩, if_pos (by omega), show j.toNat + 1 = (j + 1).toNat by omega, hq]
    · rw [if_neg (fun z => hi z.2)]
      by_cases h2 : k.toNat ≤ i ∧ i < j.toNat
      · rw [if_pos ⟨rfl, h2⟩, if_pos (by omega)]
      · rw [if_neg (fun z => h2 z.2), if_neg (by omega)]
  · rw [if_neg (fun z => ha z.1), if_neg (fun z => ha z.1), if_neg (fun z => ha z.1)]
theorem dS_at {k j : Int} {i : Nat} (h : j.toNat ≤ i) : (dS σ U k j).2.1 U i = σ.2.1 U i := if_neg (by omega)
theorem dS_ne {k j : Int} {a i : Nat} (h : a ≠ U) : (dS σ U k j).2.1 a i = σ.2.1 a i := if_neg (fun z => h z.1)
theorem GamD_dS {k j : Int} {x : Nat} : GamD (dS σ U k j) x = GamD σ x := GamD_congr rfl
def drD (σ : St) (d U : Nat) (k : Int) (n : Nat) : St := P1 (dS σ U k (n - 1)) d 0 (n - 1)
theorem lp_drop (h : DocR σ d U A S us vs ch au sg) {k : Int} (hk : 0 ≤ k ∧ k < us.length) : ∀ (m : Nat) (b : Nat × Nat) (j : Int), k ≤ j → j + 1 + m = us.length → Go (fun _ => 0) 0 mX11_drop b 2 [vA d, vI k, vI j] [] (dS σ U k j) (vT 8 0, drD σ d U k us.length) := by
  intro m
  obtain ⟨⟨⟨hgd, hgU, hgA, hgS⟩, ⟨hpU, hpA, hpS⟩, hge, hlt⟩, ⟨hn, hn2, -, -, -⟩, -, -, hch, hch2, hcl⟩ := id h
  obtain ⟨⟨n1, n2, n3, n4, n5, n6⟩, -⟩ := h.ne
  have hpU' : ∀ j, (dS σ U k j).2.1 d 1 = some U := fun j => (dS_ne n1).trans hpU
  have hn' : ∀ j, (dS σ U k j).1 d 0 = (us.length : Int) := fun j => hn
  induction m with
  | zero =>
    intro b j hj hm
    have hn9 := hn' j
    have ej : j = (us.length : Int) - 1 := by omega
    refine go_iload_n (at_of tX11_drop 0 2 rfl) rfl ?_
    refine go_iconst (at_of tX11_drop 0 3 rfl) (by unfold in32; omega) ?_
    refine go_iadd (at_of tX11_drop 0 4 rfl) (by unfold in32; omega) ?_
    refine go_aload_n (at_of tX11_drop 0 5 rfl) rfl ?_
    refine go_getfD fl_X11_24 rfl (by first | exact hgd | (simp (disch := omega) only [GamD_P1, GamD_M1, GamD_R1, GamD_dS]; exact hgd)) (at_of tX11_drop 0 6 rfl) ?_
    refine go_icmp_ge (tgt := 32) (at_of tX11_drop 0 7 rfl) (by decide) (fun h9 => ?_) (fun h9 => ?_)
    rotate_left
    · exfalso; omega
    refine go_aload_n (at_of tX11_drop 1 4 rfl) rfl ?_
    refine go_dup (at_of tX11_drop 1 5 rfl) rfl ?_
    refine go_getfD fl_X11_24 rfl (by first | exact hgd | (simp (disch := omega) only [GamD_P1, GamD_M1, GamD_R1, GamD_dS]; exact hgd)) (at_of tX11_drop 1 6 rfl) ?_
    rw [hn9]
    refine go_iconst (at_of tX11_drop 1 7 rfl) (by unfold in32; omega) ?_
    refine go_isub (at_of tX11_drop 1 8 rfl) (by unfold in32; omega) ?_
    refine go_put1D fp_X11_24 rfl (Or.inl rfl) (by first | exact hgd | (simp (disch := omega) only [GamD_P1, GamD_M1, GamD_R1, GamD_dS]; exact hgd)) (Or.inl (Or.inl rfl)) (at_of tX11_drop 1 9 rfl) ?_
    exact go_retv (at_of tX11_drop 1 10 rfl) (by rw [ej]; rfl)
  | succ m ih =>
    intro b j hj hm
    have hn9 := hn' j
    obtain ⟨u, v, hu1, hv1, hvd, hud, hpu, hgu, hl0, hl1, hl2, hvw, hum, hu9, hult⟩ := h.unit (i := j + 1) (by omega) (by omega)
    have hpu' : (dS σ U k j).2.1 U (j + 1).toNat = some u := (dS_at (by omega)).trans hpu
    refine go_iload_n (at_of tX11_drop 0 2 rfl) rfl ?_
    refine go_iconst (at_of tX11_drop 0 3 rfl) (by unfold in32; omega) ?_
    refine go_iadd (at_of tX11_drop 0 4 rfl) (by unfold in32; omega) ?_
    refine go_aload_n (at_of tX11_drop 0 5 rfl) rfl ?_
    refine go_getfD fl_X11_24 rfl (by first | exact hgd | (simp (disch := omega) only [GamD_P1, GamD_M1, GamD_R1, GamD_dS]; exact hgd)) (at_of tX11_drop 0 6 rfl) ?_
    refine go_icmp_ge (tgt := 32) (at_of tX11_drop 0 7 rfl) (by decide) (fun h9 => ?_) (fun h9 => ?_)
    · exfalso; omega
    refine go_aload_n (at_of tX11_drop 0 8 rfl) rfl ?_
    refine go_getrD (q := U) fl_X11_9 rfl (by first | exact hgd | (simp (disch := omega) only [GamD_P1, GamD_M1, GamD_R1, GamD_dS]; exact hgd)) (by exact hpU' _) (at_of tX11_drop 0 9 rfl) ?_
    refine go_iload_n (at_of tX11_drop 0 10 rfl) rfl ?_
    refine go_aload_n (at_of tX11_drop 0 11 rfl) rfl ?_
    refine go_getrD (q := U) fl_X11_9 rfl (by first | exact hgd | (simp (disch := omega) only [GamD_P1, GamD_M1, GamD_R1, GamD_dS]; exact hgd)) (by exact hpU' _) (at_of tX11_drop 0 12 rfl) ?_
    refine go_iload_n (at_of tX11_drop 0 13 rfl) rfl ?_
    refine go_iconst (at_of tX11_drop 0 14 rfl) (by unfold in32; omega) ?_
    refine go_iadd (at_of tX11_drop 0 15 rfl) (by unfold in32; omega) ?_
    refine go_aaldD (by first | exact hgU | (simp (disch := omega) only [GamD_P1, GamD_M1, GamD_R1, GamD_dS]; exact hgU)) (Or.inl rfl) (by omega) (by omega) hpu' (at_of tX11_drop 1 0 rfl) ?_
    refine go_aast1D (by first | exact hgU | (simp (disch := omega) only [GamD_P1, GamD_M1, GamD_R1, GamD_dS]; exact hgU)) (Or.inl rfl) (by omega) (by omega) (by first | exact hgu | (simp (disch := omega) only [GamD_P1, GamD_M1, GamD_R1, GamD_dS]; exact hgu)) (at_of tX11_drop 1 1 rfl) ?_
    rw [dS_s hk.1 hj hpu]
    refine go_iinc (at_of tX11_drop 1 2 rfl) rfl (by unfold in32; omega) rfl rfl ?_
    refine go_goto (tgt := 2) (at_of tX11_drop 1 3 rfl) (by decide) ?_
    exact ih _ (j + 1) (by omega) (by omega)
theorem con_dropD (h : DocR σ d U A S us vs ch au sg) {k : Int} (hk : 0 ≤ k ∧ k < us.length) : Con 0 mX11_drop 0 0 [vA d, vI k] σ (vT 8 0, drD σ d U k us.length) := by
  refine con_of_go mfX11_drop.1 trivial (Nat.le_of_ble_eq_true rfl) rfl (by decide) ?_
  show Go _ _ _ _ 0 [vA _, vI _, vT 9 0] [] _ _
  refine go_iload_n (at_of tX11_drop 0 0 rfl) rfl ?_
  refine go_istore_n (at_of tX11_drop 0 1 rfl) rfl rfl ?_
  have h9 := lp_drop h hk (us.length - 1 - k.toNat) (0, 0) k (Int.le_refl _) (by omega)
  rw [dS_0] at h9
  exact h9

theorem uv_eq {σ σ' : St} {u : Nat} (h : ∀ j, σ'.1 u j = σ.1 u j) : uv σ' u = uv σ u := by
  unfold uv
  rw [h, h, h]
theorem mem_erase {α : Type} {l : List α} {k : Nat} {x : α} (h : x ∈ l.eraseIdx k) : x ∈ l := (List.eraseIdx_sublist l k).mem h
theorem map_erase {α β : Type} {f : α → β} : ∀ {l : List α} {k : Nat}, (l.eraseIdx k).map f = (l.map f).eraseIdx k
  | [], k => rfl
  | a :: l, 0 => rfl
  | a :: l, k + 1 => by
    rw [List.eraseIdx_cons_succ, List.map_cons, List.map_cons, List.eraseIdx_cons_succ, map_erase]
theorem DocR.drop (h : DocR σ d U A S us vs ch au sg) {k : Int} (hk : 0 ≤ k ∧ k < us.length) : DocR (drD σ d U k us.length) d U A S (us.eraseIdx k.toNat) (vs.eraseIdx k.toNat) ch au sg ∧ OutD σ (drD σ d U k us.length) (fun x => x = d ∨ x = U) := by
  obtain ⟨⟨n1, n2, n3, n4, n5, n6⟩, nu⟩ := h.ne
  obtain ⟨⟨⟨g1, g2, g3, g4⟩, ⟨p1, p2, p3⟩, ge, ⟨l1, l2, l3, l4⟩⟩, ⟨u1, u2, u3, u4, u5⟩, hv, hw, c1, c2, c3⟩ := h
  have gam : ∀ x, GamD (drD σ d U k us.length) x = GamD σ x := fun x => (GamD_P1 (by decide)).trans GamD_dS
  have v0 : ∀ x j, x ≠ d ∨ j ≠ 0 → (drD σ d U k us.length).1 x j = σ.1 x j := fun x j hx => if_neg (fun z => by rcases hx with hx | hx; exact hx z.1; exact hx z.2)
  have r0 : ∀ x j, x ≠ U → (drD σ d U k us.length).2.1 x j = σ.2.1 x j := fun x j hx => dS_ne hx
  have hlen : (us.eraseIdx k.toNat).length = us.length - 1 := by rw [List.length_eraseIdx, if_pos (by omega)]
  refine ⟨⟨⟨⟨(gam _).trans g1, (gam _).trans g2, (gam _).trans g3, (gam _).trans g4⟩, ⟨(r0 _ _ n1).trans p1, (r0 _ _ n1).trans p2, (r0 _ _ n1).trans p3⟩, ge, l1, l2, l3, l4⟩, ⟨?_, by omega, fun i hi => ?_, List.Nodup.sublist (List.eraseIdx_sublist _ _) u4, fun u hu => ?_⟩, ?_, fun v hv9 => hw v (mem_erase hv9), (v0 _ _ (Or.inr (by decide))).trans c1, c2, fun c h0 h1 => ?_⟩, ⟨Nat.le_refl _, fun x hx hn => ⟨fun j => v0 x j (Or.inl fun z => hn (Or.inl z)), fun j => r0 x j fun z => hn (Or.inr z)⟩⟩⟩
  · rw [hlen]
    show (P1 _ d 0 _).1 d 0 = _
    rw [P1_eq]
    omega
  · show (if U = U ∧ k.toNat ≤ i ∧ i < ((us.length : Int) - 1).toNat then σ.2.1 U (i + 1) else σ.2.1 U i) = _
    rw [List.getElem?_eraseIdx]
    by_cases hik : i < k.toNat
    · rw [if_neg (by omega), if_pos hik, u3 i (by omega)]
    · rw [if_pos ⟨rfl, by omega, by omega⟩, if_neg hik, u3 (i + 1) (by omega)]
  · obtain ⟨a, b, c⟩ := u5 u (mem_erase hu)
    exact ⟨(gam _).trans a, b, c⟩
  · rw [← hv, ← map_erase]
    exact List.map_congr_left fun u hu => uv_eq fun j => v0 u j (Or.inl (nu u (mem_erase hu)).1)
  · obtain ⟨⟨a, b⟩, c9⟩ := c3 c h0 h1
    exact ⟨⟨(v0 _ _ (Or.inl (Ne.symm n2))).trans a, (v0 _ _ (Or.inl (Ne.symm n3))).trans b⟩, c9⟩
theorem DocR.change (h : DocR σ d U A S us vs ch au sg) {a : Int} (hc : ch < 60) : DocR (chS σ d A S ch a) d U A S us vs (ch + 1) (updZ au ch a) (updZ sg ch 119) ∧ OutD σ (chS σ d A S ch a) (fun x => x = d ∨ x = A ∨ x = S) := by
  obtain ⟨⟨n1, n2, n3, n4, n5, n6⟩, nu⟩ := h.ne
  obtain ⟨⟨⟨g1, g2, g3, g4⟩, ⟨p1, p2, p3⟩, ge, ⟨l1, l2, l3, l4⟩⟩, ⟨u1, u2, u3, u4, u5⟩, hv, hw, c1, c2, c3⟩ := h
  have gam : ∀ x, GamD (chS σ d A S ch a) x = GamD σ x := fun x => (GamD_P1 (by decide)).trans ((GamD_M1 (by omega)).trans (GamD_M1 (by omega)))
  have v0 : ∀ x j, x ≠ d → x ≠ A → x ≠ S → (chS σ d A S ch a).1 x j = σ.1 x j := fun x j h1 h2 h3 => (P1_ne h1).trans ((M1_ne h3).trans (M1_ne h2))
  have eA : ∀ j, (chS σ d A S ch a).1 A j = if j = ch.toNat then a else σ.1 A j := fun j => by
    refine (P1_ne (Ne.symm n2)).trans ((M1_ne n6).trans ?_)
    show (if A = A ∧ j = ch.toNat then a else σ.1 A j) = _
    by_cases hj : j = ch.toNat
    · rw [if_pos ⟨rfl, hj⟩, if_pos hj]
    · rw [if_neg (fun z => hj z.2), if_neg hj]
  have eS : ∀ j, (chS σ d A S ch a).1 S j = if j = ch.toNat then 119 else σ.1 S j := fun j => by
    refine (P1_ne (Ne.symm n3)).trans ?_
    show (if S = S ∧ j = ch.toNat then 119 else (M1 σ A ch a).1 S j) = _
    by_cases hj : j = ch.toNat
    · rw [if_pos ⟨rfl, hj⟩, if_pos hj]
    · rw [if_neg (fun z => hj z.2), if_neg hj, M1_ne (Ne.symm n6)]
  refine ⟨⟨⟨⟨(gam _).trans g1, (gam _).trans g2, (gam _).trans g3, (gam _).trans g4⟩, ⟨p1, p2, p3⟩, ge, l1, l2, l3, l4⟩, ⟨?_, u2, u3, u4, fun u hu => ?_⟩, ?_, fun v hv9 => ?_, P1_eq, ⟨by omega, by omega⟩, fun c h0 h1 => ?_⟩, ⟨Nat.le_refl _, fun x hx hn => ⟨fun j => v0 x j (fun z => hn (Or.inl z)) (fun z => hn (Or.inr (Or.inl z))) (fun z => hn (Or.inr (Or.inr z))), fun j => rfl⟩⟩⟩
  · refine ((P1_nj (by decide)).trans ((M1_ne n3).trans (M1_ne n2))).trans u1
  · obtain ⟨a, b, c⟩ := u5 u hu
    exact ⟨(gam _).trans a, b, c⟩
  · rw [← hv]
    exact List.map_congr_left fun u hu => uv_eq fun j => v0 u j (nu u hu).1 (nu u hu).2.2.1 (nu u hu).2.2.2
  · obtain ⟨a, b, c⟩ := hw v hv9
    exact ⟨a, ⟨b.1, by omega⟩, c.1, by omega⟩
  · rw [eA, eS]
    unfold updZ
    by_cases hcc : c = ch
    · subst hcc
      rw [if_pos rfl, if_pos rfl, if_pos rfl, if_pos rfl]
      exact ⟨⟨rfl, rfl⟩, by decide, by decide⟩
    · rw [if_neg (show ¬ c.toNat = ch.toNat by omega), if_neg (show ¬ c.toNat = ch.toNat by omega), if_neg hcc, if_neg hcc]
      exact c3 c h0 (by omega)
end Doc2
