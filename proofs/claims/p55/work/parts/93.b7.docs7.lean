/-! A change judged. -/
section Doc7
variable {σ σ' τ τ' : St} {d U A S : Nat} {us : List Nat} {vs : List Un} {ch : Int} {au sg : Int → Int}
/-- a unit, a change judged -/
def jV (c : Int) (v : Un) : Un := (v.1, if v.2.1 = c then -1 else v.2.1, if v.2.2 = c then -1 else v.2.2)
def jG (c : Int) (acc : Bool) (v : Un) : Bool := if acc = true then decide (v.2.2 = c) else decide (v.2.1 = c)
def jD (c : Int) (acc : Bool) : List Un → List Un
  | [] => []
  | v :: t => if jG c acc v = true then jD c acc t else jV c v :: jD c acc t
theorem eraseMid {α : Type} {l r : List α} {x : α} : ∀ {k : Nat}, l.length = k → (l ++ x :: r).eraseIdx k = l ++ r := by
  intro k hk
  subst hk
  induction l with
  | nil => rfl
  | cons a l ih => rw [List.cons_append, List.length_cons, List.eraseIdx_cons_succ, ih]; rfl
theorem getMid {α : Type} {l r : List α} {x : α} {k : Nat} (hk : l.length = k) : (l ++ x :: r)[k]? = some x := by
  rw [List.getElem?_append_right (by omega), hk, Nat.sub_self]
  rfl
theorem takeS {α : Type} {l : List α} {k : Nat} {x : α} (h : l[k]? = some x) : l.take (k + 1) = l.take k ++ [x] := by
  rw [List.take_add_one, h]
  rfl
/-- one unit's numbers change -/
theorem DocR.setV {pre post : List Nat} {u : Nat} {vpre vpost : List Un} {v w : Un} (h : DocR σ d U A S (pre ++ u :: post) (vpre ++ v :: vpost) ch au sg) (hl : pre.length = vpre.length) (e2 : τ.2 = σ.2) (hv : ∀ x j, x ≠ u → τ.1 x j = σ.1 x j) (hg : ∀ x, GamD τ x = GamD σ x) (hu : uv τ u = w) (hw : UnW ch w) : DocR τ d U A S (pre ++ u :: post) (vpre ++ w :: vpost) ch au sg ∧ OutD σ τ (fun x => x = u) := by
  obtain ⟨-, nu⟩ := h.ne
  obtain ⟨m1, m2, m3, m4⟩ := nu u (List.mem_append_right _ List.mem_cons_self)
  obtain ⟨hT, ⟨u1, u2, u3, u4, u5⟩, hvs, hW, c1, c2, c3⟩ := h
  rw [List.map_append, List.map_cons] at hvs
  obtain ⟨q1, q2⟩ := List.append_inj hvs (by rw [List.length_map]; exact hl)
  obtain ⟨q3, q4⟩ := List.cons.inj q2
  have q := List.nodup_append.mp u4
  have nd := List.nodup_cons.mp q.2.1
  refine ⟨⟨hT.same e2 hg, ⟨(hv _ _ (Ne.symm m1)).trans u1, u2, fun i hi => by rw [e2]; exact u3 i hi, u4, fun x hx => ?_⟩, ?_, fun x hx => ?_, (hv _ _ (Ne.symm m1)).trans c1, c2, fun c h0 h1 => ?_⟩, ⟨by rw [e2]; exact Nat.le_refl _, fun x hx hn => ⟨fun j => hv x j hn, fun j => by rw [e2]⟩⟩⟩
  · obtain ⟨a, b, c⟩ := u5 x hx
    exact ⟨(hg _).trans a, b, by rw [e2]; exact c⟩
  · rw [List.map_append, List.map_cons, hu, ← q1, ← q4]
    congr 1
    · exact List.map_congr_left fun x hx => uv_eq fun j => hv x j (fun e => q.2.2 x hx u List.mem_cons_self e)
    · congr 1
      exact List.map_congr_left fun x hx => uv_eq fun j => hv x j (fun e => nd.1 (e ▸ hx))
  · rcases List.mem_append.mp hx with hx | hx
    · exact hW x (List.mem_append_left _ hx)
    · rcases List.mem_cons.mp hx with rfl | hx
      · exact hw
      · exact hW x (List.mem_append_right _ (List.mem_cons_of_mem _ hx))
  · obtain ⟨⟨a, b⟩, c9⟩ := c3 c h0 h1
    exact ⟨⟨(hv _ _ (Ne.symm m3)).trans a, (hv _ _ (Ne.symm m4)).trans b⟩, c9⟩
theorem jV_w {c : Int} {v : Un} (h : UnW ch v) (hc : 0 ≤ c) : UnW ch (jV c v) := by
  obtain ⟨a, b, e⟩ := h
  unfold jV
  refine ⟨a, ?_, ?_⟩
  · show -1 ≤ (if v.2.1 = c then -1 else v.2.1) ∧ (if v.2.1 = c then -1 else v.2.1) < ch
    split <;> omega
  · show -1 ≤ (if v.2.2 = c then -1 else v.2.2) ∧ (if v.2.2 = c then -1 else v.2.2) < ch
    split <;> omega
/-- a judging under way: what stands at k and behind is judged -/
def JI (σ : St) (d U A S : Nat) (us : List Nat) (vs : List Un) (ch : Int) (au sg : Int → Int) (c : Int) (acc : Bool) (k : Nat) (τ : St) : Prop := ∃ us1, DocR τ d U A S (us.take k ++ us1) (vs.take k ++ jD c acc (vs.drop k)) ch au sg ∧ (∀ u ∈ us1, u ∈ us) ∧ OutD σ τ (fun x => x = d ∨ x = U ∨ x ∈ us) ∧ τ.2.2 = σ.2.2
/-- the unit's two numbers put -/
def jS (τ : St) (u : Nat) (w e : Int) : St := P1 (P1 τ u 1 w) u 2 e
theorem jS_v {u : Nat} {w e : Int} : uv (jS τ u w e) u = (τ.1 u 0, w, e) := by
  unfold uv
  refine Prod.ext ?_ (Prod.ext ?_ ?_)
  · exact (P1_nj (by decide)).trans (P1_nj (by decide))
  · exact (P1_nj (by decide)).trans P1_eq
  · exact P1_eq
theorem JI.split {c : Int} {acc : Bool} {k : Nat} (h : DocR σ d U A S us vs ch au sg) (hI : JI σ d U A S us vs ch au sg c acc (k + 1) τ) (hk : k < us.length) (hc : 0 ≤ c) : ∃ (u : Nat) (v : Un) (us1 : List Nat), vs[k]? = some v ∧ UnW ch v ∧ u ∈ us ∧ u < τ.2.2 ∧ GamD τ u = (22, 0) ∧ τ.2.1 U k = some u ∧ τ.1 u 1 = v.2.1 ∧ τ.1 u 2 = v.2.2 ∧ (∀ w e, w = (jV c v).2.1 → e = (jV c v).2.2 → DocR (jS τ u w e) d U A S (us.take k ++ u :: us1) (vs.take k ++ jV c v :: jD c acc (vs.drop (k + 1))) ch au sg) ∧
    (jG c acc v = false → ∀ w e, w = (jV c v).2.1 → e = (jV c v).2.2 → JI σ d U A S us vs ch au sg c acc k (jS τ u w e)) ∧ (jG c acc v = true → ∀ w e, w = (jV c v).2.1 → e = (jV c v).2.2 → JI σ d U A S us vs ch au sg c acc k (drD (jS τ u w e) d U k (us.take k ++ u :: us1).length)) ∧ (us.take k).length = k := by
  obtain ⟨us1, hD, hm, hO, h22⟩ := hI
  have hlv := h.len
  obtain ⟨u0, v, -, hv0, -⟩ := h.unit (i := (k : Int)) (by omega) (by omega)
  have hv : vs[k]? = some v := hv0
  have hu : us[k]? = some us[k] := List.getElem?_eq_getElem hk
  have lu : (us.take k).length = k := by rw [List.length_take]; omega
  have lv : (vs.take k).length = k := by rw [List.length_take]; omega
  have hvd : vs.drop k = v :: vs.drop (k + 1) := by
    rw [List.drop_eq_getElem_cons (by omega)]
    congr 1
    rw [List.getElem?_eq_getElem (by omega)] at hv
    exact Option.some.inj hv
  rw [takeS hu, takeS hv, List.append_assoc, List.append_assoc] at hD
  have hD : DocR τ d U A S (us.take k ++ us[k] :: us1) (vs.take k ++ v :: jD c acc (vs.drop (k + 1))) ch au sg := hD
  have hul : us[k] ∈ us := List.getElem_mem hk
  have hlen : (us.take k ++ us[k] :: us1).length = k + 1 + us1.length := by
    rw [List.length_append, List.length_cons, lu]
    omega
  obtain ⟨u2, v2, e1, e2, -, -, e5, e6, e7, e8, e9, e10, e11, e12, e13⟩ := hD.unit (i := (k : Int)) (by omega) (by omega)
  have e1 : (us.take k ++ us[k] :: us1)[k]? = some u2 := e1
  have e2 : (vs.take k ++ v :: jD c acc (vs.drop (k + 1)))[k]? = some v2 := e2
  rw [getMid lu] at e1
  rw [getMid lv] at e2
  cases e1
  cases e2
  have setD : ∀ w e, w = (jV c v).2.1 → e = (jV c v).2.2 → DocR (jS τ us[k] w e) d U A S (us.take k ++ us[k] :: us1) (vs.take k ++ jV c v :: jD c acc (vs.drop (k + 1))) ch au sg ∧ OutD τ (jS τ us[k] w e) (fun x => x = us[k]) := by
    intro w e hw he
    refine hD.setV (τ := jS τ us[k] w e) (by rw [lu, lv]) rfl (fun x j hx => (P1_ne hx).trans (P1_ne hx)) (fun x => (GamD_P1 (by decide)).trans (GamD_P1 (by decide))) ?_ (jV_w e10 hc)
    rw [jS_v, hw, he, e7]
    rfl
  have hO2 : ∀ {τ3 : St} {P : Nat → Prop}, OutD τ τ3 P → (∀ x, P x → x = d ∨ x = U ∨ x ∈ us) → OutD σ τ3 (fun x => x = d ∨ x = U ∨ x ∈ us) := fun h1 h2 => (hO.trans h1).mono (fun x _ hx => hx.elim (fun z => z) (h2 x))
  refine ⟨us[k], v, us1, hv, e10, hul, e13, e6, e5, e8, e9, fun w e hw he => (setD w e hw he).1, fun hj w e hw he => ?_, fun hj w e hw he => ?_, lu⟩
  · obtain ⟨a, b⟩ := setD w e hw he
    refine ⟨us[k] :: us1, ?_, fun x hx => ?_, hO2 b (fun x hx => Or.inr (Or.inr (by rw [hx]; exact hul))), h22⟩
    · rw [hvd, jD, if_neg (by rw [hj]; decide)]
      exact a
    · rcases List.mem_cons.mp hx with rfl | hx
      · exact hul
      · exact hm x hx
  · obtain ⟨a, b⟩ := setD w e hw he
    obtain ⟨c1, c2⟩ := a.drop (k := (k : Int)) ⟨by omega, by omega⟩
    have c1 : DocR _ d U A S ((us.take k ++ us[k] :: us1).eraseIdx k) ((vs.take k ++ jV c v :: jD c acc (vs.drop (k + 1))).eraseIdx k) ch au sg := c1
    rw [eraseMid lu, eraseMid lv] at c1
    refine ⟨us1, ?_, hm, hO2 (b.trans c2) (fun x hx => ?_), h22⟩
    · rw [hvd, jD, if_pos hj]
      exact c1
    · rcases hx with hx | hx | hx
      · exact Or.inr (Or.inr (by rw [hx]; exact hul))
      · exact Or.inl hx
      · exact Or.inr (Or.inl hx)
theorem lp_judge (h : DocR σ d U A S us vs ch au sg) {c q : Int} {acc : Bool} (hc : 0 ≤ c) : ∀ (m : Nat) (τ : St), JI σ d U A S us vs ch au sg c acc m τ → m ≤ us.length → ∃ τf, JI σ d U A S us vs ch au sg c acc 0 τf ∧ ∀ (b : Nat × Nat) (out : MV × St) (v5 v6 : MV), (∀ (b2 : Nat × Nat) (v5 v6 : MV), Go (fun _ => 0) 1 mX11_judge b2 128 [vA d, vI c, vI (bI (acc = true)), vI q, vI (-1), v5, v6] [] τf out) → Go (fun _ => 0) 1 mX11_judge b 14 [vA d, vI c, vI (bI (acc = true)), vI q, vI ((m : Int) - 1), v5, v6] [] τ out := by
  intro m
  obtain ⟨⟨⟨hgd, hgU, hgA, hgS⟩, ⟨hpU, hpA, hpS⟩, hge, ⟨hlt1, hlt2, hlt3, hlt4⟩⟩, ⟨hn, hn2, -, -, -⟩, -, -, hch, hch2, hcl⟩ := id h
  induction m with
  | zero =>
    intro τ hI hm
    refine ⟨τ, hI, fun b out v5 v6 K => ?_⟩
    refine go_iload (at_of tX11_judge 0 9 rfl) rfl rfl ?_
    refine go_if_lt (tgt := 128) (at_of tX11_judge 0 10 rfl) (by decide) (fun h16 => ?_) (fun h16 => ?_)
    rotate_left
    · exfalso; omega
    exact K _ _ _
  | succ k ih =>
    intro τ hI hm
    rw [show ((k + 1 : Nat) : Int) - 1 = (k : Int) by omega]
    obtain ⟨u, v, us1, t1, t2, t3, t4, hgu, t6, t7, t8, tD, tN, tY, tl⟩ := hI.split h (by omega) hc
    obtain ⟨W, hW⟩ : ∃ z, z = (jV c v).2.1 := ⟨_, rfl⟩
    obtain ⟨E, hE⟩ : ∃ z, z = (jV c v).2.2 := ⟨_, rfl⟩
    have hD2 := tD W E hW hE
    obtain ⟨⟨⟨hgd1, hgU1, hgA1, hgS1⟩, ⟨hpU1, hpA1, hpS1⟩, -⟩, -⟩ := id hD2
    have hgd1 : GamD τ d = (21, 0) := by rw [← hgd1]; exact ((GamD_P1 (by decide)).trans (GamD_P1 (by decide))).symm
    have hgU1 : GamD τ U = (3, 210) := by rw [← hgU1]; exact ((GamD_P1 (by decide)).trans (GamD_P1 (by decide))).symm
    have hln : (us.take k ++ u :: us1).length = k + 1 + us1.length := by rw [List.length_append, List.length_cons, tl]; omega
    have hlx : us.length ≤ 200 := hn2
    by_cases hj : jG c acc v = true
    · obtain ⟨τf, k1, k2⟩ := ih _ (tY hj W E hW hE) (by omega)
      obtain ⟨G, hG⟩ : ∃ z : Int, z = 1 := ⟨_, rfl⟩
      have hjj := hj
      unfold jG at hjj
      refine ⟨τf, k1, fun b out v5 v6 K => ?_⟩
      have K111 : ∀ b : Nat × Nat, Go (fun _ => 0) 1 mX11_judge b 111 [vA d, vI c, vI (bI (acc = true)), vI q, vI (k : Int), vA u, vI G] [] (jS τ u W E) out := by
        intro b
        refine go_iload (at_of tX11_judge 3 6 rfl) rfl rfl ?_
        refine go_if_eq (tgt := 122) (at_of tX11_judge 3 7 rfl) (by decide) (fun h113 => ?_) (fun h113 => ?_)
        · exfalso; omega
        refine go_aload_n (at_of tX11_judge 3 8 rfl) rfl ?_
        refine go_iload (at_of tX11_judge 3 9 rfl) rfl rfl ?_
        refine go_cVD (con_dropD hD2 ⟨by omega, by rw [hln]; omega⟩) lk_X11_51 rfl (by exact hD2.1.1.1) (at_of tX11_judge 3 10 rfl) rfl (by decide) rfl (Nat.le_of_ble_eq_true rfl) rfl (⟨by omega, by omega⟩) ?_
        refine go_iinc (at_of tX11_judge 3 11 rfl) rfl (by unfold in32; omega) rfl rfl ?_
        refine go_goto (tgt := 14) (at_of tX11_judge 3 12 rfl) (by decide) ?_
        exact k2 _ _ _ _ K
      have K88 : ∀ b : Nat × Nat, Go (fun _ => 0) 1 mX11_judge b 88 [vA d, vI c, vI (bI (acc = true)), vI q, vI (k : Int), vA u, vI G] [] (P1 τ u 1 W) out := by
        intro b
        refine go_aload (at_of tX11_judge 2 12 rfl) rfl ?_
        refine go_aload (at_of tX11_judge 2 13 rfl) rfl ?_
        refine go_getfD fl_X11_35 rfl (by exact (GamD_P1 (by decide)).trans hgu) (at_of tX11_judge 2 14 rfl) ?_
        refine go_iload_n (at_of tX11_judge 2 15 rfl) rfl ?_
        refine go_icmp_ne (tgt := 103) (at_of tX11_judge 3 0 rfl) (by decide) (fun h96 => ?_) (fun h96 => ?_)
        · refine go_aload (at_of tX11_judge 3 3 rfl) rfl ?_
          refine go_getfD fl_X11_35 rfl (by exact (GamD_P1 (by decide)).trans hgu) (at_of tX11_judge 3 4 rfl) ?_
          refine go_put1D fp_X11_35 rfl (Or.inl rfl) (by exact (GamD_P1 (by decide)).trans hgu) (Or.inl (Or.inl rfl)) (at_of tX11_judge 3 5 rfl) ?_
          first
          | (have e9 : E = -1 := by rw [hE]; exact if_pos (by rw [P1_nj (by decide)] at h96; omega)
             rw [e9] at K111
             exact K111 _)
          | (have e9 : E = (P1 τ u 1 W).1 u 2 := by rw [hE, P1_nj (by decide), t8]; exact if_neg (by rw [P1_nj (by decide)] at h96; omega)
             rw [e9] at K111
             exact K111 _)
        · refine go_iconst (at_of tX11_judge 3 1 rfl) (by unfold in32; omega) ?_
          refine go_goto (tgt := 108) (at_of tX11_judge 3 2 rfl) (by decide) ?_
          refine go_put1D fp_X11_35 rfl (Or.inl rfl) (by exact (GamD_P1 (by decide)).trans hgu) (Or.inl (Or.inl rfl)) (at_of tX11_judge 3 5 rfl) ?_
          first
          | (have e9 : E = -1 := by rw [hE]; exact if_pos (by rw [P1_nj (by decide)] at h96; omega)
             rw [e9] at K111
             exact K111 _)
          | (have e9 : E = (P1 τ u 1 W).1 u 2 := by rw [hE, P1_nj (by decide), t8]; exact if_neg (by rw [P1_nj (by decide)] at h96; omega)
             rw [e9] at K111
             exact K111 _)
      have K65 : ∀ b : Nat × Nat, Go (fun _ => 0) 1 mX11_judge b 65 [vA d, vI c, vI (bI (acc = true)), vI q, vI (k : Int), vA u, vI G] [] τ out := by
        intro b
        refine go_aload (at_of tX11_judge 2 2 rfl) rfl ?_
        refine go_aload (at_of tX11_judge 2 3 rfl) rfl ?_
        refine go_getfD fl_X11_42 rfl (by first | exact hgu | (simp (disch := omega) only [GamD_P1, GamD_M1, GamD_R1]; exact hgu)) (at_of tX11_judge 2 4 rfl) ?_
        refine go_iload_n (at_of tX11_judge 2 5 rfl) rfl ?_
        refine go_icmp_ne (tgt := 80) (at_of tX11_judge 2 6 rfl) (by decide) (fun h73 => ?_) (fun h73 => ?_)
        · refine go_aload (at_of tX11_judge 2 9 rfl) rfl ?_
          refine go_getfD fl_X11_42 rfl (by first | exact hgu | (simp (disch := omega) only [GamD_P1, GamD_M1, GamD_R1]; exact hgu)) (at_of tX11_judge 2 10 rfl) ?_
          refine go_put1D fp_X11_42 rfl (Or.inl rfl) (by first | exact hgu | (simp (disch := omega) only [GamD_P1, GamD_M1, GamD_R1]; exact hgu)) (Or.inl (Or.inl rfl)) (at_of tX11_judge 2 11 rfl) ?_
          first
          | (have e9 : W = -1 := by rw [hW]; exact if_pos (by omega)
             rw [e9] at K88
             exact K88 _)
          | (have e9 : W = τ.1 u 1 := by rw [hW, t7]; exact if_neg (by omega)
             rw [e9] at K88
             exact K88 _)
        · refine go_iconst (at_of tX11_judge 2 7 rfl) (by unfold in32; omega) ?_
          refine go_goto (tgt := 85) (at_of tX11_judge 2 8 rfl) (by decide) ?_
          refine go_put1D fp_X11_42 rfl (Or.inl rfl) (by first | exact hgu | (simp (disch := omega) only [GamD_P1, GamD_M1, GamD_R1]; exact hgu)) (Or.inl (Or.inl rfl)) (at_of tX11_judge 2 11 rfl) ?_
          first
          | (have e9 : W = -1 := by rw [hW]; exact if_pos (by omega)
             rw [e9] at K88
             exact K88 _)
          | (have e9 : W = τ.1 u 1 := by rw [hW, t7]; exact if_neg (by omega)
             rw [e9] at K88
             exact K88 _)
      refine go_iload (at_of tX11_judge 0 9 rfl) rfl rfl ?_
      refine go_if_lt (tgt := 128) (at_of tX11_judge 0 10 rfl) (by decide) (fun h16 => ?_) (fun h16 => ?_)
      · exfalso; omega
      refine go_aload_n (at_of tX11_judge 0 11 rfl) rfl ?_
      refine go_getrD (q := U) fl_X11_9 rfl (by first | exact hgd1 | (simp (disch := omega) only [GamD_P1, GamD_M1, GamD_R1]; exact hgd1)) hpU1 (at_of tX11_judge 0 12 rfl) ?_
      refine go_iload (at_of tX11_judge 0 13 rfl) rfl rfl ?_
      refine go_aaldD (by first | exact hgU1 | (simp (disch := omega) only [GamD_P1, GamD_M1, GamD_R1]; exact hgU1)) (Or.inl rfl) (by omega) (by omega) t6 (at_of tX11_judge 0 14 rfl) ?_
      refine go_astore (at_of tX11_judge 0 15 rfl) rfl rfl ?_
      refine go_iload_n (at_of tX11_judge 1 0 rfl) rfl ?_
      refine go_if_eq (tgt := 49) (at_of tX11_judge 1 1 rfl) (by decide) (fun h29 => ?_) (fun h29 => ?_)
      · refine go_aload (at_of tX11_judge 1 10 rfl) rfl ?_
        refine go_getfD fl_X11_42 rfl (by first | exact hgu | (simp (disch := omega) only [GamD_P1, GamD_M1, GamD_R1]; exact hgu)) (at_of tX11_judge 1 11 rfl) ?_
        refine go_iload_n (at_of tX11_judge 1 12 rfl) rfl ?_
        refine go_icmp_ne (tgt := 62) (at_of tX11_judge 1 13 rfl) (by decide) (fun h55 => ?_) (fun h55 => ?_)
        · refine go_iconst (at_of tX11_judge 2 0 rfl) (by unfold in32; omega) ?_
          refine go_istore (at_of tX11_judge 2 1 rfl) rfl rfl ?_
          first
          | (rw [hG] at K65; exact K65 _)
          | (exfalso
             by_cases ha : acc = true
             · rw [if_pos ha, decide_eq_true_eq] at hjj
               first | (exact absurd (bI_0.mp h29) (by rw [ha]; decide)) | omega
             · rw [if_neg ha, decide_eq_true_eq] at hjj
               first | (exact absurd (bI_1.mp h29) ha) | omega)
        · refine go_iconst (at_of tX11_judge 1 14 rfl) (by unfold in32; omega) ?_
          refine go_goto (tgt := 63) (at_of tX11_judge 1 15 rfl) (by decide) ?_
          refine go_istore (at_of tX11_judge 2 1 rfl) rfl rfl ?_
          first
          | (rw [hG] at K65; exact K65 _)
          | (exfalso
             by_cases ha : acc = true
             · rw [if_pos ha, decide_eq_true_eq] at hjj
               first | (exact absurd (bI_0.mp h29) (by rw [ha]; decide)) | omega
             · rw [if_neg ha, decide_eq_true_eq] at hjj
               first | (exact absurd (bI_1.mp h29) ha) | omega)
      · refine go_aload (at_of tX11_judge 1 2 rfl) rfl ?_
        refine go_getfD fl_X11_35 rfl (by first | exact hgu | (simp (disch := omega) only [GamD_P1, GamD_M1, GamD_R1]; exact hgu)) (at_of tX11_judge 1 3 rfl) ?_
        refine go_iload_n (at_of tX11_judge 1 4 rfl) rfl ?_
        refine go_icmp_ne (tgt := 45) (at_of tX11_judge 1 5 rfl) (by decide) (fun h38 => ?_) (fun h38 => ?_)
        · refine go_iconst (at_of tX11_judge 1 8 rfl) (by unfold in32; omega) ?_
          refine go_goto (tgt := 63) (at_of tX11_judge 1 9 rfl) (by decide) ?_
          refine go_istore (at_of tX11_judge 2 1 rfl) rfl rfl ?_
          first
          | (rw [hG] at K65; exact K65 _)
          | (exfalso
             by_cases ha : acc = true
             · rw [if_pos ha, decide_eq_true_eq] at hjj
               first | (exact absurd (bI_0.mp h29) (by rw [ha]; decide)) | omega
             · rw [if_neg ha, decide_eq_true_eq] at hjj
               first | (exact absurd (bI_1.mp h29) ha) | omega)
        · refine go_iconst (at_of tX11_judge 1 6 rfl) (by unfold in32; omega) ?_
          refine go_goto (tgt := 63) (at_of tX11_judge 1 7 rfl) (by decide) ?_
          refine go_istore (at_of tX11_judge 2 1 rfl) rfl rfl ?_
          first
          | (rw [hG] at K65; exact K65 _)
          | (exfalso
             by_cases ha : acc = true
             · rw [if_pos ha, decide_eq_true_eq] at hjj
               first | (exact absurd (bI_0.mp h29) (by rw [ha]; decide)) | omega
             · rw [if_neg ha, decide_eq_true_eq] at hjj
               first | (exact absurd (bI_1.mp h29) ha) | omega)
    · obtain ⟨τf, k1, k2⟩ := ih _ (tN (Bool.eq_false_iff.mpr hj) W E hW hE) (by omega)
      obtain ⟨G, hG⟩ : ∃ z : Int, z = 0 := ⟨_, rfl⟩
      have hjj := Bool.eq_false_iff.mpr hj
      unfold jG at hjj
      refine ⟨τf, k1, fun b out v5 v6 K => ?_⟩
      have K111 : ∀ b : Nat × Nat, Go (fun _ => 0) 1 mX11_judge b 111 [vA d, vI c, vI (bI (acc = true)), vI q, vI (k : Int), vA u, vI G] [] (jS τ u W E) out := by
        intro b
        refine go_iload (at_of tX11_judge 3 6 rfl) rfl rfl ?_
        refine go_if_eq (tgt := 122) (at_of tX11_judge 3 7 rfl) (by decide) (fun h113 => ?_) (fun h113 => ?_)
        rotate_left
        · exfalso; omega
        refine go_iinc (at_of tX11_judge 3 11 rfl) rfl (by unfold in32; omega) rfl rfl ?_
        refine go_goto (tgt := 14) (at_of tX11_judge 3 12 rfl) (by decide) ?_
        exact k2 _ _ _ _ K
      have K88 : ∀ b : Nat × Nat, Go (fun _ => 0) 1 mX11_judge b 88 [vA d, vI c, vI (bI (acc = true)), vI q, vI (k : Int), vA u, vI G] [] (P1 τ u 1 W) out := by
        intro b
        refine go_aload (at_of tX11_judge 2 12 rfl) rfl ?_
        refine go_aload (at_of tX11_judge 2 13 rfl) rfl ?_
        refine go_getfD fl_X11_35 rfl (by exact (GamD_P1 (by decide)).trans hgu) (at_of tX11_judge 2 14 rfl) ?_
        refine go_iload_n (at_of tX11_judge 2 15 rfl) rfl ?_
        refine go_icmp_ne (tgt := 103) (at_of tX11_judge 3 0 rfl) (by decide) (fun h96 => ?_) (fun h96 => ?_)
        · refine go_aload (at_of tX11_judge 3 3 rfl) rfl ?_
          refine go_getfD fl_X11_35 rfl (by exact (GamD_P1 (by decide)).trans hgu) (at_of tX11_judge 3 4 rfl) ?_
          refine go_put1D fp_X11_35 rfl (Or.inl rfl) (by exact (GamD_P1 (by decide)).trans hgu) (Or.inl (Or.inl rfl)) (at_of tX11_judge 3 5 rfl) ?_
          first
          | (have e9 : E = -1 := by rw [hE]; exact if_pos (by rw [P1_nj (by decide)] at h96; omega)
             rw [e9] at K111
             exact K111 _)
          | (have e9 : E = (P1 τ u 1 W).1 u 2 := by rw [hE, P1_nj (by decide), t8]; exact if_neg (by rw [P1_nj (by decide)] at h96; omega)
             rw [e9] at K111
             exact K111 _)
        · refine go_iconst (at_of tX11_judge 3 1 rfl) (by unfold in32; omega) ?_
          refine go_goto (tgt := 108) (at_of tX11_judge 3 2 rfl) (by decide) ?_
          refine go_put1D fp_X11_35 rfl (Or.inl rfl) (by exact (GamD_P1 (by decide)).trans hgu) (Or.inl (Or.inl rfl)) (at_of tX11_judge 3 5 rfl) ?_
          first
          | (have e9 : E = -1 := by rw [hE]; exact if_pos (by rw [P1_nj (by decide)] at h96; omega)
             rw [e9] at K111
             exact K111 _)
          | (have e9 : E = (P1 τ u 1 W).1 u 2 := by rw [hE, P1_nj (by decide), t8]; exact if_neg (by rw [P1_nj (by decide)] at h96; omega)
             rw [e9] at K111
             exact K111 _)
      have K65 : ∀ b : Nat × Nat, Go (fun _ => 0) 1 mX11_judge b 65 [vA d, vI c, vI (bI (acc = true)), vI q, vI (k : Int), vA u, vI G] [] τ out := by
        intro b
        refine go_aload (at_of tX11_judge 2 2 rfl) rfl ?_
        refine go_aload (at_of tX11_judge 2 3 rfl) rfl ?_
        refine go_getfD fl_X11_42 rfl (by first | exact hgu | (simp (disch := omega) only [GamD_P1, GamD_M1, GamD_R1]; exact hgu)) (at_of tX11_judge 2 4 rfl) ?_
        refine go_iload_n (at_of tX11_judge 2 5 rfl) rfl ?_
        refine go_icmp_ne (tgt := 80) (at_of tX11_judge 2 6 rfl) (by decide) (fun h73 => ?_) (fun h73 => ?_)
        · refine go_aload (at_of tX11_judge 2 9 rfl) rfl ?_
          refine go_getfD fl_X11_42 rfl (by first | exact hgu | (simp (disch := omega) only [GamD_P1, GamD_M1, GamD_R1]; exact hgu)) (at_of tX11_judge 2 10 rfl) ?_
          refine go_put1D fp_X11_42 rfl (Or.inl rfl) (by first | exact hgu | (simp (disch := omega) only [GamD_P1, GamD_M1, GamD_R1]; exact hgu)) (Or.inl (Or.inl rfl)) (at_of tX11_judge 2 11 rfl) ?_
          first
          | (have e9 : W = -1 := by rw [hW]; exact if_pos (by omega)
             rw [e9] at K88
             exact K88 _)
          | (have e9 : W = τ.1 u 1 := by rw [hW, t7]; exact if_neg (by omega)
             rw [e9] at K88
             exact K88 _)
        · refine go_iconst (at_of tX11_judge 2 7 rfl) (by unfold in32; omega) ?_
          refine go_goto (tgt := 85) (at_of tX11_judge 2 8 rfl) (by decide) ?_
          refine go_put1D fp_X11_42 rfl (Or.inl rfl) (by first | exact hgu | (simp (disch := omega) only [GamD_P1, GamD_M1, GamD_R1]; exact hgu)) (Or.inl (Or.inl rfl)) (at_of tX11_judge 2 11 rfl) ?_
          first
          | (have e9 : W = -1 := by rw [hW]; exact if_pos (by omega)
             rw [e9] at K88
             exact K88 _)
          | (have e9 : W = τ.1 u 1 := by rw [hW, t7]; exact if_neg (by omega)
             rw [e9] at K88
             exact K88 _)
      refine go_iload (at_of tX11_judge 0 9 rfl) rfl rfl ?_
      refine go_if_lt (tgt := 128) (at_of tX11_judge 0 10 rfl) (by decide) (fun h16 => ?_) (fun h16 => ?_)
      · exfalso; omega
      refine go_aload_n (at_of tX11_judge 0 11 rfl) rfl ?_
      refine go_getrD (q := U) fl_X11_9 rfl (by first | exact hgd1 | (simp (disch := omega) only [GamD_P1, GamD_M1, GamD_R1]; exact hgd1)) hpU1 (at_of tX11_judge 0 12 rfl) ?_
      refine go_iload (at_of tX11_judge 0 13 rfl) rfl rfl ?_
      refine go_aaldD (by first | exact hgU1 | (simp (disch := omega) only [GamD_P1, GamD_M1, GamD_R1]; exact hgU1)) (Or.inl rfl) (by omega) (by omega) t6 (at_of tX11_judge 0 14 rfl) ?_
      refine go_astore (at_of tX11_judge 0 15 rfl) rfl rfl ?_
      refine go_iload_n (at_of tX11_judge 1 0 rfl) rfl ?_
      refine go_if_eq (tgt := 49) (at_of tX11_judge 1 1 rfl) (by decide) (fun h29 => ?_) (fun h29 => ?_)
      · refine go_aload (at_of tX11_judge 1 10 rfl) rfl ?_
        refine go_getfD fl_X11_42 rfl (by first | exact hgu | (simp (disch := omega) only [GamD_P1, GamD_M1, GamD_R1]; exact hgu)) (at_of tX11_judge 1 11 rfl) ?_
        refine go_iload_n (at_of tX11_judge 1 12 rfl) rfl ?_
        refine go_icmp_ne (tgt := 62) (at_of tX11_judge 1 13 rfl) (by decide) (fun h55 => ?_) (fun h55 => ?_)
        · refine go_iconst (at_of tX11_judge 2 0 rfl) (by unfold in32; omega) ?_
          refine go_istore (at_of tX11_judge 2 1 rfl) rfl rfl ?_
          first
          | (rw [hG] at K65; exact K65 _)
          | (exfalso
             by_cases ha : acc = true
             · rw [if_pos ha, decide_eq_false_iff_not] at hjj
               first | (exact absurd (bI_0.mp h29) (by rw [ha]; decide)) | omega
             · rw [if_neg ha, decide_eq_false_iff_not] at hjj
               first | (exact absurd (bI_1.mp h29) ha) | omega)
        · refine go_iconst (at_of tX11_judge 1 14 rfl) (by unfold in32; omega) ?_
          refine go_goto (tgt := 63) (at_of tX11_judge 1 15 rfl) (by decide) ?_
          refine go_istore (at_of tX11_judge 2 1 rfl) rfl rfl ?_
          first
          | (rw [hG] at K65; exact K65 _)
          | (exfalso
             by_cases ha : acc = true
             · rw [if_pos ha, decide_eq_false_iff_not] at hjj
               first | (exact absurd (bI_0.mp h29) (by rw [ha]; decide)) | omega
             · rw [if_neg ha, decide_eq_false_iff_not] at hjj
               first | (exact absurd (bI_1.mp h29) ha) | omega)
      · refine go_aload (at_of tX11_judge 1 2 rfl) rfl ?_
        refine go_getfD fl_X11_35 rfl (by first | exact hgu | (simp (disch := omega) only [GamD_P1, GamD_M1, GamD_R1]; exact hgu)) (at_of tX11_judge 1 3 rfl) ?_
        refine go_iload_n (at_of tX11_judge 1 4 rfl) rfl ?_
        refine go_icmp_ne (tgt := 45) (at_of tX11_judge 1 5 rfl) (by decide) (fun h38 => ?_) (fun h38 => ?_)
        · refine go_iconst (at_of tX11_judge 1 8 rfl) (by unfold in32; omega) ?_
          refine go_goto (tgt := 63) (at_of tX11_judge 1 9 rfl) (by decide) ?_
          refine go_istore (at_of tX11_judge 2 1 rfl) rfl rfl ?_
          first
          | (rw [hG] at K65; exact K65 _)
          | (exfalso
             by_cases ha : acc = true
             · rw [if_pos ha, decide_eq_false_iff_not] at hjj
               first | (exact absurd (bI_0.mp h29) (by rw [ha]; decide)) | omega
             · rw [if_neg ha, decide_eq_false_iff_not] at hjj
               first | (exact absurd (bI_1.mp h29) ha) | omega)
        · refine go_iconst (at_of tX11_judge 1 6 rfl) (by unfold in32; omega) ?_
          refine go_goto (tgt := 63) (at_of tX11_judge 1 7 rfl) (by decide) ?_
          refine go_istore (at_of tX11_judge 2 1 rfl) rfl rfl ?_
          first
          | (rw [hG] at K65; exact K65 _)
          | (exfalso
             by_cases ha : acc = true
             · rw [if_pos ha, decide_eq_false_iff_not] at hjj
               first | (exact absurd (bI_0.mp h29) (by rw [ha]; decide)) | omega
             · rw [if_neg ha, decide_eq_false_iff_not] at hjj
               first | (exact absurd (bI_1.mp h29) ha) | omega)
end Doc7
