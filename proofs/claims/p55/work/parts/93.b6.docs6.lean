/-! A unit written. -/
section Doc6
variable {σ σ' τ τ' : St} {d U A S : Nat} {us : List Nat} {vs : List Un} {ch : Int} {au sg : Int → Int}
/-- the row's units from j on, below n, moved one up -/
def uS (σ : St) (U : Nat) (j n : Int) : St := (σ.1, fun a i => if a = U ∧ j.toNat < i ∧ i ≤ n.toNat then σ.2.1 U (i - 1) else σ.2.1 a i, σ.2.2)
theorem uS_0 {n : Int} : uS σ U n n = σ := by
  refine Prod.ext rfl (Prod.ext ?_ rfl)
  funext a i
  show (if a = U ∧ n.toNat < i ∧ i ≤ n.toNat then _ else _) = _
  rw [if_neg (by omega)]
theorem uS_s {j n : Int} {q : Nat} (h0 : 0 < j) (h1 : j ≤ n) (hq : σ.2.1 U (j - 1).toNat = some q) : R1 (uS σ U j n) U j.toNat q = uS σ U (j - 1) n := by
  refine Prod.ext rfl (Prod.ext ?_ rfl)
  funext a i
  show (if a = U ∧ i = j.toNat then some q else if a = U ∧ j.toNat < i ∧ i ≤ n.toNat then σ.2.1 U (i - 1) else σ.2.1 a i) = if a = U ∧ (j - 1).toNat < i ∧ i ≤ n.toNat then σ.2.1 U (i - 1) else σ.2.1 a i
  by_cases ha : a = U
  · subst ha
    by_cases hi : i = j.toNat
    · subst hi
      rw [if_pos ⟨rfl, rfl⟩, if_pos (by omega), show j.toNat - 1 = (j - 1).toNat by omega, hq]
    · rw [if_neg (fun z => hi z.2)]
      by_cases h2 : j.toNat < i ∧ i ≤ n.toNat
      · rw [if_pos ⟨rfl, h2⟩, if_pos (by omega)]
      · rw [if_neg (fun z => h2 z.2), if_neg (by omega)]
  · rw [if_neg (fun z => ha z.1), if_neg (fun z => ha z.1), if_neg (fun z => ha z.1)]
theorem uS_at {j n : Int} {i : Nat} (h : i ≤ j.toNat) : (uS σ U j n).2.1 U i = σ.2.1 U i := if_neg (by omega)
theorem uS_ne {j n : Int} {a i : Nat} (h : a ≠ U) : (uS σ U j n).2.1 a i = σ.2.1 a i := if_neg (fun z => h z.1)
theorem GamD_uS {j n : Int} {x : Nat} : GamD (uS σ U j n) x = GamD σ x := GamD_congr rfl
/-- a unit written at k of n -/
def wrS (σ : St) (d U : Nat) (k : Int) (n : Nat) (l w : Int) : St := P1 (R1 (inU (nxD (uS σ U k n) 22 0) σ.2.2 l w) U k.toNat σ.2.2) d 0 (n + 1)
theorem DocR.write (h : DocR σ d U A S us vs ch au sg) {k l w : Int} (hk : 0 ≤ k ∧ k ≤ us.length) (hn : us.length < 200) (hl : 0 ≤ l ∧ l < 65536) (hw9 : -1 ≤ w ∧ w < ch) : DocR (wrS σ d U k us.length l w) d U A S (us.take k.toNat ++ σ.2.2 :: us.drop k.toNat) (vs.take k.toNat ++ (l, w, -1) :: vs.drop k.toNat) ch au sg ∧ OutD σ (wrS σ d U k us.length l w) (fun x => x = d ∨ x = U) ∧ (wrS σ d U k us.length l w).2.2 = σ.2.2 + 1 := by
  obtain ⟨⟨n1, n2, n3, n4, n5, n6⟩, nu⟩ := h.ne
  obtain ⟨⟨⟨g1, g2, g3, g4⟩, ⟨p1, p2, p3⟩, ge, ⟨l1, l2, l3, l4⟩⟩, ⟨u1, u2, u3, u4, u5⟩, hv, hw, c1, c2, c3⟩ := h
  have e0 : (uS σ U k us.length).2.2 = σ.2.2 := rfl
  have gam : ∀ x, x ≠ σ.2.2 → GamD (wrS σ d U k us.length l w) x = GamD σ x := fun x hx => (GamD_P1 (by decide)).trans (GamD_R1.trans (GamD_inU.trans ((GamD_nx (by rw [e0]; exact hx)).trans GamD_uS)))
  have gn : GamD (wrS σ d U k us.length l w) σ.2.2 = (22, 0) := (GamD_P1 (by decide)).trans (GamD_R1.trans (GamD_inU.trans (GamD_nxD (σ := uS σ U k us.length) (by decide) (gam99 (by rw [e0]; omega)))))
  have v0 : ∀ x j, x ≠ σ.2.2 → x ≠ d ∨ j ≠ 0 → (wrS σ d U k us.length l w).1 x j = σ.1 x j := fun x j hx hj => by
    have e1 : (wrS σ d U k us.length l w).1 x j = (inU (nxD (uS σ U k us.length) 22 0) σ.2.2 l w).1 x j := if_neg (fun z => by rcases hj with hj | hj; exact hj z.1; exact hj z.2)
    rw [e1, inU_ne hx, nxD_at (σ := uS σ U k us.length) (Or.inl (by rw [e0]; exact hx))]
    rfl
  have r0 : ∀ x j, x ≠ U → (wrS σ d U k us.length l w).2.1 x j = σ.2.1 x j := fun x j hx => (R1_ne hx).trans (uS_ne hx)
  have hlen : (us.take k.toNat ++ σ.2.2 :: us.drop k.toNat).length = us.length + 1 := by
    rw [List.length_append, List.length_take, List.length_cons, List.length_drop]
    omega
  have hmem : ∀ u, u ∈ us.take k.toNat ++ σ.2.2 :: us.drop k.toNat → u = σ.2.2 ∨ u ∈ us := fun u hu => by
    rcases List.mem_append.mp hu with hu | hu
    · exact Or.inr (List.mem_of_mem_take hu)
    · rcases List.mem_cons.mp hu with hu | hu
      · exact Or.inl hu
      · exact Or.inr (List.mem_of_mem_drop hu)
  have hnot : ∀ u ∈ us, u ≠ σ.2.2 := fun u hu => by have := (u5 u hu).2.2; omega
  refine ⟨⟨⟨⟨(gam _ (by omega)).trans g1, (gam _ (by omega)).trans g2, (gam _ (by omega)).trans g3, (gam _ (by omega)).trans g4⟩, ⟨(r0 _ _ n1).trans p1, (r0 _ _ n1).trans p2, (r0 _ _ n1).trans p3⟩, ge, ?_⟩, ⟨?_, by omega, fun i hi => ?_, ?_, fun u hu => ?_⟩, ?_, fun v hv9 => ?_, (v0 _ _ (by omega) (Or.inr (by decide))).trans c1, c2, fun c h0 h1 => ?_⟩, ⟨Nat.le_succ _, fun x hx hn9 => ⟨fun j => v0 x j (by omega) (Or.inl fun z => hn9 (Or.inl z)), fun j => r0 x j fun z => hn9 (Or.inr z)⟩⟩, rfl⟩
  · show d < σ.2.2 + 1 ∧ U < σ.2.2 + 1 ∧ A < σ.2.2 + 1 ∧ S < σ.2.2 + 1
    omega
  · rw [hlen]
    show (P1 _ d 0 _).1 d 0 = _
    rw [P1_eq]
    omega
  · rw [hlen] at hi
    show (if U = U ∧ i = k.toNat then some σ.2.2 else if U = U ∧ k.toNat < i ∧ i ≤ ((us.length : Int)).toNat then σ.2.1 U (i - 1) else σ.2.1 U i) = _
    have ht : (us.take k.toNat).length = k.toNat := by rw [List.length_take]; omega
    rcases Nat.lt_trichotomy i k.toNat with h1 | h1 | h1
    · rw [if_neg (by omega), if_neg (by omega), List.getElem?_append_left (by omega), List.getElem?_take_of_lt h1, u3 i (by omega)]
    · subst h1
      rw [if_pos ⟨rfl, rfl⟩, List.getElem?_append_right (by omega), ht, Nat.sub_self]
      rfl
    · rw [if_neg (by omega), if_pos (by omega), List.getElem?_append_right (by omega), ht, show i - k.toNat = (i - 1 - k.toNat) + 1 by omega, List.getElem?_cons_succ, List.getElem?_drop, u3 (i - 1) (by omega)]
      congr 1
      omega
  · have q := List.nodup_append.mp (show (us.take k.toNat ++ us.drop k.toNat).Nodup by rw [List.take_append_drop]; exact u4)
    refine List.nodup_append.mpr ⟨q.1, List.nodup_cons.mpr ⟨fun z => hnot _ (List.mem_of_mem_drop z) rfl, q.2.1⟩, fun a ha b hb e => ?_⟩
    rcases List.mem_cons.mp hb with hb | hb
    · exact hnot a (List.mem_of_mem_take ha) (e.trans hb)
    · exact q.2.2 a ha b hb e
  · rcases hmem u hu with rfl | hu
    · exact ⟨gn, by omega, Nat.lt_succ_self _⟩
    · obtain ⟨a, b, c⟩ := u5 u hu
      exact ⟨(gam _ (hnot u hu)).trans a, b, Nat.lt_succ_of_lt c⟩
  · have e1 : uv (wrS σ d U k us.length l w) σ.2.2 = (l, w, -1) := by
      have e2 := inU_v (σ := nxD (uS σ U k us.length) 22 0) (u := σ.2.2) (l := l) (w := w)
      rw [← e2]
      exact uv_eq fun j => P1_ne (by omega)
    have e3 : ∀ u ∈ us, uv (wrS σ d U k us.length l w) u = uv σ u := fun u hu => uv_eq fun j => v0 u j (hnot u hu) (Or.inl (nu u hu).1)
    rw [List.map_append, List.map_cons, e1, ← hv, ← List.map_take, ← List.map_drop]
    congr 1
    · exact List.map_congr_left fun u hu => e3 u (List.mem_of_mem_take hu)
    · congr 1
      exact List.map_congr_left fun u hu => e3 u (List.mem_of_mem_drop hu)
  · rcases List.mem_append.mp hv9 with hv9 | hv9
    · exact hw v (List.mem_of_mem_take hv9)
    · rcases List.mem_cons.mp hv9 with rfl | hv9
      · exact ⟨hl, hw9, Int.le_refl _, by show (-1 : Int) < ch; omega⟩
      · exact hw v (List.mem_of_mem_drop hv9)
  · obtain ⟨⟨a, b⟩, c9⟩ := c3 c h0 h1
    exact ⟨⟨(v0 _ _ (by omega) (Or.inl (Ne.symm n2))).trans a, (v0 _ _ (by omega) (Or.inl (Ne.symm n3))).trans b⟩, c9⟩
theorem lp_write (h : DocR σ d U A S us vs ch au sg) {a p l tr k w : Int} (hk : 0 ≤ k ∧ k ≤ us.length) (hn0 : us.length < 200) (hl : 0 ≤ l ∧ l < 65536) : ∀ (m : Nat) (b : Nat × Nat) (j : Int), k + m = j → j ≤ us.length → 1 ≤ b.1 → 3 ≤ b.2 → Go (fun _ => 0) 1 mX11_write b 72 [vA d, vI a, vI p, vI l, vI tr, vI k, vI w, vI j] [] (uS σ U j us.length) (vI w, wrS σ d U k us.length l w) := by
  intro m
  obtain ⟨⟨⟨hgd, hgU, hgA, hgS⟩, ⟨hpU, hpA, hpS⟩, hge, hlt⟩, ⟨hn, hn2, -, -, -⟩, -, -, hch, hch2, hcl⟩ := id h
  obtain ⟨⟨n1, n2, n3, n4, n5, n6⟩, -⟩ := h.ne
  have hpU' : ∀ j, (uS σ U j us.length).2.1 d 1 = some U := fun j => (uS_ne n1).trans hpU
  induction m with
  | zero =>
    intro b j hm hj hb1 hb2
    have ej : j = k := by omega
    subst ej
    have e0 : (uS σ U j us.length).2.2 = σ.2.2 := rfl
    have hgc : GamD (nxD (uS σ U j us.length) 22 0) σ.2.2 = (22, 0) := GamD_nxD (σ := uS σ U j us.length) (by decide) (gam99 (by rw [e0]; omega))
    have gq : ∀ x, x < σ.2.2 → GamD (inU (nxD (uS σ U j us.length) 22 0) σ.2.2 l w) x = GamD σ x := fun x hx => GamD_inU.trans ((GamD_nx (by rw [e0]; omega)).trans GamD_uS)
    have hgU9 : GamD (inU (nxD (uS σ U j us.length) 22 0) σ.2.2 l w) U = (3, 210) := (gq U hlt.2.1).trans hgU
    have hgc9 : GamD (inU (nxD (uS σ U j us.length) 22 0) σ.2.2 l w) σ.2.2 = (22, 0) := GamD_inU.trans hgc
    have hgd9 : GamD (R1 (inU (nxD (uS σ U j us.length) 22 0) σ.2.2 l w) U j.toNat σ.2.2) d = (21, 0) := GamD_R1.trans ((gq d hlt.1).trans hgd)
    have hn9 : (R1 (inU (nxD (uS σ U j us.length) 22 0) σ.2.2 l w) U j.toNat σ.2.2).1 d 0 = (us.length : Int) := (inU_ne (by omega)).trans ((nxD_at (σ := uS σ U j us.length) (Or.inl (by rw [e0]; omega))).trans hn)
    refine go_iload (at_of tX11_write 2 5 rfl) rfl rfl ?_
    refine go_iload (at_of tX11_write 2 6 rfl) rfl rfl ?_
    refine go_icmp_le (tgt := 101) (at_of tX11_write 2 7 rfl) (by decide) (fun h76 => ?_) (fun h76 => ?_)
    rotate_left
    · exfalso; omega
    refine go_aload_n (at_of tX11_write 3 4 rfl) rfl ?_
    refine go_getrD (q := U) fl_X11_9 rfl (by first | exact hgd | (simp (disch := omega) only [GamD_P1, GamD_M1, GamD_R1, GamD_uS]; exact hgd)) (by exact hpU' _) (at_of tX11_write 3 5 rfl) ?_
    refine go_iload (at_of tX11_write 3 6 rfl) rfl rfl ?_
    refine go_newOD (a := σ.2.2) (ci := 12) rfl (by show 109 ≤ σ.2.2; omega) (by decide) cl_X11_7 ins_12 ini_12 ⟨hb1, hb2⟩ (at_of tX11_write 3 7 rfl) ?_
    refine go_dup (at_of tX11_write 3 8 rfl) rfl ?_
    refine go_iload_n (at_of tX11_write 3 9 rfl) rfl ?_
    refine go_iload (at_of tX11_write 3 10 rfl) rfl rfl ?_
    refine go_cI (con_initU hgc hl) lk_X11_48 rfl (at_of tX11_write 3 11 rfl) rfl (by decide) rfl (Nat.le_of_ble_eq_true rfl) rfl (⟨by omega, by omega⟩) ?_
    refine go_aast1D hgU9 (Or.inl rfl) (by omega) (by omega) hgc9 (at_of tX11_write 3 12 rfl) ?_
    refine go_aload_n (at_of tX11_write 3 13 rfl) rfl ?_
    refine go_dup (at_of tX11_write 3 14 rfl) rfl ?_
    refine go_getfD fl_X11_24 rfl hgd9 (at_of tX11_write 3 15 rfl) ?_
    rw [hn9]
    refine go_iconst (at_of tX11_write 4 0 rfl) (by unfold in32; omega) ?_
    refine go_iadd (at_of tX11_write 4 1 rfl) (by unfold in32; omega) ?_
    refine go_put1D fp_X11_24 rfl (Or.inl rfl) hgd9 (Or.inl (Or.inl rfl)) (at_of tX11_write 4 2 rfl) ?_
    refine go_iload (at_of tX11_write 4 3 rfl) rfl rfl ?_
    first | exact go_reti (at_of tX11_write 4 4 rfl) rfl | exact go_reti (at_of tX11_write 4 4 rfl) (le_i (by omega)) | exact go_reti (at_of tX11_write 4 4 rfl) (le_i (by first | exact bI_t (by omega) | exact bI_f (by omega)))
  | succ m ih =>
    intro b j hm hj hb1 hb2
    obtain ⟨u, v, hu1, hv1, hvd, hud, hpu, hgu, hl0, hl1, hl2, hvw, hum, hu9, hult⟩ := h.unit (i := j - 1) (by omega) (by omega)
    have hpu' : (uS σ U j us.length).2.1 U (j - 1).toNat = some u := (uS_at (by omega)).trans hpu
    refine go_iload (at_of tX11_write 2 5 rfl) rfl rfl ?_
    refine go_iload (at_of tX11_write 2 6 rfl) rfl rfl ?_
    refine go_icmp_le (tgt := 101) (at_of tX11_write 2 7 rfl) (by decide) (fun h76 => ?_) (fun h76 => ?_)
    · exfalso; omega
    refine go_aload_n (at_of tX11_write 2 8 rfl) rfl ?_
    refine go_getrD (q := U) fl_X11_9 rfl (by first | exact hgd | (simp (disch := omega) only [GamD_P1, GamD_M1, GamD_R1, GamD_uS]; exact hgd)) (by exact hpU' _) (at_of tX11_write 2 9 rfl) ?_
    refine go_iload (at_of tX11_write 2 10 rfl) rfl rfl ?_
    refine go_aload_n (at_of tX11_write 2 11 rfl) rfl ?_
    refine go_getrD (q := U) fl_X11_9 rfl (by first | exact hgd | (simp (disch := omega) only [GamD_P1, GamD_M1, GamD_R1, GamD_uS]; exact hgd)) (by exact hpU' _) (at_of tX11_write 2 12 rfl) ?_
    refine go_iload (at_of tX11_write 2 13 rfl) rfl rfl ?_
    refine go_iconst (at_of tX11_write 2 14 rfl) (by unfold in32; omega) ?_
    refine go_isub (at_of tX11_write 2 15 rfl) (by unfold in32; omega) ?_
    refine go_aaldD (by first | exact hgU | (simp (disch := omega) only [GamD_P1, GamD_M1, GamD_R1, GamD_uS]; exact hgU)) (Or.inl rfl) (by omega) (by omega) hpu' (at_of tX11_write 3 0 rfl) ?_
    refine go_aast1D (by first | exact hgU | (simp (disch := omega) only [GamD_P1, GamD_M1, GamD_R1, GamD_uS]; exact hgU)) (Or.inl rfl) (by omega) (by omega) (by first | exact hgu | (simp (disch := omega) only [GamD_P1, GamD_M1, GamD_R1, GamD_uS]; exact hgu)) (at_of tX11_write 3 1 rfl) ?_
    rw [uS_s (by omega) hj hpu]
    refine go_iinc (at_of tX11_write 3 2 rfl) rfl (by unfold in32; omega) rfl rfl ?_
    refine go_goto (tgt := 72) (at_of tX11_write 3 3 rfl) (by decide) ?_
    exact ih _ (j - 1) (by omega) (by omega) hb1 hb2
/-- the change of the unit ahead of k -/
def wrA (vs : List Un) (k : Int) : Int := if k = 0 then -1 else (vs.getD (k - 1).toNat (0, -1, -1)).2.1
theorem wrA_at {k : Int} {v : Un} (h0 : k ≠ 0) (h : vs[(k - 1).toNat]? = some v) : wrA vs k = v.2.1 := by
  unfold wrA
  rw [if_neg h0, List.getD_eq_getElem?_getD, h]
  rfl
theorem lp_write0 (h : DocR σ d U A S us vs ch au sg) {a p l tr k w : Int} (hk : 0 ≤ k ∧ k ≤ us.length) (hn0 : us.length < 200) (hl : 0 ≤ l ∧ l < 65536) (b : Nat × Nat) (hb1 : 1 ≤ b.1) (hb2 : 3 ≤ b.2) : Go (fun _ => 0) 1 mX11_write b 72 [vA d, vI a, vI p, vI l, vI tr, vI k, vI w, vI (us.length : Int)] [] σ (vI w, wrS σ d U k us.length l w) := by
  have h8 := lp_write h (a := a) (p := p) (tr := tr) (w := w) hk hn0 hl (us.length - k.toNat) b us.length (by omega) (Int.le_refl _) hb1 hb2
  rw [uS_0] at h8
  exact h8
theorem con_write_f (h : DocR σ d U A S us vs ch au sg) {a p l : Int} (hp : 0 ≤ p ∧ p < 1000) (hn0 : us.length < 200) (hl : 0 ≤ l ∧ l < 65536) : Con 1 mX11_write 1 3 [vA d, vI a, vI p, vI l, vI 0] σ (vI (-1), wrS σ d U (atL vs p) us.length l (-1)) := by
  obtain ⟨⟨⟨hgd, hgU, hgA, hgS⟩, ⟨hpU, hpA, hpS⟩, hge, hlt⟩, ⟨hn, hn2, -, -, -⟩, -, -, hch, hch2, hcl⟩ := id h
  obtain ⟨hk0, hk1⟩ := atL_le vs p
  have hlen := h.len
  refine con_of_go mfX11_write.1 trivial (Nat.le_of_ble_eq_true rfl) rfl (by decide) ?_
  show Go _ _ _ _ 0 [vA _, vI _, vI _, vI _, vI _, vT 9 0, vT 9 0, vT 9 0] [] _ _
  refine go_aload_n (at_of tX11_write 0 0 rfl) rfl ?_
  refine go_iload_n (at_of tX11_write 0 1 rfl) rfl ?_
  refine go_cVD (con_atD h hp) lk_X11_38 rfl (by first | exact hgd | (simp (disch := omega) only [GamD_P1, GamD_M1, GamD_R1, GamD_uS]; exact hgd)) (at_of tX11_write 0 2 rfl) rfl (by decide) rfl (Nat.le_of_ble_eq_true rfl) rfl (⟨by omega, by omega⟩) ?_
  refine go_istore (at_of tX11_write 0 3 rfl) rfl rfl ?_
  refine go_iconst (at_of tX11_write 0 4 rfl) (by unfold in32; omega) ?_
  refine go_istore (at_of tX11_write 0 5 rfl) rfl rfl ?_
  refine go_iload (at_of tX11_write 0 6 rfl) rfl rfl ?_
  refine go_if_eq (tgt := 66) (at_of tX11_write 0 7 rfl) (by decide) (fun h12 => ?_) (fun h12 => ?_)
  rotate_left
  · exfalso; omega
  refine go_aload_n (at_of tX11_write 2 2 rfl) rfl ?_
  refine go_getfD fl_X11_24 rfl (by first | exact hgd | exact hgd8) (at_of tX11_write 2 3 rfl) ?_
  rw [hn]
  refine go_istore (at_of tX11_write 2 4 rfl) rfl rfl ?_
  exact lp_write0 h ⟨by omega, by omega⟩ hn0 hl _ (by decide) (by decide)
theorem con_write_o (h : DocR σ d U A S us vs ch au sg) {a p l : Int} (hp : 0 ≤ p ∧ p < 1000) (hn0 : us.length < 200) (hl : 0 ≤ l ∧ l < 65536) (ho : 0 ≤ wrA vs (atL vs p) ∧ au (wrA vs (atL vs p)) = a) : Con 1 mX11_write 1 3 [vA d, vI a, vI p, vI l, vI 1] σ (vI (wrA vs (atL vs p)), wrS σ d U (atL vs p) us.length l (wrA vs (atL vs p))) := by
  obtain ⟨⟨⟨hgd, hgU, hgA, hgS⟩, ⟨hpU, hpA, hpS⟩, hge, hlt⟩, ⟨hn, hn2, -, -, -⟩, -, -, hch, hch2, hcl⟩ := id h
  obtain ⟨hk0, hk1⟩ := atL_le vs p
  have hlen := h.len
  refine con_of_go mfX11_write.1 trivial (Nat.le_of_ble_eq_true rfl) rfl (by decide) ?_
  show Go _ _ _ _ 0 [vA _, vI _, vI _, vI _, vI _, vT 9 0, vT 9 0, vT 9 0] [] _ _
  refine go_aload_n (at_of tX11_write 0 0 rfl) rfl ?_
  refine go_iload_n (at_of tX11_write 0 1 rfl) rfl ?_
  refine go_cVD (con_atD h hp) lk_X11_38 rfl (by first | exact hgd | (simp (disch := omega) only [GamD_P1, GamD_M1, GamD_R1, GamD_uS]; exact hgd)) (at_of tX11_write 0 2 rfl) rfl (by decide) rfl (Nat.le_of_ble_eq_true rfl) rfl (⟨by omega, by omega⟩) ?_
  refine go_istore (at_of tX11_write 0 3 rfl) rfl rfl ?_
  refine go_iconst (at_of tX11_write 0 4 rfl) (by unfold in32; omega) ?_
  refine go_istore (at_of tX11_write 0 5 rfl) rfl rfl ?_
  refine go_iload (at_of tX11_write 0 6 rfl) rfl rfl ?_
  refine go_if_eq (tgt := 66) (at_of tX11_write 0 7 rfl) (by decide) (fun h12 => ?_) (fun h12 => ?_)
  · exfalso; omega
  refine go_iload (at_of tX11_write 0 8 rfl) rfl rfl ?_
  refine go_if_ne (tgt := 24) (at_of tX11_write 0 9 rfl) (by decide) (fun h17 => ?_) (fun h17 => ?_)
  rotate_left
  · exfalso; unfold wrA at ho; rw [if_pos h17] at ho; omega
  obtain ⟨u, v, hu1, hv1, hvd, hud, hpu, hgu, hl0, hl1, hl2, hvw, hum, hu9, hult⟩ := h.unit (i := atL vs p - 1) (by omega) (by omega)
  have ew := wrA_at (vs := vs) (k := atL vs p) (by omega) hv1
  refine go_aload_n (at_of tX11_write 0 12 rfl) rfl ?_
  refine go_getrD (q := U) fl_X11_9 rfl (by first | exact hgd | (simp (disch := omega) only [GamD_P1, GamD_M1, GamD_R1, GamD_uS]; exact hgd)) hpU (at_of tX11_write 0 13 rfl) ?_
  refine go_iload (at_of tX11_write 0 14 rfl) rfl rfl ?_
  refine go_iconst (at_of tX11_write 0 15 rfl) (by unfold in32; omega) ?_
  refine go_isub (at_of tX11_write 1 0 rfl) (by unfold in32; omega) ?_
  refine go_aaldD (by first | exact hgU | (simp (disch := omega) only [GamD_P1, GamD_M1, GamD_R1, GamD_uS]; exact hgU)) (Or.inl rfl) (by omega) (by omega) hpu (at_of tX11_write 1 1 rfl) ?_
  refine go_getfD fl_X11_42 rfl hgu (at_of tX11_write 1 2 rfl) ?_
  rw [hl1, ← ew]
  obtain ⟨⟨z1, z2⟩, z3⟩ := hcl (wrA vs (atL vs p)) ho.1 (by rw [ew]; exact hvw.2.1.2)
  refine go_istore (at_of tX11_write 1 3 rfl) rfl rfl ?_
  refine go_iload (at_of tX11_write 1 4 rfl) rfl rfl ?_
  refine go_if_lt (tgt := 59) (at_of tX11_write 1 5 rfl) (by decide) (fun h40 => ?_) (fun h40 => ?_)
  · exfalso; omega
  refine go_aload_n (at_of tX11_write 1 6 rfl) rfl ?_
  refine go_getrD (q := A) fl_X11_15 rfl (by first | exact hgd | (simp (disch := omega) only [GamD_P1, GamD_M1, GamD_R1, GamD_uS]; exact hgd)) hpA (at_of tX11_write 1 7 rfl) ?_
  refine go_iload (at_of tX11_write 1 8 rfl) rfl rfl ?_
  refine go_ialdD (by first | exact hgA | (simp (disch := omega) only [GamD_P1, GamD_M1, GamD_R1, GamD_uS]; exact hgA)) (by omega) (by rw [ew]; have := hvw.2.1.2; omega) (at_of tX11_write 1 9 rfl) ?_
  refine go_iload_n (at_of tX11_write 1 10 rfl) rfl ?_
  refine go_icmp_ne (tgt := 59) (at_of tX11_write 1 11 rfl) (by decide) (fun h51 => ?_) (fun h51 => ?_)
  · exfalso; exact h51 (z1.trans ho.2)
  refine go_iload (at_of tX11_write 1 12 rfl) rfl rfl ?_
  refine go_goto (tgt := 64) (at_of tX11_write 1 13 rfl) (by decide) ?_
  refine go_istore (at_of tX11_write 2 1 rfl) rfl rfl ?_
  refine go_aload_n (at_of tX11_write 2 2 rfl) rfl ?_
  refine go_getfD fl_X11_24 rfl (by first | exact hgd | exact hgd8) (at_of tX11_write 2 3 rfl) ?_
  rw [hn]
  refine go_istore (at_of tX11_write 2 4 rfl) rfl rfl ?_
  exact lp_write0 h ⟨by omega, by omega⟩ hn0 hl _ (by decide) (by decide)
theorem con_write_n (h : DocR σ d U A S us vs ch au sg) {a p l : Int} (hp : 0 ≤ p ∧ p < 1000) (hn0 : us.length < 200) (hl : 0 ≤ l ∧ l < 65536) (hc : ch < 60) (ho : ¬ (0 ≤ wrA vs (atL vs p) ∧ au (wrA vs (atL vs p)) = a)) : Con 1 mX11_write 1 3 [vA d, vI a, vI p, vI l, vI 1] σ (vI ch, wrS (chS σ d A S ch a) d U (atL vs p) us.length l ch) := by
  obtain ⟨⟨⟨hgd, hgU, hgA, hgS⟩, ⟨hpU, hpA, hpS⟩, hge, hlt⟩, ⟨hn, hn2, -, -, -⟩, -, -, hch, hch2, hcl⟩ := id h
  obtain ⟨hk0, hk1⟩ := atL_le vs p
  have hlen := h.len
  obtain ⟨hD, hO⟩ := h.change (a := a) hc
  have hgd8 : GamD (chS σ d A S ch a) d = (21, 0) := hD.1.1.1
  have hn8 : (chS σ d A S ch a).1 d 0 = (us.length : Int) := hD.2.1.1
  refine con_of_go mfX11_write.1 trivial (Nat.le_of_ble_eq_true rfl) rfl (by decide) ?_
  show Go _ _ _ _ 0 [vA _, vI _, vI _, vI _, vI _, vT 9 0, vT 9 0, vT 9 0] [] _ _
  refine go_aload_n (at_of tX11_write 0 0 rfl) rfl ?_
  refine go_iload_n (at_of tX11_write 0 1 rfl) rfl ?_
  refine go_cVD (con_atD h hp) lk_X11_38 rfl (by first | exact hgd | (simp (disch := omega) only [GamD_P1, GamD_M1, GamD_R1, GamD_uS]; exact hgd)) (at_of tX11_write 0 2 rfl) rfl (by decide) rfl (Nat.le_of_ble_eq_true rfl) rfl (⟨by omega, by omega⟩) ?_
  refine go_istore (at_of tX11_write 0 3 rfl) rfl rfl ?_
  refine go_iconst (at_of tX11_write 0 4 rfl) (by unfold in32; omega) ?_
  refine go_istore (at_of tX11_write 0 5 rfl) rfl rfl ?_
  refine go_iload (at_of tX11_write 0 6 rfl) rfl rfl ?_
  refine go_if_eq (tgt := 66) (at_of tX11_write 0 7 rfl) (by decide) (fun h12 => ?_) (fun h12 => ?_)
  · exfalso; omega
  refine go_iload (at_of tX11_write 0 8 rfl) rfl rfl ?_
  refine go_if_ne (tgt := 24) (at_of tX11_write 0 9 rfl) (by decide) (fun h17 => ?_) (fun h17 => ?_)
  · obtain ⟨u, v, hu1, hv1, hvd, hud, hpu, hgu, hl0, hl1, hl2, hvw, hum, hu9, hult⟩ := h.unit (i := atL vs p - 1) (by omega) (by omega)
    have ew := wrA_at (vs := vs) (k := atL vs p) (by omega) hv1
    refine go_aload_n (at_of tX11_write 0 12 rfl) rfl ?_
    refine go_getrD (q := U) fl_X11_9 rfl (by first | exact hgd | (simp (disch := omega) only [GamD_P1, GamD_M1, GamD_R1, GamD_uS]; exact hgd)) hpU (at_of tX11_write 0 13 rfl) ?_
    refine go_iload (at_of tX11_write 0 14 rfl) rfl rfl ?_
    refine go_iconst (at_of tX11_write 0 15 rfl) (by unfold in32; omega) ?_
    refine go_isub (at_of tX11_write 1 0 rfl) (by unfold in32; omega) ?_
    refine go_aaldD (by first | exact hgU | (simp (disch := omega) only [GamD_P1, GamD_M1, GamD_R1, GamD_uS]; exact hgU)) (Or.inl rfl) (by omega) (by omega) hpu (at_of tX11_write 1 1 rfl) ?_
    refine go_getfD fl_X11_42 rfl hgu (at_of tX11_write 1 2 rfl) ?_
    refine go_istore (at_of tX11_write 1 3 rfl) rfl rfl ?_
    refine go_iload (at_of tX11_write 1 4 rfl) rfl rfl ?_
    refine go_if_lt (tgt := 59) (at_of tX11_write 1 5 rfl) (by decide) (fun h40 => ?_) (fun h40 => ?_)
    · refine go_aload_n (at_of tX11_write 1 14 rfl) rfl ?_
      refine go_iload_n (at_of tX11_write 1 15 rfl) rfl ?_
      refine go_cVD (con_changeD h hc) lk_X11_45 rfl (by first | exact hgd | (simp (disch := omega) only [GamD_P1, GamD_M1, GamD_R1, GamD_uS]; exact hgd)) (at_of tX11_write 2 0 rfl) rfl (by decide) rfl (Nat.le_of_ble_eq_true rfl) rfl (⟨by omega, by omega⟩) ?_
      refine go_istore (at_of tX11_write 2 1 rfl) rfl rfl ?_
      refine go_aload_n (at_of tX11_write 2 2 rfl) rfl ?_
      refine go_getfD fl_X11_24 rfl (by first | exact hgd | exact hgd8) (at_of tX11_write 2 3 rfl) ?_
      rw [hn8]
      refine go_istore (at_of tX11_write 2 4 rfl) rfl rfl ?_
      exact lp_write0 hD ⟨by omega, by omega⟩ hn0 hl _ (by decide) (by decide)
    · rw [hl1] at h40
      obtain ⟨⟨z1, z2⟩, z3⟩ := hcl v.2.1 (by omega) hvw.2.1.2
      refine go_aload_n (at_of tX11_write 1 6 rfl) rfl ?_
      refine go_getrD (q := A) fl_X11_15 rfl (by first | exact hgd | (simp (disch := omega) only [GamD_P1, GamD_M1, GamD_R1, GamD_uS]; exact hgd)) hpA (at_of tX11_write 1 7 rfl) ?_
      refine go_iload (at_of tX11_write 1 8 rfl) rfl rfl ?_
      refine go_ialdD (by first | exact hgA | (simp (disch := omega) only [GamD_P1, GamD_M1, GamD_R1, GamD_uS]; exact hgA)) (by rw [hl1]; omega) (by rw [hl1]; have := hvw.2.1.2; omega) (at_of tX11_write 1 9 rfl) ?_
      refine go_iload_n (at_of tX11_write 1 10 rfl) rfl ?_
      refine go_icmp_ne (tgt := 59) (at_of tX11_write 1 11 rfl) (by decide) (fun h51 => ?_) (fun h51 => ?_)
      rotate_left
      · exfalso; rw [hl1] at h51; exact ho ⟨by rw [ew]; omega, by rw [ew]; exact z1.symm.trans h51⟩
      refine go_aload_n (at_of tX11_write 1 14 rfl) rfl ?_
      refine go_iload_n (at_of tX11_write 1 15 rfl) rfl ?_
      refine go_cVD (con_changeD h hc) lk_X11_45 rfl (by first | exact hgd | (simp (disch := omega) only [GamD_P1, GamD_M1, GamD_R1, GamD_uS]; exact hgd)) (at_of tX11_write 2 0 rfl) rfl (by decide) rfl (Nat.le_of_ble_eq_true rfl) rfl (⟨by omega, by omega⟩) ?_
      refine go_istore (at_of tX11_write 2 1 rfl) rfl rfl ?_
      refine go_aload_n (at_of tX11_write 2 2 rfl) rfl ?_
      refine go_getfD fl_X11_24 rfl (by first | exact hgd | exact hgd8) (at_of tX11_write 2 3 rfl) ?_
      rw [hn8]
      refine go_istore (at_of tX11_write 2 4 rfl) rfl rfl ?_
      exact lp_write0 hD ⟨by omega, by omega⟩ hn0 hl _ (by decide) (by decide)
  · refine go_iconst (at_of tX11_write 0 10 rfl) (by unfold in32; omega) ?_
    refine go_goto (tgt := 36) (at_of tX11_write 0 11 rfl) (by decide) ?_
    refine go_istore (at_of tX11_write 1 3 rfl) rfl rfl ?_
    refine go_iload (at_of tX11_write 1 4 rfl) rfl rfl ?_
    refine go_if_lt (tgt := 59) (at_of tX11_write 1 5 rfl) (by decide) (fun h40 => ?_) (fun h40 => ?_)
    rotate_left
    · exfalso; omega
    refine go_aload_n (at_of tX11_write 1 14 rfl) rfl ?_
    refine go_iload_n (at_of tX11_write 1 15 rfl) rfl ?_
    refine go_cVD (con_changeD h hc) lk_X11_45 rfl (by first | exact hgd | (simp (disch := omega) only [GamD_P1, GamD_M1, GamD_R1, GamD_uS]; exact hgd)) (at_of tX11_write 2 0 rfl) rfl (by decide) rfl (Nat.le_of_ble_eq_true rfl) rfl (⟨by omega, by omega⟩) ?_
    refine go_istore (at_of tX11_write 2 1 rfl) rfl rfl ?_
    refine go_aload_n (at_of tX11_write 2 2 rfl) rfl ?_
    refine go_getfD fl_X11_24 rfl (by first | exact hgd | exact hgd8) (at_of tX11_write 2 3 rfl) ?_
    rw [hn8]
    refine go_istore (at_of tX11_write 2 4 rfl) rfl rfl ?_
    exact lp_write0 hD ⟨by omega, by omega⟩ hn0 hl _ (by decide) (by decide)
end Doc6
