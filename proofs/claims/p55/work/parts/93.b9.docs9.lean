/-! A part erased: which units are told, and where they stand. -/
section Doc9
variable {σ σ' τ τ' : St} {d U A S : Nat} {us : List Nat} {vs : List Un} {ch : Int} {au sg : Int → Int}
def ownV (au : Int → Int) (a : Int) (v : Un) : Bool := decide (0 ≤ v.2.1 ∧ au v.2.1 = a)
/-- the first m that are seen are erased by a, as change c -/
def erL (au : Int → Int) (a c : Int) (tr : Bool) : List Un → Nat → List Un
  | [], _ => []
  | v :: t, m => if m = 0 then v :: t else if v.2.2 < 0 then (if tr = true ∧ ownV au a v = false then (v.1, v.2.1, c) :: erL au a c tr t (m - 1) else erL au a c tr t (m - 1)) else v :: erL au a c tr t m
/-- whether others are among them -/
def ndL (au : Int → Int) (a : Int) : List Un → Nat → Bool
  | [], _ => false
  | v :: t, m => if m = 0 then false else if v.2.2 < 0 then (!(ownV au a v) || ndL au a t (m - 1)) else ndL au a t m
theorem erL_0 {a c : Int} {tr : Bool} : ∀ R : List Un, erL au a c tr R 0 = R
  | [] => rfl
  | v :: t => by rw [erL, if_pos rfl]
theorem ndL_0 {a : Int} : ∀ R : List Un, ndL au a R 0 = false
  | [] => rfl
  | v :: t => by rw [ndL, if_pos rfl]
theorem atL_lt : ∀ (vs : List Un) (l : Int), 0 ≤ l → l < cntS vs → atL vs l < vs.length
  | [], l, h0, h1 => by rw [cntS] at h1; omega
  | v :: t, l, h0, h1 => by
    rw [cntS] at h1
    rw [atL, List.length_cons]
    split
    · have := atL_lt t (if v.2.2 < 0 then l - 1 else l)
      by_cases hv : v.2.2 < 0
      · rw [if_pos hv] at this h1 ⊢
        have := this (by omega) (by omega)
        omega
      · rw [if_neg hv] at this h1 ⊢
        have := this (by omega) (by omega)
        omega
    · omega
theorem atL_add : ∀ (vs : List Un) (p s : Int), 0 ≤ p → 0 ≤ s → atL vs (p + s) = atL vs p + atL (vs.drop (atL vs p).toNat) s
  | [], p, s, hp, hs => by rw [atL, atL, List.drop_nil, atL]; rfl
  | v :: t, p, s, hp, hs => by
    by_cases h : 0 ≤ v.2.2 ∨ 0 < p
    · have e1 : atL (v :: t) p = 1 + atL t (if v.2.2 < 0 then p - 1 else p) := by rw [atL, if_pos h]
      have e2 : atL (v :: t) (p + s) = 1 + atL t (if v.2.2 < 0 then p + s - 1 else p + s) := by rw [atL, if_pos (by omega)]
      have hq : 0 ≤ (if v.2.2 < 0 then p - 1 else p) := by split <;> omega
      have e3 : (if v.2.2 < 0 then p + s - 1 else p + s) = (if v.2.2 < 0 then p - 1 else p) + s := by split <;> omega
      have e4 := atL_le t (if v.2.2 < 0 then p - 1 else p)
      rw [e1, e2, e3, atL_add t _ s hq hs, show (1 + atL t (if v.2.2 < 0 then p - 1 else p)).toNat = (atL t (if v.2.2 < 0 then p - 1 else p)).toNat + 1 by omega, List.drop_succ_cons]
      omega
    · have e1 : atL (v :: t) p = 0 := by rw [atL, if_neg h]
      rw [e1]
      have hp0 : p = 0 := by omega
      subst hp0
      rw [Int.zero_add, Int.zero_add]
      rfl
/-- the part's row: its first t stand -/
def ptS (σ : St) (us : List Nat) (vs : List Un) (p : Int) (n : Nat) (t : Int) : St := ((nxD σ 3 n).1, fun a i => if a = σ.2.2 ∧ (i : Int) < t then us[(atL vs (p + i)).toNat]? else σ.2.1 a i, σ.2.2 + 1)
theorem ptS_0 {p : Int} {n : Nat} : ptS σ us vs p n 0 = nxD σ 3 n := by
  refine Prod.ext rfl (Prod.ext ?_ rfl)
  funext a i
  show (if a = σ.2.2 ∧ (i : Int) < 0 then _ else σ.2.1 a i) = σ.2.1 a i
  rw [if_neg (by omega)]
theorem ptS_s {p t : Int} {n q : Nat} (h0 : 0 ≤ t) (hq : us[(atL vs (p + t)).toNat]? = some q) : R1 (ptS σ us vs p n t) σ.2.2 t.toNat q = ptS σ us vs p n (t + 1) := by
  refine Prod.ext rfl (Prod.ext ?_ rfl)
  funext a i
  show (if a = σ.2.2 ∧ i = t.toNat then some q else if a = σ.2.2 ∧ (i : Int) < t then us[(atL vs (p + i)).toNat]? else σ.2.1 a i) = if a = σ.2.2 ∧ (i : Int) < t + 1 then us[(atL vs (p + i)).toNat]? else σ.2.1 a i
  by_cases ha : a = σ.2.2
  · by_cases hi : i = t.toNat
    · rw [if_pos ⟨ha, hi⟩, if_pos ⟨ha, by omega⟩, ← hq, show (i : Int) = t by omega]
    · rw [if_neg (fun z => hi z.2)]
      by_cases h2 : (i : Int) < t
      · rw [if_pos ⟨ha, h2⟩, if_pos ⟨ha, by omega⟩]
      · rw [if_neg (fun z => h2 z.2), if_neg (by omega)]
  · rw [if_neg (fun z => ha z.1), if_neg (fun z => ha z.1), if_neg (fun z => ha z.1)]
theorem ptS_out {p t : Int} {n : Nat} : OutD σ (ptS σ us vs p n t) (fun _ => False) := ⟨Nat.le_succ _, fun x hx _ => ⟨fun j => nxD_at (Or.inl (by omega)), fun j => if_neg (fun z => by omega)⟩⟩
theorem ptS_g {p t : Int} {n : Nat} (h : 109 ≤ σ.2.2) : GamD (ptS σ us vs p n t) σ.2.2 = (3, n) := (GamD_congr (σ := nxD σ 3 n) rfl).trans (GamD_nxD (by decide) (gam99 h))
theorem lp_er1 (h : DocR σ d U A S us vs ch au sg) {a p z : Int} {tr : Bool} (hp : 0 ≤ p ∧ p < z ∧ z ≤ cntS vs) {out : MV × St} : ∀ (m : Nat) (b : Nat × Nat) (j : Int), p ≤ j → j + m = z → (∀ b2 : Nat × Nat, Go (fun _ => 0) 1 mX11_erase b2 41 [vA d, vI a, vI p, vI z, vI (bI (tr = true)), vA σ.2.2, vI z, vT 9 0, vT 9 0, vT 9 0, vT 9 0, vT 9 0, vT 9 0] [] (ptS σ us vs p (z - p).toNat (z - p)) out) → Go (fun _ => 0) 1 mX11_erase b 11 [vA d, vI a, vI p, vI z, vI (bI (tr = true)), vA σ.2.2, vI j, vT 9 0, vT 9 0, vT 9 0, vT 9 0, vT 9 0, vT 9 0] [] (ptS σ us vs p (z - p).toNat (j - p)) out := by
  intro m
  obtain ⟨⟨⟨hgd, hgU, hgA, hgS⟩, ⟨hpU, hpA, hpS⟩, hge, ⟨hlt1, hlt2, hlt3, hlt4⟩⟩, ⟨hn, hn2, -, -, -⟩, -, -, hch, hch2, hcl⟩ := id h
  have hcs := cntS_le vs
  have hlv := h.len
  induction m with
  | zero =>
    intro b j hj hm K
    have ej : j = z := by omega
    rw [ej]
    refine go_iload (at_of tX11_erase 0 7 rfl) rfl rfl ?_
    refine go_iload_n (at_of tX11_erase 0 8 rfl) rfl ?_
    refine go_icmp_ge (tgt := 41) (at_of tX11_erase 0 9 rfl) (by decide) (fun h14 => ?_) (fun h14 => ?_)
    rotate_left
    · exfalso; omega
    exact K _
  | succ m ih =>
    intro b j hj hm K
    have hD := h.out (ptS_out (σ := σ) (us := us) (vs := vs) (p := p) (t := j - p) (n := (z - p).toNat)) (fun z => z) (fun z => z) (fun z => z) (fun z => z) (fun u _ z => z)
    obtain ⟨⟨⟨hgd1, hgU1, hgA1, hgS1⟩, ⟨hpU1, hpA1, hpS1⟩, -⟩, -⟩ := id hD
    have hx := atL_lt vs j (by omega) (by omega)
    have hx0 := atL_le vs j
    obtain ⟨u, v, hu1, hv1, hvd, hud, hpu, hgu, hl0, hl1, hl2, hvw, hum, hu9, hult⟩ := hD.unit (i := atL vs j) (by omega) (by omega)
    have hgc := ptS_g (σ := σ) (us := us) (vs := vs) (p := p) (t := j - p) (n := (z - p).toNat) (by omega)
    have hq : us[(atL vs (p + (j - p))).toNat]? = some u := by rw [show p + (j - p) = j by omega]; exact hu1
    refine go_iload (at_of tX11_erase 0 7 rfl) rfl rfl ?_
    refine go_iload_n (at_of tX11_erase 0 8 rfl) rfl ?_
    refine go_icmp_ge (tgt := 41) (at_of tX11_erase 0 9 rfl) (by decide) (fun h14 => ?_) (fun h14 => ?_)
    · exfalso; omega
    refine go_aload (at_of tX11_erase 0 10 rfl) rfl ?_
    refine go_iload (at_of tX11_erase 0 11 rfl) rfl rfl ?_
    refine go_iload_n (at_of tX11_erase 0 12 rfl) rfl ?_
    refine go_isub (at_of tX11_erase 0 13 rfl) (by unfold in32; omega) ?_
    refine go_aload_n (at_of tX11_erase 0 14 rfl) rfl ?_
    refine go_getrD (q := U) fl_X11_9 rfl (by first | exact hgd1 | (simp (disch := omega) only [GamD_P1, GamD_M1, GamD_R1]; exact hgd1)) hpU1 (at_of tX11_erase 0 15 rfl) ?_
    refine go_aload_n (at_of tX11_erase 1 0 rfl) rfl ?_
    refine go_iload (at_of tX11_erase 1 1 rfl) rfl rfl ?_
    refine go_cVD (con_atD hD ⟨by omega, by omega⟩) lk_X11_38 rfl (by first | exact hgd1 | (simp (disch := omega) only [GamD_P1, GamD_M1, GamD_R1]; exact hgd1)) (at_of tX11_erase 1 2 rfl) rfl (by decide) rfl (Nat.le_of_ble_eq_true rfl) rfl (by first | decide | exact ⟨Nat.zero_le _, Nat.zero_le _⟩) ?_
    refine go_aaldD (by first | exact hgU1 | (simp (disch := omega) only [GamD_P1, GamD_M1, GamD_R1]; exact hgU1)) (Or.inl rfl) (by omega) (by omega) hpu (at_of tX11_erase 1 3 rfl) ?_
    refine go_aast1D (by first | exact hgc | (simp (disch := omega) only [GamD_P1, GamD_M1, GamD_R1]; exact hgc)) (Or.inl rfl) (by omega) (by omega) (by first | exact hgu | (simp (disch := omega) only [GamD_P1, GamD_M1, GamD_R1]; exact hgu)) (at_of tX11_erase 1 4 rfl) ?_
    rw [ptS_s (by omega) hq, show j - p + 1 = j + 1 - p by omega]
    refine go_iinc (at_of tX11_erase 1 5 rfl) rfl (by unfold in32; omega) rfl rfl ?_
    refine go_goto (tgt := 11) (at_of tX11_erase 1 6 rfl) (by decide) ?_
    exact ih _ (j + 1) (by omega) (by omega) K
theorem lp_find {pre post : List Nat} {u c0 : Nat} {a p z cs n8 t9 g11 : Int} {tr : Bool} (h : DocR σ d U A S (pre ++ u :: post) vs ch au sg) {out : MV × St} : ∀ (m : Nat) (b : Nat × Nat) (k : Int), 0 ≤ k → k + m = pre.length → (∀ b2 : Nat × Nat, Go (fun _ => 0) 1 mX11_erase b2 157 [vA d, vI a, vI p, vI z, vI (bI (tr = true)), vA c0, vI cs, vA c0, vI n8, vI t9, vA u, vI g11, vI (pre.length : Int)] [] σ out) → Go (fun _ => 0) 1 mX11_erase b 139 [vA d, vI a, vI p, vI z, vI (bI (tr = true)), vA c0, vI cs, vA c0, vI n8, vI t9, vA u, vI g11, vI k] [] σ out := by
  intro m
  obtain ⟨⟨⟨hgd1, hgU1, hgA1, hgS1⟩, ⟨hpU1, hpA1, hpS1⟩, hge, ⟨hlt1, hlt2, hlt3, hlt4⟩⟩, ⟨hn, hn2, u3, u4, u5⟩, -, -, hch, hch2, hcl⟩ := id h
  rw [List.length_append, List.length_cons] at hn2
  induction m with
  | zero =>
    intro b k h0 hm K
    have ek : k = (pre.length : Int) := by omega
    subst ek
    have hpu : σ.2.1 U ((pre.length : Int)).toNat = some u := by
      rw [Int.toNat_natCast, u3 _ (by rw [List.length_append, List.length_cons]; omega)]
      exact getMid rfl
    refine go_aload_n (at_of tX11_erase 4 7 rfl) rfl ?_
    refine go_getrD (q := U) fl_X11_9 rfl (by first | exact hgd1 | (simp (disch := omega) only [GamD_P1, GamD_M1, GamD_R1]; exact hgd1)) hpU1 (at_of tX11_erase 4 8 rfl) ?_
    refine go_iload (at_of tX11_erase 4 9 rfl) rfl rfl ?_
    refine go_aaldD (by first | exact hgU1 | (simp (disch := omega) only [GamD_P1, GamD_M1, GamD_R1]; exact hgU1)) (Or.inl rfl) (by omega) (by omega) hpu (at_of tX11_erase 4 10 rfl) ?_
    refine go_aload (at_of tX11_erase 4 11 rfl) rfl ?_
    refine go_acmp_eq (tgt := 157) (at_of tX11_erase 4 12 rfl) (by decide) (fun h148 => ?_) (fun h148 => ?_)
    · exact K _
    · exact absurd rfl h148
  | succ m ih =>
    intro b k h0 hm K
    obtain ⟨w, v, hu1, hv1, hvd, hud, hpu, hgu, hl0, hl1, hl2, hvw, hum, hu9, hult⟩ := h.unit (i := k) h0 (by rw [List.length_append, List.length_cons]; omega)
    have hne : ¬ w = u := by
      rw [List.getElem?_append_left (by omega)] at hu1
      exact fun e => (List.nodup_append.mp u4).2.2 w (List.mem_of_getElem? hu1) u List.mem_cons_self e
    refine go_aload_n (at_of tX11_erase 4 7 rfl) rfl ?_
    refine go_getrD (q := U) fl_X11_9 rfl (by first | exact hgd1 | (simp (disch := omega) only [GamD_P1, GamD_M1, GamD_R1]; exact hgd1)) hpU1 (at_of tX11_erase 4 8 rfl) ?_
    refine go_iload (at_of tX11_erase 4 9 rfl) rfl rfl ?_
    refine go_aaldD (by first | exact hgU1 | (simp (disch := omega) only [GamD_P1, GamD_M1, GamD_R1]; exact hgU1)) (Or.inl rfl) (by omega) (by omega) hpu (at_of tX11_erase 4 10 rfl) ?_
    refine go_aload (at_of tX11_erase 4 11 rfl) rfl ?_
    refine go_acmp_eq (tgt := 157) (at_of tX11_erase 4 12 rfl) (by decide) (fun h148 => ?_) (fun h148 => ?_)
    · exact absurd h148 hne
    · refine go_iinc (at_of tX11_erase 4 13 rfl) rfl (by unfold in32; omega) rfl rfl ?_
      refine go_goto (tgt := 139) (at_of tX11_erase 4 14 rfl) (by decide) ?_
      exact ih _ (k + 1) (by omega) (by omega) K
end Doc9
