/-! A part erased: the loop over what is told. -/
section Doc10
variable {σ σ' τ τ' : St} {d U A S : Nat} {us : List Nat} {vs : List Un} {ch : Int} {au sg : Int → Int}
/-- the changes, where the erasing has made its own (true) or not yet -/
def chF (ch : Int) : Bool → Int
  | true => ch + 1
  | false => ch
def auF (au : Int → Int) (ch a : Int) : Bool → (Int → Int)
  | true => updZ au ch a
  | false => au
def sgF (sg : Int → Int) (ch : Int) : Bool → (Int → Int)
  | true => updZ sg ch 119
  | false => sg
def csF (ch : Int) : Bool → Int
  | true => ch
  | false => -1
theorem auF_lt {a w : Int} {f : Bool} (h : w < ch) : auF au ch a f w = au w := by
  cases f
  · rfl
  · exact if_neg (by omega)
theorem chF_le {f : Bool} : ch ≤ chF ch f ∧ chF ch f ≤ ch + 1 := by
  cases f
  · exact ⟨Int.le_refl _, by show ch ≤ ch + 1; omega⟩
  · exact ⟨by show ch ≤ ch + 1; omega, Int.le_refl _⟩
theorem atL_u {v : Un} {t : List Un} {s : Int} (h : 0 ≤ v.2.2) : atL (v :: t) s = 1 + atL t s := by rw [atL, if_pos (Or.inl h), if_neg (by omega)]
theorem atL_s0 {v : Un} {t : List Un} (h : v.2.2 < 0) : atL (v :: t) 0 = 0 := by rw [atL, if_neg (by omega)]
theorem atL_s1 {v : Un} {t : List Un} {s : Int} (h : v.2.2 < 0) (hs : 0 < s) : atL (v :: t) s = 1 + atL t (s - 1) := by rw [atL, if_pos (Or.inr hs), if_pos h]
theorem er2_exit {a p z cs t : Int} {tr : Bool} {c0 n : Nat} {v10 v11 v12 : MV} {out : MV × St} {b : Nat × Nat} (ht : t = n) (K : ∀ (b2 : Nat × Nat) (v10 v11 v12 : MV), Go (fun _ => 0) 1 mX11_erase b2 169 [vA d, vI a, vI p, vI z, vI (bI (tr = true)), vA c0, vI cs, vA c0, vI (n : Int), vI (n : Int), v10, v11, v12] [] σ out) : Go (fun _ => 0) 1 mX11_erase b 56 [vA d, vI a, vI p, vI z, vI (bI (tr = true)), vA c0, vI cs, vA c0, vI (n : Int), vI t, v10, v11, v12] [] σ out := by
  rw [ht]
  refine go_iload (at_of tX11_erase 2 0 rfl) rfl rfl ?_
  refine go_iload (at_of tX11_erase 2 1 rfl) rfl rfl ?_
  refine go_icmp_ge (tgt := 169) (at_of tX11_erase 2 2 rfl) (by decide) (fun h60 => ?_) (fun h60 => ?_)
  rotate_left
  · exfalso; omega
  exact K _ _ _ _
def Er2 (xs0 : Unit) (d U A S : Nat) (ch : Int) (au sg : Int → Int) (a p z : Int) (tr : Bool) (c0 n : Nat) (R : List Un) (uR : List Nat) (m : Nat) (t : Int) (τ : St) (L : List Nat) (VL : List Un) (f : Bool) : Prop :=
  ∃ τf us2, DocR τf d U A S us2 (VL ++ erL au a ch tr R m) (chF ch (f || (tr && ndL au a R m))) (auF au ch a (f || (tr && ndL au a R m))) (sgF sg ch (f || (tr && ndL au a R m))) ∧ (∀ u ∈ us2, u ∈ L ++ uR) ∧ OutD τ τf (fun x => x = d ∨ x = U ∨ x = A ∨ x = S ∨ x ∈ L ++ uR) ∧ τf.2.2 = τ.2.2 ∧
    ∀ (b : Nat × Nat) (out : MV × St) (v10 v11 v12 : MV), (∀ (b2 : Nat × Nat) (v10 v11 v12 : MV), Go (fun _ => 0) 1 mX11_erase b2 169 [vA d, vI a, vI p, vI z, vI (bI (tr = true)), vA c0, vI (csF ch (f || (tr && ndL au a R m))), vA c0, vI (n : Int), vI (n : Int), v10, v11, v12] [] τf out) → Go (fun _ => 0) 1 mX11_erase b 56 [vA d, vI a, vI p, vI z, vI (bI (tr = true)), vA c0, vI (csF ch f), vA c0, vI (n : Int), vI t, v10, v11, v12] [] τ out
theorem bI_0x {p : Prop} [Decidable p] (h : ¬ bI p = 0) : p := bI_1.mp h
set_option maxHeartbeats 16000000 in
theorem lp_er2 {a p z : Int} {tr : Bool} {c0 n : Nat} (hch : 0 ≤ ch ∧ ch < 60) (hn200 : n ≤ 200) : ∀ (R : List Un) (uR : List Nat) (m : Nat) (t : Int) (τ : St) (L : List Nat) (VL : List Un) (f : Bool), DocR τ d U A S (L ++ uR) (VL ++ R) (chF ch f) (auF au ch a f) (sgF sg ch f) → L.length = VL.length → (∀ v ∈ R, v.2.1 < ch) → (m : Int) ≤ cntS R → (∀ s : Nat, s < m → τ.2.1 c0 (t.toNat + s) = uR[(atL R s).toNat]?) → GamD τ c0 = (3, n) → c0 < τ.2.2 → 0 ≤ t → t + m = n → Er2 () d U A S ch au sg a p z tr c0 n R uR m t τ L VL f := by
  intro R
  induction R with
  | nil =>
    intro uR m t τ L VL f hD hl hR hm hpt hgc hclt h0 ht
    rw [cntS] at hm
    have em : m = 0 := by omega
    subst em
    have e1 : (f || (tr && ndL au a [] 0)) = f := by rw [ndL, Bool.and_false, Bool.or_false]
    unfold Er2
    rw [e1]
    exact ⟨τ, L ++ uR, hD, fun u hu => hu, OutD.refl, rfl, fun b out v10 v11 v12 K => er2_exit (by omega) K⟩
  | cons v R ih =>
    intro uR m t τ L VL f hD hl hR hm hpt hgc hclt h0 ht
    by_cases em : m = 0
    · subst em
      have e1 : (f || (tr && ndL au a (v :: R) 0)) = f := by rw [ndL_0, Bool.and_false, Bool.or_false]
      unfold Er2
      rw [e1, erL_0]
      exact ⟨τ, L ++ uR, hD, fun u hu => hu, OutD.refl, rfl, fun b out v10 v11 v12 K => er2_exit (by omega) K⟩
    have hlen := hD.len
    rw [List.length_append, List.length_append, List.length_cons] at hlen
    obtain ⟨u, uR', rfl⟩ : ∃ u uR', uR = u :: uR' := by
      cases uR with
      | nil => rw [List.length_nil] at hlen; omega
      | cons u uR' => exact ⟨u, uR', rfl⟩
    rw [List.length_cons] at hlen
    obtain ⟨u2, v2, e1, e2, -, -, e5, hgu, w1, w2, w3, hvw, hum, hu9, hult⟩ := hD.unit (i := (L.length : Int)) (by omega) (by rw [List.length_append, List.length_cons]; omega)
    rw [Int.toNat_natCast, getMid rfl] at e1
    rw [Int.toNat_natCast, getMid hl.symm] at e2
    cases e1
    cases e2
    have hvc : v.2.1 < ch := hR v List.mem_cons_self
    have hR' : ∀ v ∈ R, v.2.1 < ch := fun x hx => hR x (List.mem_cons_of_mem _ hx)
    obtain ⟨⟨n1, n2, n3, n4, n5, n6⟩, nu⟩ := hD.ne
    obtain ⟨⟨⟨hgd1, hgU1, hgA1, hgS1⟩, ⟨hpU1, hpA1, hpS1⟩, hge, ⟨hlt1, hlt2, hlt3, hlt4⟩⟩, ⟨hn, hn2, u3, u4, u5⟩, -, -, hchx, hch2, hcl⟩ := id hD
    have key : ∀ {x : Nat} {q : Nat × Nat}, GamD τ x = q → (3, n) ≠ q → c0 ≠ x := fun hx hq e => hq (by rw [← hx, ← e]; exact hgc.symm)
    have q1 : c0 ≠ d := key hgd1 (by intro e; cases e)
    have q2 : c0 ≠ U := key hgU1 (by intro e; have := congrArg Prod.snd e; dsimp only at this; omega)
    have q3 : c0 ≠ A := key hgA1 (by intro e; cases e)
    have q4 : c0 ≠ S := key hgS1 (by intro e; cases e)
    have q5 : ∀ x ∈ L ++ u :: uR', c0 ≠ x := fun x hx => key (u5 x hx).1 (by intro e; cases e)
    have hlx : (L ++ u :: uR').length = L.length + uR'.length + 1 := by rw [List.length_append, List.length_cons]; omega
    rw [hlx] at hn2
    rw [cntS] at hm
    by_cases hs : v.2.2 < 0
    · rw [if_pos hs] at hm
      have hpt0 := hpt 0 (by omega)
      rw [show ((0 : Nat) : Int) = 0 from rfl, atL_s0 hs] at hpt0
      have hpt : τ.2.1 c0 t.toNat = some u := hpt0
      have hpn : ∀ s : Nat, s < m - 1 → τ.2.1 c0 ((t + 1).toNat + s) = uR'[(atL R s).toNat]? := fun s hs2 => by
        have e := ‹∀ s : Nat, s < m → τ.2.1 c0 (t.toNat + s) = (u :: uR')[(atL (v :: R) s).toNat]?› (s + 1) (by omega)
        have e3 := atL_le R s
        rw [atL_s1 hs (by omega), show ((s + 1 : Nat) : Int) - 1 = (s : Int) by omega, show (1 + atL R s).toNat = (atL R s).toNat + 1 by omega, List.getElem?_cons_succ] at e
        rw [← e]
        exact congrArg (τ.2.1 c0) (by omega)
      have hA : 0 ≤ v.2.1 → τ.1 A (τ.1 u 1).toNat = au v.2.1 := fun hh => by
        rw [w2, (hcl _ hh (by have := chF_le (ch := ch) (f := f); omega)).1.1]
        exact auF_lt hvc
      obtain ⟨m1, m2, m3, m4⟩ := nu u (List.mem_append_right _ List.mem_cons_self)
      have hmem : ∀ x, x ∈ (L ++ [u]) ++ uR' → x ∈ L ++ u :: uR' := fun x hx => by rw [List.append_assoc] at hx; exact hx
      have hmem2 : ∀ x, x ∈ L ++ uR' → x ∈ L ++ u :: uR' := fun x hx => by
        rcases List.mem_append.mp hx with hx | hx
        · exact List.mem_append_left _ hx
        · exact List.mem_append_right _ (List.mem_cons_of_mem _ hx)
      have humm : u ∈ L ++ u :: uR' := List.mem_append_right _ List.mem_cons_self
      by_cases hk : tr = true ∧ ownV au a v = false
      · have e9 : ndL au a (v :: R) m = true := by
          rw [ndL, if_neg em, if_pos hs, hk.2]
          rfl
        have e10 : erL au a ch tr (v :: R) m = (v.1, v.2.1, ch) :: erL au a ch tr R (m - 1) := by rw [erL, if_neg em, if_pos hs, if_pos hk]
        have eg : ∀ f, (f || (tr && ndL au a (v :: R) m)) = true := fun f => by rw [e9, hk.1]; cases f <;> rfl
        cases f with
        | false =>
          have hD0 : DocR τ d U A S (L ++ u :: uR') (VL ++ v :: R) ch au sg := hD
          obtain ⟨c1, c2⟩ := hD0.change (a := a) hch.2
          have hgu9 : GamD (chS τ d A S ch a) u = (22, 0) := (c1.2.1.2.2.2.2 u humm).1
          have x0 := (c2.2 u hult (by rintro (e | e | e); exact m1 e; exact m3 e; exact m4 e)).1
          obtain ⟨d1, d2⟩ := c1.setV (τ := P1 (chS τ d A S ch a) u 2 ch) (w := (v.1, v.2.1, ch)) hl rfl (fun x j hx => P1_ne hx) (fun x => GamD_P1 (by decide)) (Prod.ext ((P1_nj (by decide)).trans ((x0 0).trans w1)) (Prod.ext ((P1_nj (by decide)).trans ((x0 1).trans w2)) P1_eq)) ⟨hvw.1, ⟨hvw.2.1.1, by show v.2.1 < ch + 1; omega⟩, by show -1 ≤ ch; omega, by show ch < ch + 1; omega⟩
          have hk3 := ih uR' (m - 1) (t + 1) (P1 (chS τ d A S ch a) u 2 ch) (L ++ [u]) (VL ++ [(v.1, v.2.1, ch)]) true (by rw [List.append_assoc, List.append_assoc]; exact d1) (by rw [List.length_append, List.length_append, hl]; rfl) hR' (by omega) hpn ((GamD_P1 (by decide)).trans ((c2.gam hclt (by rintro (e | e | e); exact q1 e; exact q3 e; exact q4 e)).trans hgc)) hclt (by omega) (by omega)
          unfold Er2 at hk3 ⊢
          rw [Bool.true_or, List.append_assoc] at hk3
          rw [eg, e10]
          obtain ⟨τf, us2, k0, k3, k4, k5, k2⟩ := hk3
          replace k3 := fun x hx => hmem x (k3 x hx)
          replace k4 : OutD τ τf (fun x => x = d ∨ x = U ∨ x = A ∨ x = S ∨ x ∈ L ++ u :: uR') := ((c2.trans d2).trans k4).mono (fun x _ hx => by
            rcases hx with ((hx | hx | hx) | hx) | (hx | hx | hx | hx | hx)
            · exact Or.inl hx
            · exact Or.inr (Or.inr (Or.inl hx))
            · exact Or.inr (Or.inr (Or.inr (Or.inl hx)))
            · exact Or.inr (Or.inr (Or.inr (Or.inr (by rw [hx]; exact humm))))
            · exact Or.inl hx
            · exact Or.inr (Or.inl hx)
            · exact Or.inr (Or.inr (Or.inl hx))
            · exact Or.inr (Or.inr (Or.inr (Or.inl hx)))
            · exact Or.inr (Or.inr (Or.inr (Or.inr (hmem x hx)))))
          refine ⟨τf, us2, k0, k3, k4, k5, fun b out v10 v11 v12 K => ?_⟩
          obtain ⟨G, hG⟩ : ∃ z : Int, z = bI (ownV au a v = true) := ⟨_, rfl⟩
          have K99 : ∀ (b : Nat × Nat) (v12 : MV), Go (fun _ => 0) 1 mX11_erase b 99 [vA d, vI a, vI p, vI z, vI (bI (tr = true)), vA c0, vI (-1), vA c0, vI (n : Int), vI t, vA u, vI G, v12] [] τ out := by
            intro b v12
            refine go_iload (at_of tX11_erase 3 5 rfl) rfl rfl ?_
            refine go_if_eq (tgt := 136) (at_of tX11_erase 3 6 rfl) (by decide) (fun h101 => ?_) (fun h101 => ?_)
            · exfalso; exact absurd (bI_0.mp h101) (by rw [hk.1]; decide)
            refine go_iload (at_of tX11_erase 3 7 rfl) rfl rfl ?_
            refine go_if_ne (tgt := 136) (at_of tX11_erase 3 8 rfl) (by decide) (fun h106 => ?_) (fun h106 => ?_)
            · exfalso; exact absurd (bI_1.mp (hG ▸ h106)) (by rw [hk.2]; decide)
            refine go_iload (at_of tX11_erase 3 9 rfl) rfl rfl ?_
            refine go_if_ge (tgt := 122) (at_of tX11_erase 3 10 rfl) (by decide) (fun h111 => ?_) (fun h111 => ?_)
            · exfalso; omega
            refine go_aload_n (at_of tX11_erase 3 11 rfl) rfl ?_
            refine go_iload_n (at_of tX11_erase 3 12 rfl) rfl ?_
            refine go_cVD (con_changeD hD0 hch.2) lk_X11_45 rfl (by first | exact hgd1 | (simp (disch := omega) only [GamD_P1, GamD_M1, GamD_R1]; exact hgd1)) (at_of tX11_erase 3 13 rfl) rfl (by decide) rfl (Nat.le_of_ble_eq_true rfl) rfl (by first | decide | exact ⟨Nat.zero_le _, Nat.zero_le _⟩) ?_
            refine go_goto (tgt := 124) (at_of tX11_erase 3 14 rfl) (by decide) ?_
            refine go_istore (at_of tX11_erase 4 0 rfl) rfl rfl ?_
            refine go_aload (at_of tX11_erase 4 1 rfl) rfl ?_
            refine go_iload (at_of tX11_erase 4 2 rfl) rfl rfl ?_
            refine go_put1D fp_X11_35 rfl (Or.inl rfl) hgu9 (Or.inl (Or.inl rfl)) (at_of tX11_erase 4 3 rfl) ?_
            refine go_goto (tgt := 163) (at_of tX11_erase 4 4 rfl) (by decide) ?_
            refine go_iinc (at_of tX11_erase 5 2 rfl) rfl (by unfold in32; omega) rfl rfl ?_
            refine go_goto (tgt := 56) (at_of tX11_erase 5 3 rfl) (by decide) ?_
            exact k2 _ _ _ _ _ K
          show Go (fun _ => 0) 1 mX11_erase b 56 [vA d, vI a, vI p, vI z, vI (bI (tr = true)), vA c0, vI (-1), vA c0, vI (n : Int), vI t, v10, v11, v12] [] τ out
          refine go_iload (at_of tX11_erase 2 0 rfl) rfl rfl ?_
          refine go_iload (at_of tX11_erase 2 1 rfl) rfl rfl ?_
          refine go_icmp_ge (tgt := 169) (at_of tX11_erase 2 2 rfl) (by decide) (fun h60 => ?_) (fun h60 => ?_)
          · exfalso; omega
          refine go_aload (at_of tX11_erase 2 3 rfl) rfl ?_
          refine go_iload (at_of tX11_erase 2 4 rfl) rfl rfl ?_
          refine go_aaldD (by first | exact hgc | (simp (disch := omega) only [GamD_P1, GamD_M1, GamD_R1]; exact hgc)) (Or.inl rfl) (by omega) (by omega) hpt (at_of tX11_erase 2 5 rfl) ?_
          refine go_astore (at_of tX11_erase 2 6 rfl) rfl rfl ?_
          refine go_aload (at_of tX11_erase 2 7 rfl) rfl ?_
          refine go_getfD fl_X11_42 rfl (by first | exact hgu | (simp (disch := omega) only [GamD_P1, GamD_M1, GamD_R1]; exact hgu)) (at_of tX11_erase 2 8 rfl) ?_
          refine go_if_lt (tgt := 96) (at_of tX11_erase 2 9 rfl) (by decide) (fun h75 => ?_) (fun h75 => ?_)
          · refine go_iconst (at_of tX11_erase 3 3 rfl) (by unfold in32; omega) ?_
            refine go_istore (at_of tX11_erase 3 4 rfl) rfl rfl ?_
            first
            | (rw [show G = 1 from by rw [hG]; exact bI_t (decide_eq_true ⟨by omega, (hA (by omega)).symm.trans h89⟩)] at K99; exact K99 _ _)
            | (rw [show G = 0 from by rw [hG]; exact bI_f (fun y => h89 ((hA (of_decide_eq_true y).1).trans (of_decide_eq_true y).2))] at K99; exact K99 _ _)
            | (rw [show G = 0 from by rw [hG]; exact bI_f (fun y => by have := (of_decide_eq_true y).1; omega)] at K99; exact K99 _ _)
          · refine go_aload_n (at_of tX11_erase 2 10 rfl) rfl ?_
            refine go_getrD (q := A) fl_X11_15 rfl (by first | exact hgd1 | (simp (disch := omega) only [GamD_P1, GamD_M1, GamD_R1]; exact hgd1)) hpA1 (at_of tX11_erase 2 11 rfl) ?_
            refine go_aload (at_of tX11_erase 2 12 rfl) rfl ?_
            refine go_getfD fl_X11_42 rfl (by first | exact hgu | (simp (disch := omega) only [GamD_P1, GamD_M1, GamD_R1]; exact hgu)) (at_of tX11_erase 2 13 rfl) ?_
            refine go_ialdD (by first | exact hgA1 | (simp (disch := omega) only [GamD_P1, GamD_M1, GamD_R1]; exact hgA1)) (by omega) (by have := chF_le (ch := ch) (f := false); omega) (at_of tX11_erase 2 14 rfl) ?_
            refine go_iload_n (at_of tX11_erase 2 15 rfl) rfl ?_
            refine go_icmp_ne (tgt := 96) (at_of tX11_erase 3 0 rfl) (by decide) (fun h89 => ?_) (fun h89 => ?_)
            · refine go_iconst (at_of tX11_erase 3 3 rfl) (by unfold in32; omega) ?_
              refine go_istore (at_of tX11_erase 3 4 rfl) rfl rfl ?_
              first
              | (rw [show G = 1 from by rw [hG]; exact bI_t (decide_eq_true ⟨by omega, (hA (by omega)).symm.trans h89⟩)] at K99; exact K99 _ _)
              | (rw [show G = 0 from by rw [hG]; exact bI_f (fun y => h89 ((hA (of_decide_eq_true y).1).trans (of_decide_eq_true y).2))] at K99; exact K99 _ _)
              | (rw [show G = 0 from by rw [hG]; exact bI_f (fun y => by have := (of_decide_eq_true y).1; omega)] at K99; exact K99 _ _)
            · refine go_iconst (at_of tX11_erase 3 1 rfl) (by unfold in32; omega) ?_
              refine go_goto (tgt := 97) (at_of tX11_erase 3 2 rfl) (by decide) ?_
              refine go_istore (at_of tX11_erase 3 4 rfl) rfl rfl ?_
              first
              | (rw [show G = 1 from by rw [hG]; exact bI_t (decide_eq_true ⟨by omega, (hA (by omega)).symm.trans h89⟩)] at K99; exact K99 _ _)
              | (rw [show G = 0 from by rw [hG]; exact bI_f (fun y => h89 ((hA (of_decide_eq_true y).1).trans (of_decide_eq_true y).2))] at K99; exact K99 _ _)
              | (rw [show G = 0 from by rw [hG]; exact bI_f (fun y => by have := (of_decide_eq_true y).1; omega)] at K99; exact K99 _ _)
        | true =>
          have hgu9 := hgu
          obtain ⟨d1, d2⟩ := hD.setV (τ := P1 τ u 2 ch) (w := (v.1, v.2.1, ch)) hl rfl (fun x j hx => P1_ne hx) (fun x => GamD_P1 (by decide)) (Prod.ext ((P1_nj (by decide)).trans w1) (Prod.ext ((P1_nj (by decide)).trans w2) P1_eq)) ⟨hvw.1, ⟨hvw.2.1.1, by show v.2.1 < ch + 1; omega⟩, by show -1 ≤ ch; omega, by show ch < ch + 1; omega⟩
          have hk3 := ih uR' (m - 1) (t + 1) (P1 τ u 2 ch) (L ++ [u]) (VL ++ [(v.1, v.2.1, ch)]) true (by rw [List.append_assoc, List.append_assoc]; exact d1) (by rw [List.length_append, List.length_append, hl]; rfl) hR' (by omega) hpn ((GamD_P1 (by decide)).trans hgc) hclt (by omega) (by omega)
          unfold Er2 at hk3 ⊢
          rw [Bool.true_or, List.append_assoc] at hk3
          rw [eg, e10]
          obtain ⟨τf, us2, k0, k3, k4, k5, k2⟩ := hk3
          replace k3 := fun x hx => hmem x (k3 x hx)
          replace k4 : OutD τ τf (fun x => x = d ∨ x = U ∨ x = A ∨ x = S ∨ x ∈ L ++ u :: uR') := (d2.trans k4).mono (fun x _ hx => by
            rcases hx with hx | (hx | hx | hx | hx | hx)
            · exact Or.inr (Or.inr (Or.inr (Or.inr (by rw [hx]; exact humm))))
            · exact Or.inl hx
            · exact Or.inr (Or.inl hx)
            · exact Or.inr (Or.inr (Or.inl hx))
            · exact Or.inr (Or.inr (Or.inr (Or.inl hx)))
            · exact Or.inr (Or.inr (Or.inr (Or.inr (hmem x hx)))))
          refine ⟨τf, us2, k0, k3, k4, k5, fun b out v10 v11 v12 K => ?_⟩
          obtain ⟨G, hG⟩ : ∃ z : Int, z = bI (ownV au a v = true) := ⟨_, rfl⟩
          have K99 : ∀ (b : Nat × Nat) (v12 : MV), Go (fun _ => 0) 1 mX11_erase b 99 [vA d, vI a, vI p, vI z, vI (bI (tr = true)), vA c0, vI ch, vA c0, vI (n : Int), vI t, vA u, vI G, v12] [] τ out := by
            intro b v12
            refine go_iload (at_of tX11_erase 3 5 rfl) rfl rfl ?_
            refine go_if_eq (tgt := 136) (at_of tX11_erase 3 6 rfl) (by decide) (fun h101 => ?_) (fun h101 => ?_)
            · exfalso; exact absurd (bI_0.mp h101) (by rw [hk.1]; decide)
            refine go_iload (at_of tX11_erase 3 7 rfl) rfl rfl ?_
            refine go_if_ne (tgt := 136) (at_of tX11_erase 3 8 rfl) (by decide) (fun h106 => ?_) (fun h106 => ?_)
            · exfalso; exact absurd (bI_1.mp (hG ▸ h106)) (by rw [hk.2]; decide)
            refine go_iload (at_of tX11_erase 3 9 rfl) rfl rfl ?_
            refine go_if_ge (tgt := 122) (at_of tX11_erase 3 10 rfl) (by decide) (fun h111 => ?_) (fun h111 => ?_)
            rotate_left
            · exfalso; omega
            refine go_iload (at_of tX11_erase 3 15 rfl) rfl rfl ?_
            refine go_istore (at_of tX11_erase 4 0 rfl) rfl rfl ?_
            refine go_aload (at_of tX11_erase 4 1 rfl) rfl ?_
            refine go_iload (at_of tX11_erase 4 2 rfl) rfl rfl ?_
            refine go_put1D fp_X11_35 rfl (Or.inl rfl) hgu9 (Or.inl (Or.inl rfl)) (at_of tX11_erase 4 3 rfl) ?_
            refine go_goto (tgt := 163) (at_of tX11_erase 4 4 rfl) (by decide) ?_
            refine go_iinc (at_of tX11_erase 5 2 rfl) rfl (by unfold in32; omega) rfl rfl ?_
            refine go_goto (tgt := 56) (at_of tX11_erase 5 3 rfl) (by decide) ?_
            exact k2 _ _ _ _ _ K
          show Go (fun _ => 0) 1 mX11_erase b 56 [vA d, vI a, vI p, vI z, vI (bI (tr = true)), vA c0, vI ch, vA c0, vI (n : Int), vI t, v10, v11, v12] [] τ out
          refine go_iload (at_of tX11_erase 2 0 rfl) rfl rfl ?_
          refine go_iload (at_of tX11_erase 2 1 rfl) rfl rfl ?_
          refine go_icmp_ge (tgt := 169) (at_of tX11_erase 2 2 rfl) (by decide) (fun h60 => ?_) (fun h60 => ?_)
          · exfalso; omega
          refine go_aload (at_of tX11_erase 2 3 rfl) rfl ?_
          refine go_iload (at_of tX11_erase 2 4 rfl) rfl rfl ?_
          refine go_aaldD (by first | exact hgc | (simp (disch := omega) only [GamD_P1, GamD_M1, GamD_R1]; exact hgc)) (Or.inl rfl) (by omega) (by omega) hpt (at_of tX11_erase 2 5 rfl) ?_
          refine go_astore (at_of tX11_erase 2 6 rfl) rfl rfl ?_
          refine go_aload (at_of tX11_erase 2 7 rfl) rfl ?_
          refine go_getfD fl_X11_42 rfl (by first | exact hgu | (simp (disch := omega) only [GamD_P1, GamD_M1, GamD_R1]; exact hgu)) (at_of tX11_erase 2 8 rfl) ?_
          refine go_if_lt (tgt := 96) (at_of tX11_erase 2 9 rfl) (by decide) (fun h75 => ?_) (fun h75 => ?_)
          · refine go_iconst (at_of tX11_erase 3 3 rfl) (by unfold in32; omega) ?_
            refine go_istore (at_of tX11_erase 3 4 rfl) rfl rfl ?_
            first
            | (rw [show G = 1 from by rw [hG]; exact bI_t (decide_eq_true ⟨by omega, (hA (by omega)).symm.trans h89⟩)] at K99; exact K99 _ _)
            | (rw [show G = 0 from by rw [hG]; exact bI_f (fun y => h89 ((hA (of_decide_eq_true y).1).trans (of_decide_eq_true y).2))] at K99; exact K99 _ _)
            | (rw [show G = 0 from by rw [hG]; exact bI_f (fun y => by have := (of_decide_eq_true y).1; omega)] at K99; exact K99 _ _)
          · refine go_aload_n (at_of tX11_erase 2 10 rfl) rfl ?_
            refine go_getrD (q := A) fl_X11_15 rfl (by first | exact hgd1 | (simp (disch := omega) only [GamD_P1, GamD_M1, GamD_R1]; exact hgd1)) hpA1 (at_of tX11_erase 2 11 rfl) ?_
            refine go_aload (at_of tX11_erase 2 12 rfl) rfl ?_
            refine go_getfD fl_X11_42 rfl (by first | exact hgu | (simp (disch := omega) only [GamD_P1, GamD_M1, GamD_R1]; exact hgu)) (at_of tX11_erase 2 13 rfl) ?_
            refine go_ialdD (by first | exact hgA1 | (simp (disch := omega) only [GamD_P1, GamD_M1, GamD_R1]; exact hgA1)) (by omega) (by have := chF_le (ch := ch) (f := true); omega) (at_of tX11_erase 2 14 rfl) ?_
            refine go_iload_n (at_of tX11_erase 2 15 rfl) rfl ?_
            refine go_icmp_ne (tgt := 96) (at_of tX11_erase 3 0 rfl) (by decide) (fun h89 => ?_) (fun h89 => ?_)
            · refine go_iconst (at_of tX11_erase 3 3 rfl) (by unfold in32; omega) ?_
              refine go_istore (at_of tX11_erase 3 4 rfl) rfl rfl ?_
              first
              | (rw [show G = 1 from by rw [hG]; exact bI_t (decide_eq_true ⟨by omega, (hA (by omega)).symm.trans h89⟩)] at K99; exact K99 _ _)
              | (rw [show G = 0 from by rw [hG]; exact bI_f (fun y => h89 ((hA (of_decide_eq_true y).1).trans (of_decide_eq_true y).2))] at K99; exact K99 _ _)
              | (rw [show G = 0 from by rw [hG]; exact bI_f (fun y => by have := (of_decide_eq_true y).1; omega)] at K99; exact K99 _ _)
            · refine go_iconst (at_of tX11_erase 3 1 rfl) (by unfold in32; omega) ?_
              refine go_goto (tgt := 97) (at_of tX11_erase 3 2 rfl) (by decide) ?_
              refine go_istore (at_of tX11_erase 3 4 rfl) rfl rfl ?_
              first
              | (rw [show G = 1 from by rw [hG]; exact bI_t (decide_eq_true ⟨by omega, (hA (by omega)).symm.trans h89⟩)] at K99; exact K99 _ _)
              | (rw [show G = 0 from by rw [hG]; exact bI_f (fun y => h89 ((hA (of_decide_eq_true y).1).trans (of_decide_eq_true y).2))] at K99; exact K99 _ _)
              | (rw [show G = 0 from by rw [hG]; exact bI_f (fun y => by have := (of_decide_eq_true y).1; omega)] at K99; exact K99 _ _)
      · have e10 : erL au a ch tr (v :: R) m = erL au a ch tr R (m - 1) := by rw [erL, if_neg em, if_pos hs, if_neg hk]
        have e9 : (tr && ndL au a (v :: R) m) = (tr && ndL au a R (m - 1)) := by
          rw [ndL, if_neg em, if_pos hs]
          cases tr with
          | false => rfl
          | true =>
            have ho : ownV au a v = true := by
              cases ho2 : ownV au a v with
              | false => exact absurd ⟨rfl, ho2⟩ hk
              | true => rfl
            rw [ho]
            rfl
        obtain ⟨d1, d2⟩ := hD.drop (k := (L.length : Int)) ⟨by omega, by omega⟩
        rw [Int.toNat_natCast, eraseMid rfl, eraseMid hl.symm] at d1
        have hk3 := ih uR' (m - 1) (t + 1) _ L VL f d1 hl hR' (by omega) (fun s hs2 => by rw [← hpn s hs2]; exact (d2.2 c0 hclt (by rintro (e | e); exact q1 e; exact q2 e)).2 _) ((d2.gam hclt (by rintro (e | e); exact q1 e; exact q2 e)).trans hgc) hclt (by omega) (by omega)
        unfold Er2 at hk3 ⊢
        rw [e9, e10]
        obtain ⟨τf, us2, k0, k3, k4, k5, k2⟩ := hk3
        replace k3 := fun x hx => hmem2 x (k3 x hx)
        replace k4 : OutD τ τf (fun x => x = d ∨ x = U ∨ x = A ∨ x = S ∨ x ∈ L ++ u :: uR') := (d2.trans k4).mono (fun x _ hx => by
          rcases hx with (hx | hx) | (hx | hx | hx | hx | hx)
          · exact Or.inl hx
          · exact Or.inr (Or.inl hx)
          · exact Or.inl hx
          · exact Or.inr (Or.inl hx)
          · exact Or.inr (Or.inr (Or.inl hx))
          · exact Or.inr (Or.inr (Or.inr (Or.inl hx)))
          · exact Or.inr (Or.inr (Or.inr (Or.inr (hmem2 x hx)))))
        refine ⟨τf, us2, k0, k3, k4, k5, fun b out v10 v11 v12 K => ?_⟩
        obtain ⟨G, hG⟩ : ∃ z : Int, z = bI (ownV au a v = true) := ⟨_, rfl⟩
        have KF : ∀ b : Nat × Nat, Go (fun _ => 0) 1 mX11_erase b 157 [vA d, vI a, vI p, vI z, vI (bI (tr = true)), vA c0, vI (csF ch f), vA c0, vI (n : Int), vI t, vA u, vI G, vI (L.length : Int)] [] τ out := by
          intro b
          refine go_aload_n (at_of tX11_erase 4 15 rfl) rfl ?_
          refine go_iload (at_of tX11_erase 5 0 rfl) rfl rfl ?_
          refine go_cVD (con_dropD hD ⟨by omega, by rw [hlx]; omega⟩) lk_X11_51 rfl (by first | exact hgd1 | (simp (disch := omega) only [GamD_P1, GamD_M1, GamD_R1]; exact hgd1)) (at_of tX11_erase 5 1 rfl) rfl (by decide) rfl (Nat.le_of_ble_eq_true rfl) rfl (by first | decide | exact ⟨Nat.zero_le _, Nat.zero_le _⟩) ?_
          refine go_iinc (at_of tX11_erase 5 2 rfl) rfl (by unfold in32; omega) rfl rfl ?_
          refine go_goto (tgt := 56) (at_of tX11_erase 5 3 rfl) (by decide) ?_
          exact k2 _ _ _ _ _ K
        have K99 : ∀ (b : Nat × Nat) (v12 : MV), Go (fun _ => 0) 1 mX11_erase b 99 [vA d, vI a, vI p, vI z, vI (bI (tr = true)), vA c0, vI (csF ch f), vA c0, vI (n : Int), vI t, vA u, vI G, v12] [] τ out := by
          intro b v12
          refine go_iload (at_of tX11_erase 3 5 rfl) rfl rfl ?_
          refine go_if_eq (tgt := 136) (at_of tX11_erase 3 6 rfl) (by decide) (fun h101 => ?_) (fun h101 => ?_)
          · refine go_iconst (at_of tX11_erase 4 5 rfl) (by unfold in32; omega) ?_
            refine go_istore (at_of tX11_erase 4 6 rfl) rfl rfl ?_
            exact lp_find hD L.length _ 0 (Int.le_refl _) (by omega) (fun b2 => KF b2)
          · refine go_iload (at_of tX11_erase 3 7 rfl) rfl rfl ?_
            refine go_if_ne (tgt := 136) (at_of tX11_erase 3 8 rfl) (by decide) (fun h106 => ?_) (fun h106 => ?_)
            · refine go_iconst (at_of tX11_erase 4 5 rfl) (by unfold in32; omega) ?_
              refine go_istore (at_of tX11_erase 4 6 rfl) rfl rfl ?_
              exact lp_find hD L.length _ 0 (Int.le_refl _) (by omega) (fun b2 => KF b2)
            · exact absurd (show tr = true ∧ ownV au a v = false from ⟨bI_0x h101, Bool.eq_false_iff.mpr (bI_0.mp (hG ▸ h106))⟩) hk
        show Go (fun _ => 0) 1 mX11_erase b 56 [vA d, vI a, vI p, vI z, vI (bI (tr = true)), vA c0, vI (csF ch f), vA c0, vI (n : Int), vI t, v10, v11, v12] [] τ out
        refine go_iload (at_of tX11_erase 2 0 rfl) rfl rfl ?_
        refine go_iload (at_of tX11_erase 2 1 rfl) rfl rfl ?_
        refine go_icmp_ge (tgt := 169) (at_of tX11_erase 2 2 rfl) (by decide) (fun h60 => ?_) (fun h60 => ?_)
        · exfalso; omega
        refine go_aload (at_of tX11_erase 2 3 rfl) rfl ?_
        refine go_iload (at_of tX11_erase 2 4 rfl) rfl rfl ?_
        refine go_aaldD (by first | exact hgc | (simp (disch := omega) only [GamD_P1, GamD_M1, GamD_R1]; exact hgc)) (Or.inl rfl) (by omega) (by omega) hpt (at_of tX11_erase 2 5 rfl) ?_
        refine go_astore (at_of tX11_erase 2 6 rfl) rfl rfl ?_
        refine go_aload (at_of tX11_erase 2 7 rfl) rfl ?_
        refine go_getfD fl_X11_42 rfl (by first | exact hgu | (simp (disch := omega) only [GamD_P1, GamD_M1, GamD_R1]; exact hgu)) (at_of tX11_erase 2 8 rfl) ?_
        refine go_if_lt (tgt := 96) (at_of tX11_erase 2 9 rfl) (by decide) (fun h75 => ?_) (fun h75 => ?_)
        · refine go_iconst (at_of tX11_erase 3 3 rfl) (by unfold in32; omega) ?_
          refine go_istore (at_of tX11_erase 3 4 rfl) rfl rfl ?_
          first
          | (rw [show G = 1 from by rw [hG]; exact bI_t (decide_eq_true ⟨by omega, (hA (by omega)).symm.trans h89⟩)] at K99; exact K99 _ _)
          | (rw [show G = 0 from by rw [hG]; exact bI_f (fun y => h89 ((hA (of_decide_eq_true y).1).trans (of_decide_eq_true y).2))] at K99; exact K99 _ _)
          | (rw [show G = 0 from by rw [hG]; exact bI_f (fun y => by have := (of_decide_eq_true y).1; omega)] at K99; exact K99 _ _)
        · refine go_aload_n (at_of tX11_erase 2 10 rfl) rfl ?_
          refine go_getrD (q := A) fl_X11_15 rfl (by first | exact hgd1 | (simp (disch := omega) only [GamD_P1, GamD_M1, GamD_R1]; exact hgd1)) hpA1 (at_of tX11_erase 2 11 rfl) ?_
          refine go_aload (at_of tX11_erase 2 12 rfl) rfl ?_
          refine go_getfD fl_X11_42 rfl (by first | exact hgu | (simp (disch := omega) only [GamD_P1, GamD_M1, GamD_R1]; exact hgu)) (at_of tX11_erase 2 13 rfl) ?_
          refine go_ialdD (by first | exact hgA1 | (simp (disch := omega) only [GamD_P1, GamD_M1, GamD_R1]; exact hgA1)) (by omega) (by have := chF_le (ch := ch) (f := f); omega) (at_of tX11_erase 2 14 rfl) ?_
          refine go_iload_n (at_of tX11_erase 2 15 rfl) rfl ?_
          refine go_icmp_ne (tgt := 96) (at_of tX11_erase 3 0 rfl) (by decide) (fun h89 => ?_) (fun h89 => ?_)
          · refine go_iconst (at_of tX11_erase 3 3 rfl) (by unfold in32; omega) ?_
            refine go_istore (at_of tX11_erase 3 4 rfl) rfl rfl ?_
            first
            | (rw [show G = 1 from by rw [hG]; exact bI_t (decide_eq_true ⟨by omega, (hA (by omega)).symm.trans h89⟩)] at K99; exact K99 _ _)
            | (rw [show G = 0 from by rw [hG]; exact bI_f (fun y => h89 ((hA (of_decide_eq_true y).1).trans (of_decide_eq_true y).2))] at K99; exact K99 _ _)
            | (rw [show G = 0 from by rw [hG]; exact bI_f (fun y => by have := (of_decide_eq_true y).1; omega)] at K99; exact K99 _ _)
          · refine go_iconst (at_of tX11_erase 3 1 rfl) (by unfold in32; omega) ?_
            refine go_goto (tgt := 97) (at_of tX11_erase 3 2 rfl) (by decide) ?_
            refine go_istore (at_of tX11_erase 3 4 rfl) rfl rfl ?_
            first
            | (rw [show G = 1 from by rw [hG]; exact bI_t (decide_eq_true ⟨by omega, (hA (by omega)).symm.trans h89⟩)] at K99; exact K99 _ _)
            | (rw [show G = 0 from by rw [hG]; exact bI_f (fun y => h89 ((hA (of_decide_eq_true y).1).trans (of_decide_eq_true y).2))] at K99; exact K99 _ _)
            | (rw [show G = 0 from by rw [hG]; exact bI_f (fun y => by have := (of_decide_eq_true y).1; omega)] at K99; exact K99 _ _)
    · rw [if_neg hs] at hm
      have hpn : ∀ s : Nat, s < m → τ.2.1 c0 (t.toNat + s) = uR'[(atL R s).toNat]? := fun s hs2 => by
        have e := hpt s hs2
        have e3 := atL_le R s
        rw [atL_u (by omega), show (1 + atL R s).toNat = (atL R s).toNat + 1 by omega, List.getElem?_cons_succ] at e
        exact e
      have hk := ih uR' m t τ (L ++ [u]) (VL ++ [v]) f (by rw [List.append_assoc, List.append_assoc]; exact hD) (by rw [List.length_append, List.length_append, hl]; rfl) hR' (by omega) hpn hgc hclt h0 ht
      unfold Er2 at hk ⊢
      rw [erL, if_neg em, if_neg hs, ndL, if_neg em, if_neg hs]
      rw [List.append_assoc, List.append_assoc] at hk
      exact hk
end Doc10
