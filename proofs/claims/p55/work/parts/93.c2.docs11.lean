/-! A part erased, whole. -/
section Doc11
variable {σ σ' τ τ' : St} {d U A S : Nat} {us : List Nat} {vs : List Un} {ch : Int} {au sg : Int → Int}
theorem cntS_drop : ∀ (vs : List Un) (p : Int), 0 ≤ p → p ≤ cntS vs → cntS (vs.drop (atL vs p).toNat) = cntS vs - p
  | [], p, h0, h1 => by
    rw [cntS] at h1 ⊢
    rw [List.drop_nil, cntS]
    omega
  | v :: t, p, h0, h1 => by
    rw [cntS] at h1 ⊢
    by_cases h : 0 ≤ v.2.2 ∨ 0 < p
    · have e4 := atL_le t (if v.2.2 < 0 then p - 1 else p)
      rw [atL, if_pos h, show (1 + atL t (if v.2.2 < 0 then p - 1 else p)).toNat = (atL t (if v.2.2 < 0 then p - 1 else p)).toNat + 1 by omega, List.drop_succ_cons]
      by_cases hv : v.2.2 < 0
      · rw [if_pos hv] at h1
        rw [if_pos hv, if_pos hv, cntS_drop t (p - 1) (by omega) (by omega)]
        omega
      · rw [if_neg hv] at h1
        rw [if_neg hv, if_neg hv, cntS_drop t p (by omega) (by omega)]
        omega
    · rw [atL, if_neg h]
      show cntS (v :: t) = _
      rw [cntS]
      omega
theorem con_eraseD (h : DocR σ d U A S us vs ch au sg) {a p z : Int} {tr : Bool} (hp : 0 ≤ p ∧ p < z ∧ z ≤ cntS vs) (hc : ch < 60) : ∃ τ us1, Con 1 mX11_erase 1 200 [vA d, vI a, vI p, vI z, vI (bI (tr = true))] σ (vI (csF ch (tr && ndL au a (vs.drop (atL vs p).toNat) (z - p).toNat)), τ) ∧ DocR τ d U A S us1 (vs.take (atL vs p).toNat ++ erL au a ch tr (vs.drop (atL vs p).toNat) (z - p).toNat) (chF ch (tr && ndL au a (vs.drop (atL vs p).toNat) (z - p).toNat)) (auF au ch a (tr && ndL au a (vs.drop (atL vs p).toNat) (z - p).toNat)) (sgF sg ch (tr && ndL au a (vs.drop (atL vs p).toNat) (z - p).toNat)) ∧ (∀ u ∈ us1, u ∈ us) ∧ OutD σ τ (fun x => x = d ∨ x = U ∨ x = A ∨ x = S ∨ x ∈ us) ∧ τ.2.2 = σ.2.2 + 1 := by
  obtain ⟨⟨⟨hgd, hgU, hgA, hgS⟩, ⟨hpU, hpA, hpS⟩, hge, ⟨hlt1, hlt2, hlt3, hlt4⟩⟩, ⟨hn, hn2, -, -, -⟩, -, -, hch, hch2, hcl⟩ := id h
  have hcs := cntS_le vs
  have hlv := h.len
  have hx := atL_lt vs p hp.1 (by omega)
  have hx0 := atL_le vs p
  have hout := ptS_out (σ := σ) (us := us) (vs := vs) (p := p) (t := z - p) (n := (z - p).toNat)
  have hD := h.out hout (fun z => z) (fun z => z) (fun z => z) (fun z => z) (fun u _ z => z)
  have hgc : GamD (ptS σ us vs p (z - p).toNat (z - p)) σ.2.2 = (3, (z - p).toNat) := ptS_g (by omega)
  have hw := h.2.2.2.1
  have hk := lp_er2 (d := d) (U := U) (A := A) (S := S) (ch := ch) (au := au) (sg := sg) (a := a) (p := p) (z := z) (tr := tr) (c0 := σ.2.2) (n := (z - p).toNat) ⟨hch2.1, hc⟩ (by omega) (vs.drop (atL vs p).toNat) (us.drop (atL vs p).toNat) (z - p).toNat 0 (ptS σ us vs p (z - p).toNat (z - p)) (us.take (atL vs p).toNat) (vs.take (atL vs p).toNat) false (by rw [List.take_append_drop, List.take_append_drop]; exact hD) (by rw [List.length_take, List.length_take, hlv]) (fun v hv => (hw v (List.mem_of_mem_drop hv)).2.1.2) (by rw [cntS_drop vs p hp.1 (by omega)]; omega) (fun s hs => ?_) hgc (Nat.lt_succ_self _) (Int.le_refl _) (by omega)
  rotate_left
  · show (if σ.2.2 = σ.2.2 ∧ ((((0 : Int).toNat + s : Nat)) : Int) < z - p then us[(atL vs (p + (((0 : Int).toNat + s : Nat) : Int))).toNat]? else σ.2.1 σ.2.2 _) = _
    have e0 : (0 : Int).toNat + s = s := Nat.zero_add s
    have e5 := atL_le (vs.drop (atL vs p).toNat) s
    rw [e0, if_pos ⟨rfl, by omega⟩, atL_add vs p s hp.1 (by omega), List.getElem?_drop]
    exact congrArg (fun i => us[i]?) (by omega)
  unfold Er2 at hk
  rw [Bool.false_or, List.take_append_drop] at hk
  obtain ⟨τ, us1, k0, k3, k4, k5, k2⟩ := hk
  refine ⟨τ, us1, ?_, k0, k3, (hout.trans k4).mono (fun x _ hx => hx.elim (fun z => z.elim) (fun z => z)), by rw [k5]; rfl⟩
  refine con_of_go mfX11_erase.1 trivial (Nat.le_of_ble_eq_true rfl) rfl (by decide) ?_
  show Go _ _ _ _ 0 [vA _, vI _, vI _, vI _, vI _, vT 9 0, vT 9 0, vT 9 0, vT 9 0, vT 9 0, vT 9 0, vT 9 0, vT 9 0] [] _ _
  refine go_iload_n (at_of tX11_erase 0 0 rfl) rfl ?_
  refine go_iload_n (at_of tX11_erase 0 1 rfl) rfl ?_
  refine go_isub (at_of tX11_erase 0 2 rfl) (by unfold in32; omega) ?_
  rw [show z - p = (((z - p).toNat : Nat) : Int) by omega]
  refine go_newPD (tq := 3) (n := (z - p).toNat) (a := σ.2.2) rfl (by omega) (Or.inl rfl) (by omega) cl_X11_7 ⟨Nat.le_refl _, by show (z - p).toNat ≤ 200; omega⟩ (at_of tX11_erase 0 3 rfl) ?_
  refine go_astore (at_of tX11_erase 0 4 rfl) rfl rfl ?_
  refine go_iload_n (at_of tX11_erase 0 5 rfl) rfl ?_
  refine go_istore (at_of tX11_erase 0 6 rfl) rfl rfl ?_
  rw [show nxD σ 3 (z - p).toNat = ptS σ us vs p (z - p).toNat (p - p) from by rw [Int.sub_self]; exact ptS_0.symm]
  refine lp_er1 h hp (z - p).toNat _ p (Int.le_refl _) (by omega) (fun b2 => ?_)
  refine go_iconst (at_of tX11_erase 1 7 rfl) (by unfold in32; omega) ?_
  refine go_istore (at_of tX11_erase 1 8 rfl) rfl rfl ?_
  refine go_aload (at_of tX11_erase 1 9 rfl) rfl ?_
  refine go_astore (at_of tX11_erase 1 10 rfl) rfl rfl ?_
  refine go_aload (at_of tX11_erase 1 11 rfl) rfl ?_
  refine go_alenD hgc (by omega) (by omega) (at_of tX11_erase 1 12 rfl) ?_
  refine go_istore (at_of tX11_erase 1 13 rfl) rfl rfl ?_
  refine go_iconst (at_of tX11_erase 1 14 rfl) (by unfold in32; omega) ?_
  refine go_istore (at_of tX11_erase 1 15 rfl) rfl rfl ?_
  exact k2 _ _ _ _ _ (fun b3 v10 v11 v12 => go_iload (at_of tX11_erase 5 4 rfl) rfl rfl (go_reti (at_of tX11_erase 5 5 rfl) rfl))
end Doc11
