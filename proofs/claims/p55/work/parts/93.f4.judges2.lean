/-! All judged, or an author's. -/
section Judges2
variable {σ σ' τ : St} {A : PastD} {D : PapD} {F : Nat → DocF}
theorem edA_now : (edA A D).1 A.2.1 = D := if_pos rfl
theorem DkR.nowD (h : DkR σ F A.2.1 A.2.2 (edA A D).1) : DocP σ (F A.2.1) D := by
  have h9 := h.2.2.2.2.2.1 A.2.1 (by omega)
  rw [edA_now] at h9
  exact h9
theorem edA_edA {D' : PapD} {j : Nat} : (edA A D').1 j = (edA (edA A D) D').1 j := by
  show (if j = A.2.1 then D' else A.1 j) = (if j = A.2.1 then D' else if j = A.2.1 then D else A.1 j)
  by_cases h : j = A.2.1
  · rw [if_pos h, if_pos h]
  · rw [if_neg h, if_neg h, if_neg h]
theorem DkR.same (h : DkR σ F A.2.1 A.2.2 A.1) : DkR σ F A.2.1 A.2.2 (edA A (A.1 A.2.1)).1 := h.congr (fun j _ => by
  show (if j = A.2.1 then A.1 A.2.1 else A.1 j) = A.1 j
  by_cases q : j = A.2.1
  · rw [if_pos q, q]
  · rw [if_neg q])
theorem DkR.beg (h : DkR σ F (begA A).2.1 (begA A).2.2 (begA A).1) : DkR σ F (begA A).2.1 (begA A).2.2 (edA (begA A) (A.1 A.2.1)).1 := by
  have h9 := h.same
  rw [cur_beg] at h9
  exact h9
theorem DkR.nowE (h : DkR σ F A.2.1 A.2.2 (edA A D).1) {f : DocF} {D' : PapD} (hD : DocP τ f D') (hF : OutD σ τ (fpD (F A.2.1))) (hf : f.1 = (F A.2.1).1) (hsub : ∀ x, fpD f x → fpD (F A.2.1) x ∨ σ.2.2 ≤ x) : DkR τ (setF F A.2.1 f) A.2.1 A.2.2 (edA A D').1 :=
  (DkR.now (A := edA A D) h hD hF hf hsub).congr (fun j _ => edA_edA)
theorem DkR.judgeD (h : DkR σ F A.2.1 A.2.2 (edA A D).1) (hP : PpL D) {c : Int} {acc : Bool} (hc : 0 ≤ c ∧ c < D.2.1.1) : ∃ τ f, Con 1 mX11_judge 0 0 [vA (F A.2.1).1, vI c, vI (bI (acc = true))] σ (vI (cntC c (toL D.1)), τ) ∧ DkR τ (setF F A.2.1 f) A.2.1 A.2.2 (edA A (setlD D c acc)).1 ∧ OutD σ τ (fpD (F A.2.1)) ∧ f.1 = (F A.2.1).1 := by
  have e : (edA A D).1 (edA A D).2.1 = D := if_pos rfl
  have q := DkR.judge (A := edA A D) h (by rw [e]; exact hP) (c := c) (acc := acc) (by rw [e]; exact hc)
  rw [e] at q
  obtain ⟨τ, f, q1, q2, q3, q4⟩ := q
  exact ⟨τ, f, q1, q2.congr (fun j _ => edA_edA), q3, q4⟩
theorem DkR.fp (h : DkR σ F A.2.1 A.2.2 (edA A D).1) {x : Nat} (hx : fpD (F A.2.1) x) : 109 ≤ x ∧ x ≠ 109 ∧ x ≠ 114 ∧ x ≠ 115 := ⟨(h.nowD.g hx).2.1, h.nowD.no h.1 hx⟩
/-- all that is edited, on both sides -/
theorem Sim.of {k k' : Nat} {σ2 : St} (h : Sim σ F A k) {F' : Nat → DocF} (hO : Off σ2 (edA (begA A) D)) (hK : DkR σ2 F' (begA A).2.1 (begA A).2.2 (edA (begA A) D).1) (h5 : σ2.1 109 5 = σ.1 109 5) (h0 : σ2.1 0 0 = σ.1 0 0) (hD : PpL D ∧ D.1.2.1 ≤ k') (hk : k ≤ k') : Sim σ2 F' (edA (begA A) D) k' :=
  ⟨hO, hK, by rw [h5, h0]; exact h.2.2.1, all_beg (Q := fun D => PpL D ∧ D.1.2.1 ≤ k') (fun j hj => ⟨(h.2.2.2 j hj).1, by have := (h.2.2.2 j hj).2; omega⟩) hD⟩
theorem lp_judges {v a : Int} {acc : Bool} (ha : a = -1 ∨ (0 ≤ a ∧ a < 4)) : ∀ (m : Nat) (σ : St) (F : Nat → DocF) (D : PapD) (c n : Int), DkR σ F A.2.1 A.2.2 (edA A D).1 → PpL D → 0 ≤ c → c + m = D.2.1.1 → 0 ≤ n → n ≤ c → ∃ σ2 F2, DkR σ2 F2 A.2.1 A.2.2 (edA A (upX (stlF a acc) m c (D, n)).1).1 ∧ (PpL (upX (stlF a acc) m c (D, n)).1 ∧ (upX (stlF a acc) m c (D, n)).1.1.2.1 ≤ D.1.2.1) ∧ (OutD σ σ2 (fun x => 109 ≤ x) ∧ σ2.1 109 5 = σ.1 109 5) ∧ ∀ (b : Nat × Nat) (out : MV × St) (v7 : MV), (∀ (b2 : Nat × Nat) (c2 : Int) (w7 : MV), Go (fun _ => 0) 6 mL_judges b2 113 [vA 0, vA 109, vI v, vI a, vI (bI (acc = true)), vI (upX (stlF a acc) m c (D, n)).2, vI c2, w7] [] σ2 out) → Go (fun _ => 0) 6 mL_judges b 46 [vA 0, vA 109, vI v, vI a, vI (bI (acc = true)), vI n, vI c, v7] [] σ out := by
  intro m
  induction m with
  | zero =>
    intro σ F D c n h hP h0 hm hn0 hnc
    refine ⟨σ, F, h, ⟨hP, Int.le_refl _⟩, ⟨OutD.refl, rfl⟩, fun b out v7 K => ?_⟩
    obtain ⟨hT, ⟨a1, a2, a3⟩, hpN, -⟩ := id h
    obtain ⟨⟨hgt, hgB, hgH⟩, ⟨hpB, hpH⟩, hcc⟩ := id hT
    have hnow := h.nowD
    obtain ⟨⟨⟨hgd, hgU, hgA, hgS⟩, ⟨hpU, hpA, hpS⟩, hge, hlt⟩, ⟨hn, hn2, -, -, -⟩, -, -, hch, hch2, hcl⟩ := id hnow
    refine go_iload (at_of tL_judges 1 12 rfl) rfl rfl ?_
    refine go_aload_n (at_of tL_judges 1 13 rfl) rfl ?_
    refine go_getrD (q := (F A.2.1).1) fl_L_25 rfl (by first | exact hgt | (simp (disch := omega) only [GamD_P1, GamD_M1, GamD_R1, GamD_dS]; exact hgt)) hpN (at_of tL_judges 1 14 rfl) ?_
    refine go_getfD fl_L_49 rfl (by first | exact hgd | (simp (disch := omega) only [GamD_P1, GamD_M1, GamD_R1, GamD_dS]; exact hgd)) (at_of tL_judges 1 15 rfl) ?_
    rw [hch]
    refine go_icmp_ge (tgt := 113) (at_of tL_judges 2 0 rfl) (by decide) (fun h55 => ?_) (fun h55 => ?_)
    rotate_left
    · exfalso; omega
    exact K _ _ _
  | succ m ih =>
    intro σ F D c n h hP h0 hm hn0 hnc
    obtain ⟨hT, ⟨a1, a2, a3⟩, hpN, -⟩ := id h
    obtain ⟨⟨hgt, hgB, hgH⟩, ⟨hpB, hpH⟩, hcc⟩ := id hT
    have hnow := h.nowD
    obtain ⟨⟨⟨hgd, hgU, hgA, hgS⟩, ⟨hpU, hpA, hpS⟩, hge, hlt⟩, ⟨hn, hn2, -, -, -⟩, -, -, hch, hch2, hcl⟩ := id hnow
    obtain ⟨⟨hl1, hl2⟩, hl3, hl4⟩ := hcl c h0 (by omega)
    by_cases hw : D.2.1.2.2.2 c = 119 ∧ (a = -1 ∨ D.2.1.2.2.1 c = a)
    · have e : upX (stlF a acc) (m + 1) c (D, n) = upX (stlF a acc) m (c + 1) (setlD D c acc, n + 1) := by
        show upX (stlF a acc) m (c + 1) (stlF a acc (D, n) c) = _
        rw [show stlF a acc (D, n) c = (setlD D c acc, n + 1) from if_pos hw]
      rw [e]
      obtain ⟨τ, f, q1, q2, q3, q4⟩ := h.judgeD hP (c := c) (acc := acc) ⟨h0, by omega⟩
      obtain ⟨p1, -⟩ := hP.setl (c := c) (acc := acc) ⟨h0, by omega⟩
      have p2 := hP.setl_n (c := c) (acc := acc) ⟨h0, by omega⟩
      obtain ⟨σ2, F2, r1, ⟨r2, r3⟩, ⟨r4, r5⟩, r6⟩ := ih τ _ (setlD D c acc) (c + 1) (n + 1) q2 p1 (by omega) (by show c + 1 + (m : Int) = D.2.1.1; omega) (by omega) (by omega)
      have hx5 := (q3.2 109 (by omega) (fun z => (h.fp z).2.1 rfl)).1 5
      refine ⟨σ2, F2, r1, ⟨r2, by omega⟩, ⟨(q3.trans r4).mono (fun x _ hx => by rcases hx with hx | hx; exact (h.fp hx).1; exact hx), r5.trans hx5⟩, fun b out v7 K => ?_⟩
      refine go_iload (at_of tL_judges 1 12 rfl) rfl rfl ?_
      refine go_aload_n (at_of tL_judges 1 13 rfl) rfl ?_
      refine go_getrD (q := (F A.2.1).1) fl_L_25 rfl (by first | exact hgt | (simp (disch := omega) only [GamD_P1, GamD_M1, GamD_R1, GamD_dS]; exact hgt)) hpN (at_of tL_judges 1 14 rfl) ?_
      refine go_getfD fl_L_49 rfl (by first | exact hgd | (simp (disch := omega) only [GamD_P1, GamD_M1, GamD_R1, GamD_dS]; exact hgd)) (at_of tL_judges 1 15 rfl) ?_
      rw [hch]
      refine go_icmp_ge (tgt := 113) (at_of tL_judges 2 0 rfl) (by decide) (fun h55 => ?_) (fun h55 => ?_)
      · exfalso; omega
      refine go_aload_n (at_of tL_judges 2 1 rfl) rfl ?_
      refine go_getrD (q := (F A.2.1).1) fl_L_25 rfl (by first | exact hgt | (simp (disch := omega) only [GamD_P1, GamD_M1, GamD_R1, GamD_dS]; exact hgt)) hpN (at_of tL_judges 2 2 rfl) ?_
      refine go_getrD (q := (F A.2.1).2.2.2.1) fl_L_54 rfl (by first | exact hgd | (simp (disch := omega) only [GamD_P1, GamD_M1, GamD_R1, GamD_dS]; exact hgd)) hpS (at_of tL_judges 2 3 rfl) ?_
      refine go_iload (at_of tL_judges 2 4 rfl) rfl rfl ?_
      refine go_caldD (by first | exact hgS | (simp (disch := omega) only [GamD_P1, GamD_M1, GamD_R1, GamD_dS]; exact hgS)) (by omega) (by omega) (at_of tL_judges 2 5 rfl) ?_
      refine go_bipush (at_of tL_judges 2 6 rfl) (by decide) ?_
      rw [hl2]
      refine go_icmp_ne (tgt := 107) (at_of tL_judges 2 7 rfl) (by decide) (fun h70 => ?_) (fun h70 => ?_)
      · exfalso; omega
      refine go_iload_n (at_of tL_judges 2 8 rfl) rfl ?_
      refine go_if_lt (tgt := 91) (at_of tL_judges 2 9 rfl) (by decide) (fun h74 => ?_) (fun h74 => ?_)
      · refine go_aload_n (at_of tL_judges 3 1 rfl) rfl ?_
        refine go_getrD (q := (F A.2.1).1) fl_L_25 rfl (by first | exact hgt | (simp (disch := omega) only [GamD_P1, GamD_M1, GamD_R1, GamD_dS]; exact hgt)) hpN (at_of tL_judges 3 2 rfl) ?_
        refine go_iload (at_of tL_judges 3 3 rfl) rfl rfl ?_
        refine go_iload (at_of tL_judges 3 4 rfl) rfl rfl ?_
        refine go_cVD (q1) lk_L_62 rfl (by first | exact hgd | (simp (disch := omega) only [GamD_P1, GamD_M1, GamD_R1, GamD_dS]; exact hgd)) (at_of tL_judges 3 5 rfl) rfl (by decide) rfl (Nat.le_of_ble_eq_true rfl) rfl (⟨by omega, by omega⟩) ?_
        refine go_istore (at_of tL_judges 3 6 rfl) rfl rfl ?_
        refine go_iinc (at_of tL_judges 3 7 rfl) rfl (by unfold in32; omega) rfl rfl ?_
        refine go_iinc (at_of tL_judges 3 8 rfl) rfl (by unfold in32; omega) rfl rfl ?_
        refine go_goto (tgt := 46) (at_of tL_judges 3 9 rfl) (by decide) ?_
        exact r6 _ _ _ K
      · refine go_aload_n (at_of tL_judges 2 10 rfl) rfl ?_
        refine go_getrD (q := (F A.2.1).1) fl_L_25 rfl (by first | exact hgt | (simp (disch := omega) only [GamD_P1, GamD_M1, GamD_R1, GamD_dS]; exact hgt)) hpN (at_of tL_judges 2 11 rfl) ?_
        refine go_getrD (q := (F A.2.1).2.2.1) fl_L_58 rfl (by first | exact hgd | (simp (disch := omega) only [GamD_P1, GamD_M1, GamD_R1, GamD_dS]; exact hgd)) hpA (at_of tL_judges 2 12 rfl) ?_
        refine go_iload (at_of tL_judges 2 13 rfl) rfl rfl ?_
        refine go_ialdD (by first | exact hgA | (simp (disch := omega) only [GamD_P1, GamD_M1, GamD_R1, GamD_dS]; exact hgA)) (by omega) (by omega) (at_of tL_judges 2 14 rfl) ?_
        refine go_iload_n (at_of tL_judges 2 15 rfl) rfl ?_
        rw [hl1]
        refine go_icmp_ne (tgt := 107) (at_of tL_judges 3 0 rfl) (by decide) (fun h88 => ?_) (fun h88 => ?_)
        · exfalso; omega
        refine go_aload_n (at_of tL_judges 3 1 rfl) rfl ?_
        refine go_getrD (q := (F A.2.1).1) fl_L_25 rfl (by first | exact hgt | (simp (disch := omega) only [GamD_P1, GamD_M1, GamD_R1, GamD_dS]; exact hgt)) hpN (at_of tL_judges 3 2 rfl) ?_
        refine go_iload (at_of tL_judges 3 3 rfl) rfl rfl ?_
        refine go_iload (at_of tL_judges 3 4 rfl) rfl rfl ?_
        refine go_cVD (q1) lk_L_62 rfl (by first | exact hgd | (simp (disch := omega) only [GamD_P1, GamD_M1, GamD_R1, GamD_dS]; exact hgd)) (at_of tL_judges 3 5 rfl) rfl (by decide) rfl (Nat.le_of_ble_eq_true rfl) rfl (⟨by omega, by omega⟩) ?_
        refine go_istore (at_of tL_judges 3 6 rfl) rfl rfl ?_
        refine go_iinc (at_of tL_judges 3 7 rfl) rfl (by unfold in32; omega) rfl rfl ?_
        refine go_iinc (at_of tL_judges 3 8 rfl) rfl (by unfold in32; omega) rfl rfl ?_
        refine go_goto (tgt := 46) (at_of tL_judges 3 9 rfl) (by decide) ?_
        exact r6 _ _ _ K
    · have e : upX (stlF a acc) (m + 1) c (D, n) = upX (stlF a acc) m (c + 1) (D, n) := by
        show upX (stlF a acc) m (c + 1) (stlF a acc (D, n) c) = _
        rw [show stlF a acc (D, n) c = (D, n) from if_neg hw]
      rw [e]
      obtain ⟨σ2, F2, r1, r2, r4, r6⟩ := ih σ F D (c + 1) n h hP (by omega) (by omega) hn0 (by omega)
      refine ⟨σ2, F2, r1, r2, r4, fun b out v7 K => ?_⟩
      refine go_iload (at_of tL_judges 1 12 rfl) rfl rfl ?_
      refine go_aload_n (at_of tL_judges 1 13 rfl) rfl ?_
      refine go_getrD (q := (F A.2.1).1) fl_L_25 rfl (by first | exact hgt | (simp (disch := omega) only [GamD_P1, GamD_M1, GamD_R1, GamD_dS]; exact hgt)) hpN (at_of tL_judges 1 14 rfl) ?_
      refine go_getfD fl_L_49 rfl (by first | exact hgd | (simp (disch := omega) only [GamD_P1, GamD_M1, GamD_R1, GamD_dS]; exact hgd)) (at_of tL_judges 1 15 rfl) ?_
      rw [hch]
      refine go_icmp_ge (tgt := 113) (at_of tL_judges 2 0 rfl) (by decide) (fun h55 => ?_) (fun h55 => ?_)
      · exfalso; omega
      refine go_aload_n (at_of tL_judges 2 1 rfl) rfl ?_
      refine go_getrD (q := (F A.2.1).1) fl_L_25 rfl (by first | exact hgt | (simp (disch := omega) only [GamD_P1, GamD_M1, GamD_R1, GamD_dS]; exact hgt)) hpN (at_of tL_judges 2 2 rfl) ?_
      refine go_getrD (q := (F A.2.1).2.2.2.1) fl_L_54 rfl (by first | exact hgd | (simp (disch := omega) only [GamD_P1, GamD_M1, GamD_R1, GamD_dS]; exact hgd)) hpS (at_of tL_judges 2 3 rfl) ?_
      refine go_iload (at_of tL_judges 2 4 rfl) rfl rfl ?_
      refine go_caldD (by first | exact hgS | (simp (disch := omega) only [GamD_P1, GamD_M1, GamD_R1, GamD_dS]; exact hgS)) (by omega) (by omega) (at_of tL_judges 2 5 rfl) ?_
      refine go_bipush (at_of tL_judges 2 6 rfl) (by decide) ?_
      rw [hl2]
      refine go_icmp_ne (tgt := 107) (at_of tL_judges 2 7 rfl) (by decide) (fun h70 => ?_) (fun h70 => ?_)
      · refine go_iinc (at_of tL_judges 3 8 rfl) rfl (by unfold in32; omega) rfl rfl ?_
        refine go_goto (tgt := 46) (at_of tL_judges 3 9 rfl) (by decide) ?_
        exact r6 _ _ _ K
      · refine go_iload_n (at_of tL_judges 2 8 rfl) rfl ?_
        refine go_if_lt (tgt := 91) (at_of tL_judges 2 9 rfl) (by decide) (fun h74 => ?_) (fun h74 => ?_)
        · exfalso
          exact hw ⟨by omega, by first | exact Or.inl (by omega) | exact Or.inr (by omega)⟩
        · refine go_aload_n (at_of tL_judges 2 10 rfl) rfl ?_
          refine go_getrD (q := (F A.2.1).1) fl_L_25 rfl (by first | exact hgt | (simp (disch := omega) only [GamD_P1, GamD_M1, GamD_R1, GamD_dS]; exact hgt)) hpN (at_of tL_judges 2 11 rfl) ?_
          refine go_getrD (q := (F A.2.1).2.2.1) fl_L_58 rfl (by first | exact hgd | (simp (disch := omega) only [GamD_P1, GamD_M1, GamD_R1, GamD_dS]; exact hgd)) hpA (at_of tL_judges 2 12 rfl) ?_
          refine go_iload (at_of tL_judges 2 13 rfl) rfl rfl ?_
          refine go_ialdD (by first | exact hgA | (simp (disch := omega) only [GamD_P1, GamD_M1, GamD_R1, GamD_dS]; exact hgA)) (by omega) (by omega) (at_of tL_judges 2 14 rfl) ?_
          refine go_iload_n (at_of tL_judges 2 15 rfl) rfl ?_
          rw [hl1]
          refine go_icmp_ne (tgt := 107) (at_of tL_judges 3 0 rfl) (by decide) (fun h88 => ?_) (fun h88 => ?_)
          · refine go_iinc (at_of tL_judges 3 8 rfl) rfl (by unfold in32; omega) rfl rfl ?_
            refine go_goto (tgt := 46) (at_of tL_judges 3 9 rfl) (by decide) ?_
            exact r6 _ _ _ K
          · exfalso
            exact hw ⟨by omega, by first | exact Or.inl (by omega) | exact Or.inr (by omega)⟩
end Judges2
