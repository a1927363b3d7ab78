/-! Writing and erasing, on both sides. -/
section Acts
variable {σ σ' τ : St} {A : PastD} {D : PapD} {F : Nat → DocF} {k : Nat}
def letC (i : Int) : Int := if i = 0 then 97 else if i = 1 then 98 else if i = 2 then 32 else if i = 3 then 47 else 99
theorem letC_ok {i : Int} : 97 ≤ letC i ∧ letC i ≤ 122 ∨ letC i = 32 ∨ letC i = 47 := by
  unfold letC
  split
  · omega
  · split
    · omega
    · split
      · omega
      · split <;> omega
/-- the letter drawn -/
def LetR : Prop := ∀ {b : Nat × Nat} {ls : List MV} {v : Int} {σ : St} {out : MV × St}, ls[2]? = some (vI v) → Go (fun _ => 0) 7 mL_acts b 84 ls [vI (letC (lowF (shr v 14) 5))] σ out → Go (fun _ => 0) 7 mL_acts b 71 ls [] σ out
theorem grdF_no {F : Int → Int → Int} {n last : Int} (h : ∀ j, F 10 j = 0) : ∀ (m : Nat) (i : Int), ¬ grdF F n last m i = true
  | 0, _ => by rw [grdF]; decide
  | m + 1, i => by
    rw [grdF]
    split
    · rw [if_neg (by rw [h]; decide)]
      split
      · decide
      · exact grdF_no h m (i + 1)
    · exact grdF_no h m (i + 1)
theorem Off.tr (h : Off σ A) : ∃ tr : Bool, σ.1 0 0 = bI (tr = true) := h.2.2.2.elim (fun e => ⟨false, e⟩) (fun e => ⟨true, e⟩)
theorem act_I (h : Sim σ F A k) (hk : k < 200) {v n a w p l : Int} (ha : 0 ≤ a ∧ a < 4) (hp : 0 ≤ p ∧ p ≤ cntS (toL (A.1 A.2.1).1)) (hl : 97 ≤ l ∧ l ≤ 122 ∨ l = 32 ∨ l = 47) (h60 : (A.1 A.2.1).2.1.1 < 60) : ∃ σ2 F2 A2, Sim σ2 F2 A2 (k + 1) ∧ ∀ b : Nat × Nat, 205 ≤ b.1 → 1137 ≤ b.2 → Go (fun _ => 0) 7 mL_acts b 86 [vA 0, vA 109, vI v, vI n, vI a, vI w, vI p, vI l] [] σ (vI 1, σ2) := by
  obtain ⟨hP, hk9⟩ := h.pp
  obtain ⟨tr, htr⟩ := h.1.tr
  obtain ⟨σ1, F1, e1, e2, e3, e4⟩ := con_edit h.2.1
  have hgt0 := h.2.1.1.1.1
  have hcap := h.cap
  have hlo : Lo σ σ1 := e3.lo (by omega) (fun x hx => by omega)
  have hO1 := h.1.lo hlo
  obtain ⟨hS1, ⟨pi, hA1⟩, -⟩ := id hO1
  have htr1 : σ1.1 0 0 = bI (tr = true) := ((hlo 0 (by omega)).1 0).trans htr
  have hN := hP.nn
  have hcs := cntS_le (toL (A.1 A.2.1).1)
  have htl := toL_len (R := (A.1 A.2.1).1)
  have hcap1 : 116 ≤ σ1.2.2 := e2.1.2.2
  have hix := hP.ix hp.1 hp.2
  have hat := atL_le (toL (A.1 A.2.1).1) p
  have hcw : cwE (A.1 A.2.1) tr a (atL (toL (A.1 A.2.1).1) p) = 0 := by
    unfold cwE
    rw [if_neg (fun z => by rcases z with z | ⟨-, z, -⟩ <;> omega), if_neg (by rw [(hP.2.1 _).2]; decide)]
  have j := ok_insert hS1 hA1 htr1 ha (p := p) (l := l) (by rw [hix]; omega) hl (by rw [hix]; exact hcw)
  rw [hix] at j
  obtain ⟨σ2, pi2, j1, j2⟩ := j
  have hK2 := e2.beg.hi j2.hi
  have e5 : σ2.1 109 5 = bI (tr = true) := ((j2.hi.2 109 (by omega) (by omega)).1 5).trans (e4.trans (h.2.2.1.trans htr))
  obtain ⟨hT, ⟨a1, a2, a3⟩, hpN, -⟩ := id hK2
  obtain ⟨⟨hgt, hgB, hgH⟩, ⟨hpB, hpH⟩, hcc⟩ := id hT
  have hnow := hK2.nowD
  obtain ⟨⟨⟨hgd, hgU, hgA, hgS⟩, ⟨hpU, hpA, hpS⟩, hge, hlt⟩, ⟨hn, hn2, -, -, -⟩, -, -, hch, hch2, hcl⟩ := id hnow
  obtain ⟨τ, f, q1, q2, q3, q4⟩ := hK2.writeD hP (a := a) (tr := tr) hp (by omega) (l := l) (by omega) h60
  have hx5 := (q3.2 109 (by omega) (fun z => (hK2.fp z).2.1 rfl)).1 5
  have hlo3 : Lo σ2 τ := q3.lo (by omega) (fun x hx => (hK2.fp hx).1)
  refine ⟨τ, _, _, h.of ((j2.off hO1).lo hlo3) q2 ?_ ?_ ⟨hP.wr ha (by omega) (by omega) (fun _ _ => h60) (by omega), ?_⟩ (by omega), fun b hb1 hb2 => ?_⟩
  · exact hx5.trans (((j2.hi.2 109 (by omega) (by omega)).1 5).trans e4)
  · exact ((hlo3 0 (by omega)).1 0).trans ((j2.2.2.2.1 0 (by omega) 0).trans ((hlo 0 (by omega)).1 0))
  · show (A.1 A.2.1).1.2.1 + 1 ≤ ((k + 1 : Nat) : Int)
    omega
  refine go_aload_n (at_of tL_acts 2 14 rfl) rfl ?_
  refine go_cVD (e1) lk_L_46 rfl hgt0 (at_of tL_acts 2 15 rfl) rfl (by decide) rfl (Nat.le_of_ble_eq_true rfl) rfl (⟨by omega, by omega⟩) ?_
  refine go_aload_n (at_of tL_acts 3 0 rfl) rfl ?_
  refine go_iload (at_of tL_acts 3 1 rfl) rfl rfl ?_
  refine go_iload (at_of tL_acts 3 2 rfl) rfl rfl ?_
  refine go_iload (at_of tL_acts 3 3 rfl) rfl rfl ?_
  refine go_cV (j1) lk_L_90 rfl G_0 (at_of tL_acts 3 4 rfl) rfl (by decide) rfl (Nat.le_of_ble_eq_true rfl) rfl (⟨by omega, by omega⟩) ?_
  refine go_aload_n (at_of tL_acts 3 5 rfl) rfl ?_
  refine go_getrD (q := (F1 (begA A).2.1).1) fl_L_25 rfl (by first | exact hgt | (simp (disch := omega) only [GamD_P1, GamD_M1, GamD_R1, GamD_dS]; exact hgt)) hpN (at_of tL_acts 3 6 rfl) ?_
  refine go_iload (at_of tL_acts 3 7 rfl) rfl rfl ?_
  refine go_iload (at_of tL_acts 3 8 rfl) rfl rfl ?_
  refine go_iload (at_of tL_acts 3 9 rfl) rfl rfl ?_
  refine go_aload_n (at_of tL_acts 3 10 rfl) rfl ?_
  refine go_getfD fl_L_94 rfl (by first | exact hgt | (simp (disch := omega) only [GamD_P1, GamD_M1, GamD_R1, GamD_dS]; exact hgt)) (at_of tL_acts 3 11 rfl) ?_
  rw [e5]
  refine go_cVD (q1) lk_L_98 rfl (by first | exact hgd | (simp (disch := omega) only [GamD_P1, GamD_M1, GamD_R1, GamD_dS]; exact hgd)) (at_of tL_acts 3 12 rfl) rfl (by decide) rfl (Nat.le_of_ble_eq_true rfl) rfl (⟨by omega, by omega⟩) ?_
  refine go_icmp_ne (tgt := 124) (at_of tL_acts 3 13 rfl) (by decide) (fun h117 => ?_) (fun h117 => ?_)
  · exfalso; exact h117 rfl
  refine go_iconst (at_of tL_acts 3 14 rfl) (by unfold in32; omega) ?_
  refine go_goto (tgt := 125) (at_of tL_acts 3 15 rfl) (by decide) ?_
  first | exact go_reti (at_of tL_acts 4 1 rfl) rfl | exact go_reti (at_of tL_acts 4 1 rfl) (le_i (by omega)) | exact go_reti (at_of tL_acts 4 1 rfl) (le_i (by first | exact bI_t (by omega) | exact bI_f (by omega)))
theorem act_E (h : Sim σ F A k) {v n a w p z : Int} (ha : 0 ≤ a ∧ a < 4) (hp : 0 ≤ p ∧ p < z ∧ z ≤ cntS (toL (A.1 A.2.1).1)) (h60 : (A.1 A.2.1).2.1.1 < 60) : ∃ σ2 F2 A2, Sim σ2 F2 A2 k ∧ ∀ b : Nat × Nat, 205 ≤ b.1 → 1137 ≤ b.2 → Go (fun _ => 0) 7 mL_acts b 181 [vA 0, vA 109, vI v, vI n, vI a, vI w, vI p, vI z] [] σ (vI 1, σ2) := by
  obtain ⟨hP, hk9⟩ := h.pp
  obtain ⟨tr, htr⟩ := h.1.tr
  obtain ⟨σ1, F1, e1, e2, e3, e4⟩ := con_edit h.2.1
  have hgt0 := h.2.1.1.1.1
  have hcap := h.cap
  have hlo : Lo σ σ1 := e3.lo (by omega) (fun x hx => by omega)
  have hO1 := h.1.lo hlo
  obtain ⟨hS1, ⟨pi, hA1⟩, -⟩ := id hO1
  have htr1 : σ1.1 0 0 = bI (tr = true) := ((hlo 0 (by omega)).1 0).trans htr
  have hN := hP.nn
  have hcs := cntS_le (toL (A.1 A.2.1).1)
  have htl := toL_len (R := (A.1 A.2.1).1)
  have hcap1 : 116 ≤ σ1.2.2 := e2.1.2.2
  have hix := hP.ix hp.1 (by omega)
  have hiz := hP.ix (p := z) (by omega) hp.2.2
  have hat := atL_le (toL (A.1 A.2.1).1) p
  have haz := atL_le (toL (A.1 A.2.1).1) z
  have j : ∃ σ' pi', Con 6 mX9_erase 0 0 [vA 0, vI a, vI p, vI z] σ1 (vI (erC (A.1 A.2.1) tr a (atL (toL (A.1 A.2.1).1) p) (atL (toL (A.1 A.2.1).1) z)), σ') ∧ Ed σ1 σ' pi' (edA (begA A) (erD (A.1 A.2.1) tr a (atL (toL (A.1 A.2.1).1) p) (atL (toL (A.1 A.2.1).1) z))) := by
    cases tr with
    | true =>
      have j := ok_erase_t hS1 hA1 (a := a) (p := p) (z := z) htr1 ha (by rw [hix]; omega) (by rw [hiz]; omega) hp.2.1 (fun q => by have := q.2.1; omega) (grdF_no (fun j => (hP.2.1 j).2) _ _)
      rw [hix, hiz] at j
      exact j
    | false =>
      have j := ok_erase_f hS1 hA1 (a := a) (p := p) (z := z) htr1 ha (by rw [hix]; omega) (by rw [hiz]; omega) hp.2.1 (fun q => absurd q.1 (by decide)) (grdF_no (fun j => (hP.2.1 j).2) _ _)
      rw [hix, hiz] at j
      exact j
  obtain ⟨σ2, pi2, j1, j2⟩ := j
  have hK2 := e2.beg.hi j2.hi
  have e5 : σ2.1 109 5 = bI (tr = true) := ((j2.hi.2 109 (by omega) (by omega)).1 5).trans (e4.trans (h.2.2.1.trans htr))
  obtain ⟨hT, ⟨a1, a2, a3⟩, hpN, -⟩ := id hK2
  obtain ⟨⟨hgt, hgB, hgH⟩, ⟨hpB, hpH⟩, hcc⟩ := id hT
  have hnow := hK2.nowD
  obtain ⟨⟨⟨hgd, hgU, hgA, hgS⟩, ⟨hpU, hpA, hpS⟩, hge, hlt⟩, ⟨hn, hn2, -, -, -⟩, -, -, hch, hch2, hcl⟩ := id hnow
  obtain ⟨τ, f, q1, q2, q3, q4⟩ := hK2.eraseD hP (a := a) (tr := tr) ha hp h60
  have hx5 := (q3.2 109 (by omega) (fun z => (hK2.fp z).2.1 rfl)).1 5
  have hlo3 : Lo σ2 τ := q3.lo (by omega) (fun x hx => (hK2.fp hx).1)
  have hle := hP.er_n (tr := tr) ha hp h60
  refine ⟨τ, _, _, h.of ((j2.off hO1).lo hlo3) q2 ?_ ?_ ⟨(hP.er ha hp h60).1, by omega⟩ (Nat.le_refl _), fun b hb1 hb2 => ?_⟩
  · exact hx5.trans (((j2.hi.2 109 (by omega) (by omega)).1 5).trans e4)
  · exact ((hlo3 0 (by omega)).1 0).trans ((j2.2.2.2.1 0 (by omega) 0).trans ((hlo 0 (by omega)).1 0))
  refine go_aload_n (at_of tL_acts 6 0 rfl) rfl ?_
  refine go_cVD (e1) lk_L_46 rfl hgt0 (at_of tL_acts 6 1 rfl) rfl (by decide) rfl (Nat.le_of_ble_eq_true rfl) rfl (⟨by omega, by omega⟩) ?_
  refine go_aload_n (at_of tL_acts 6 2 rfl) rfl ?_
  refine go_iload (at_of tL_acts 6 3 rfl) rfl rfl ?_
  refine go_iload (at_of tL_acts 6 4 rfl) rfl rfl ?_
  refine go_iload (at_of tL_acts 6 5 rfl) rfl rfl ?_
  refine go_cV (j1) lk_L_107 rfl G_0 (at_of tL_acts 6 6 rfl) rfl (by decide) rfl (Nat.le_of_ble_eq_true rfl) rfl (⟨by omega, by omega⟩) ?_
  refine go_aload_n (at_of tL_acts 6 7 rfl) rfl ?_
  refine go_getrD (q := (F1 (begA A).2.1).1) fl_L_25 rfl (by first | exact hgt | (simp (disch := omega) only [GamD_P1, GamD_M1, GamD_R1, GamD_dS]; exact hgt)) hpN (at_of tL_acts 6 8 rfl) ?_
  refine go_iload (at_of tL_acts 6 9 rfl) rfl rfl ?_
  refine go_iload (at_of tL_acts 6 10 rfl) rfl rfl ?_
  refine go_iload (at_of tL_acts 6 11 rfl) rfl rfl ?_
  refine go_aload_n (at_of tL_acts 6 12 rfl) rfl ?_
  refine go_getfD fl_L_94 rfl (by first | exact hgt | (simp (disch := omega) only [GamD_P1, GamD_M1, GamD_R1, GamD_dS]; exact hgt)) (at_of tL_acts 6 13 rfl) ?_
  rw [e5]
  refine go_cVD (q1) lk_L_111 rfl (by first | exact hgd | (simp (disch := omega) only [GamD_P1, GamD_M1, GamD_R1, GamD_dS]; exact hgd)) (at_of tL_acts 6 14 rfl) rfl (by decide) rfl (Nat.le_of_ble_eq_true rfl) rfl (⟨by omega, by omega⟩) ?_
  refine go_icmp_ne (tgt := 219) (at_of tL_acts 6 15 rfl) (by decide) (fun h212 => ?_) (fun h212 => ?_)
  · exfalso; exact h212 rfl
  refine go_iconst (at_of tL_acts 7 0 rfl) (by unfold in32; omega) ?_
  refine go_goto (tgt := 220) (at_of tL_acts 7 1 rfl) (by decide) ?_
  first | exact go_reti (at_of tL_acts 7 3 rfl) rfl | exact go_reti (at_of tL_acts 7 3 rfl) (le_i (by omega)) | exact go_reti (at_of tL_acts 7 3 rfl) (le_i (by first | exact bI_t (by omega) | exact bI_f (by omega)))
end Acts
