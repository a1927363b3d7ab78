/-! The desk: what it holds, and its edit. -/
section Desk
variable {σ σ' τ : St}
/-- a row's units, as the law holds them -/
def toL (R : RowD) : List Un := (List.range R.2.1.toNat).map (fun i : Nat => (R.1 0 i, R.1 2 i, R.1 3 i))
abbrev DocF : Type := Nat × Nat × Nat × Nat × List Nat
/-- a document of the law's says what a paper of the office's says -/
def DocP (σ : St) (f : DocF) (D : PapD) : Prop := DocR σ f.1 f.2.1 f.2.2.1 f.2.2.2.1 f.2.2.2.2 (toL D.1) D.2.1.1 D.2.1.2.2.1 D.2.1.2.2.2
def fpD (f : DocF) (x : Nat) : Prop := x = f.1 ∨ x = f.2.1 ∨ x = f.2.2.1 ∨ x = f.2.2.2.1 ∨ x ∈ f.2.2.2.2
def DkT (σ : St) : Prop := (GamD σ 109 = (20, 0) ∧ GamD σ 114 = (4, 6) ∧ GamD σ 115 = (4, 6)) ∧ (σ.2.1 109 1 = some 114 ∧ σ.2.1 109 3 = some 115) ∧ 116 ≤ σ.2.2
def Sep (F : Nat → DocF) (k : Nat) : Prop := ∀ i j, i ≤ k → j ≤ k → i ≠ j → ∀ x, fpD (F i) x → ¬ fpD (F j) x
/-- the desk, without what can be done again -/
def Dk0 (σ : St) (F : Nat → DocF) (k : Nat) (P : Nat → PapD) : Prop := DkT σ ∧ σ.1 109 2 = (k : Int) ∧ σ.2.1 109 0 = some (F k).1 ∧ (∀ i, i < k → σ.2.1 114 i = some (F i).1) ∧ (∀ j, j ≤ k → DocP σ (F j) (P j)) ∧ Sep F k
/-- the desk -/
def DkR (σ : St) (F : Nat → DocF) (un rn : Nat) (P : Nat → PapD) : Prop := DkT σ ∧ (σ.1 109 2 = (un : Int) ∧ σ.1 109 4 = (rn : Int) ∧ un + rn ≤ 6) ∧ σ.2.1 109 0 = some (F un).1 ∧ (∀ i, i < un → σ.2.1 114 i = some (F i).1) ∧ (∀ i, i < rn → σ.2.1 115 i = some (F (un + rn - i)).1) ∧ (∀ j, j ≤ un + rn → DocP σ (F j) (P j)) ∧ Sep F (un + rn)
theorem DocP.g {f : DocF} {D : PapD} (h : DocP σ f D) {x : Nat} (hx : fpD f x) : (GamD σ x = (21, 0) ∨ GamD σ x = (3, 210) ∨ GamD σ x = (0, 61) ∨ GamD σ x = (2, 61) ∨ GamD σ x = (22, 0)) ∧ 109 ≤ x ∧ x < σ.2.2 := by
  obtain ⟨⟨⟨g1, g2, g3, g4⟩, -, ⟨b1, b2, b3, b4⟩, ⟨l1, l2, l3, l4⟩⟩, ⟨-, -, -, -, u5⟩, -⟩ := h
  rcases hx with rfl | rfl | rfl | rfl | hx
  · exact ⟨Or.inl g1, b1, l1⟩
  · exact ⟨Or.inr (Or.inl g2), b2, l2⟩
  · exact ⟨Or.inr (Or.inr (Or.inl g3)), b3, l3⟩
  · exact ⟨Or.inr (Or.inr (Or.inr (Or.inl g4))), b4, l4⟩
  · obtain ⟨a, b, c⟩ := u5 x hx
    exact ⟨Or.inr (Or.inr (Or.inr (Or.inr a))), b, c⟩
theorem DocP.no {f : DocF} {D : PapD} (h : DocP σ f D) (hT : DkT σ) {x : Nat} (hx : fpD f x) : x ≠ 109 ∧ x ≠ 114 ∧ x ≠ 115 := by
  obtain ⟨g1, g2, g3⟩ := hT.1
  have hg := (h.g hx).1
  refine ⟨fun e => ?_, fun e => ?_, fun e => ?_⟩
  · rw [e, g1] at hg
    rcases hg with e | e | e | e | e <;> cases e
  · rw [e, g2] at hg
    rcases hg with e | e | e | e | e <;> cases e
  · rw [e, g3] at hg
    rcases hg with e | e | e | e | e <;> cases e
theorem DocP.out {f : DocF} {D : PapD} {Q : Nat → Prop} (h : DocP σ f D) (hF : OutD σ σ' Q) (hn : ∀ x, fpD f x → ¬ Q x) : DocP σ' f D :=
  DocR.out h hF (hn _ (Or.inl rfl)) (hn _ (Or.inr (Or.inl rfl))) (hn _ (Or.inr (Or.inr (Or.inl rfl)))) (hn _ (Or.inr (Or.inr (Or.inr (Or.inl rfl))))) (fun u hu => hn _ (Or.inr (Or.inr (Or.inr (Or.inr hu)))))
theorem DkT.out {Q : Nat → Prop} (h : DkT σ) (hF : OutD σ σ' Q) (g : ∀ x, x < σ.2.2 → GamD σ' x = GamD σ x) (p : σ'.2.1 109 1 = σ.2.1 109 1 ∧ σ'.2.1 109 3 = σ.2.1 109 3) : DkT σ' := by
  obtain ⟨⟨g1, g2, g3⟩, ⟨p1, p2⟩, hc⟩ := h
  exact ⟨⟨(g _ (by omega)).trans g1, (g _ (by omega)).trans g2, (g _ (by omega)).trans g3⟩, ⟨p.1.trans p1, p.2.trans p2⟩, Nat.le_trans hc hF.1⟩
/-- where the copy stands -/
def cpyF (c n : Nat) : DocF := (c, c + 1, c + 2, c + 3, cpL c n)
theorem cpyF_ge {c n x : Nat} (h : fpD (cpyF c n) x) : c ≤ x := by
  rcases h with h | h | h | h | h
  · have : x = c := h; omega
  · have : x = c + 1 := h; omega
  · have : x = c + 2 := h; omega
  · have : x = c + 3 := h; omega
  · obtain ⟨j, h1, h2⟩ := cpL_mem.mp h
    omega
def edF (F : Nat → DocF) (k c : Nat) (j : Nat) : DocF := if j = k then cpyF c (F k).2.2.2.2.length else if j = k + 1 then F k else F j
def edP (P : Nat → PapD) (k : Nat) (j : Nat) : PapD := if j = k + 1 then P k else P j
section
variable {F : Nat → DocF} {P : Nat → PapD} {k c j : Nat}
theorem edF_k : edF F k c k = cpyF c (F k).2.2.2.2.length := if_pos rfl
theorem edF_s : edF F k c (k + 1) = F k := (if_neg (by omega)).trans (if_pos rfl)
theorem edF_o (h : j < k) : edF F k c j = F j := (if_neg (by omega)).trans (if_neg (by omega))
theorem edP_s : edP P k (k + 1) = P k := if_pos rfl
theorem edP_o (h : j ≤ k) : edP P k j = P j := if_neg (by omega)
theorem edF_ol (hj : j ≤ k + 1) (hk : j ≠ k) : ∃ i, i ≤ k ∧ edF F k c j = F i ∧ edP P k j = P i ∧ (j = k + 1 ∧ i = k ∨ j < k ∧ i = j) := by
  by_cases h : j = k + 1
  · subst h
    exact ⟨k, Nat.le_refl _, edF_s, edP_s, Or.inl ⟨rfl, rfl⟩⟩
  · exact ⟨j, by omega, edF_o (by omega), edP_o (by omega), Or.inr ⟨by omega, rfl⟩⟩
end
theorem ed_tail {F : Nat → DocF} {k : Nat} {P : Nat → PapD} (h : Dk0 σ F k P) (hk : k ≤ 5) : ∃ σ2 F2, DkR σ2 F2 (k + 1) 0 (edP P k) ∧ (OutD σ σ2 (fun x => x = 109 ∨ x = 114) ∧ σ2.1 109 5 = σ.1 109 5) ∧ ∀ (b : Nat × Nat) (v1 : MV), 204 ≤ b.1 → 937 ≤ b.2 → Go (fun _ => 0) 3 mX10_edit b 46 [vA 109, v1] [] σ (vT 8 0, σ2) := by
  obtain ⟨hT, hu, hpN, hB, hDs, hS⟩ := id h
  obtain ⟨⟨hgt, hgB, hgH⟩, ⟨hpB, hpH⟩, hc⟩ := id hT
  have hnow := hDs k (Nat.le_refl _)
  have hgd : GamD σ (F k).1 = (21, 0) := hnow.1.1.1
  have hn2 : (F k).2.2.2.2.length ≤ 200 := hnow.2.1.2.1
  obtain ⟨σ1, c1, c2, c3, c4⟩ := con_copyD hnow
  have hgt1 : GamD σ1 109 = (20, 0) := (c3.gam (by omega) (fun z => z)).trans hgt
  have hgB1 : GamD σ1 114 = (4, 6) := (c3.gam (by omega) (fun z => z)).trans hgB
  have hgc1 : GamD σ1 σ.2.2 = (21, 0) := c2.1.1.1
  have e1 : (R1 σ1 114 k σ.2.2).1 109 2 = (k : Int) := ((c3.2 109 (by omega) (fun z => z)).1 2).trans hu
  have o1 : OutD σ (P1 (P1 (R1 σ1 114 k σ.2.2) 109 2 ((k : Int) + 1)) 109 4 0) (fun x => x = 109 ∨ x = 114) := (((c3.trans OutD.r1).trans OutD.p1).trans OutD.p1).mono (fun x _ hx => by
    rcases hx with ((hx | hx) | hx) | hx
    · exact hx.elim
    · exact Or.inr hx
    · exact Or.inl hx
    · exact Or.inl hx)
  have gam1 : ∀ x, GamD (P1 (P1 (R1 σ1 114 k σ.2.2) 109 2 ((k : Int) + 1)) 109 4 0) x = GamD σ1 x := fun x => (GamD_P1 (by decide)).trans ((GamD_P1 (by decide)).trans GamD_R1)
  have F0 := c3.2 109 (by omega) (fun z => z)
  have old : ∀ j, j ≤ k → DocP (P1 (P1 (R1 σ1 114 k σ.2.2) 109 2 ((k : Int) + 1)) 109 4 0) (F j) (P j) := fun j hj => (hDs j hj).out o1 (fun x hx => by
    have := (hDs j hj).no hT hx
    omega)
  have new : DocP (P1 (P1 (R1 σ1 114 k σ.2.2) 109 2 ((k : Int) + 1)) 109 4 0) (cpyF σ.2.2 (F k).2.2.2.2.length) (P k) := DocP.out (f := cpyF σ.2.2 (F k).2.2.2.2.length) (σ := σ1) (Q := fun x => x = 109 ∨ x = 114) c2 (((OutD.r1.trans OutD.p1).trans OutD.p1).mono (fun x _ hx => by
    rcases hx with (hx | hx) | hx
    · exact Or.inr hx
    · exact Or.inl hx
    · exact Or.inl hx)) (fun x hx => by have := cpyF_ge hx; omega)
  refine ⟨P1 (P1 (R1 σ1 114 k σ.2.2) 109 2 ((k : Int) + 1)) 109 4 0, edF F k σ.2.2, ⟨hT.out o1 (fun x hx => (gam1 x).trans (c3.gam hx (fun z => z))) ⟨(R1_ne (by decide)).trans (F0.2 1), (R1_ne (by decide)).trans (F0.2 3)⟩, ⟨(P1_nj (by decide)).trans P1_eq, P1_eq, by omega⟩, ?_, fun i hi => ?_, fun i hi => absurd hi (Nat.not_lt_zero _), fun j hj => ?_, fun i j hi hj hij x hx hy => ?_⟩, ⟨o1, (P1_nj (by decide)).trans ((P1_nj (by decide)).trans (F0.1 5))⟩, fun b v1 hb1 hb2 => ?_⟩
  · rw [edF_s]
    exact ((R1_ne (by decide)).trans (F0.2 0)).trans hpN
  · by_cases hik : i = k
    · rw [hik, edF_k]
      exact R1_eq
    · rw [edF_o (by omega)]
      exact ((R1_nj hik).trans ((c3.2 114 (by omega) (fun z => z)).2 i)).trans (hB i (by omega))
  · by_cases hjk : j = k
    · rw [hjk, edF_k, edP_o (Nat.le_refl _)]
      exact new
    · obtain ⟨i, hi, q1, q2, -⟩ := edF_ol (F := F) (P := P) (c := σ.2.2) hj hjk
      rw [q1, q2]
      exact old i hi
  · by_cases hik : i = k
    · rw [hik, edF_k] at hx
      obtain ⟨a, ha, q1, -, -⟩ := edF_ol (F := F) (P := P) (c := σ.2.2) hj (by omega)
      rw [q1] at hy
      have h1 := cpyF_ge hx
      have h2 := ((hDs a ha).g hy).2.2
      omega
    · obtain ⟨a, ha, q1, -, q2⟩ := edF_ol (F := F) (P := P) (c := σ.2.2) hi hik
      rw [q1] at hx
      by_cases hjk : j = k
      · rw [hjk, edF_k] at hy
        have h1 := cpyF_ge hy
        have h2 := ((hDs a ha).g hx).2.2
        omega
      · obtain ⟨b, hb, q3, -, q4⟩ := edF_ol (F := F) (P := P) (c := σ.2.2) hj hjk
        rw [q3] at hy
        exact hS a b ha hb (by omega) x hx hy
  refine go_aload_n (at_of tX10_edit 1 11 rfl) rfl ?_
  refine go_getrD (q := 114) fl_X10_16 rfl (by first | exact hgt | (simp (disch := omega) only [GamD_P1, GamD_M1, GamD_R1]; exact hgt)) hpB (at_of tX10_edit 1 12 rfl) ?_
  refine go_aload_n (at_of tX10_edit 1 13 rfl) rfl ?_
  refine go_getfD fl_X10_27 rfl hgt (at_of tX10_edit 1 14 rfl) ?_
  rw [hu]
  refine go_aload_n (at_of tX10_edit 1 15 rfl) rfl ?_
  refine go_getrD (q := (F k).1) fl_X10_10 rfl (by first | exact hgt | (simp (disch := omega) only [GamD_P1, GamD_M1, GamD_R1]; exact hgt)) hpN (at_of tX10_edit 2 0 rfl) ?_
  refine go_cVD (c1) lk_X10_31 rfl (by first | exact hgd | (simp (disch := omega) only [GamD_P1, GamD_M1, GamD_R1]; exact hgd)) (at_of tX10_edit 2 1 rfl) rfl (by decide) rfl (Nat.le_of_ble_eq_true rfl) rfl (⟨by omega, by omega⟩) ?_
  refine go_aast1D hgB1 (Or.inr (Or.inl rfl)) (by omega) (by omega) hgc1 (at_of tX10_edit 2 2 rfl) ?_
  refine go_aload_n (at_of tX10_edit 2 3 rfl) rfl ?_
  refine go_dup (at_of tX10_edit 2 4 rfl) rfl ?_
  refine go_getfD fl_X10_27 rfl (by first | exact GamD_R1.trans hgt1 | exact (GamD_P1 (by decide)).trans (GamD_R1.trans hgt1)) (at_of tX10_edit 2 5 rfl) ?_
  rw [show ((k : Int).toNat) = k from rfl, e1]
  refine go_iconst (at_of tX10_edit 2 6 rfl) (by unfold in32; omega) ?_
  refine go_iadd (at_of tX10_edit 2 7 rfl) (by unfold in32; omega) ?_
  refine go_put1D fp_X10_27 rfl (Or.inl rfl) (by first | exact GamD_R1.trans hgt1 | exact (GamD_P1 (by decide)).trans (GamD_R1.trans hgt1)) (Or.inl (Or.inl rfl)) (at_of tX10_edit 2 8 rfl) ?_
  refine go_aload_n (at_of tX10_edit 2 9 rfl) rfl ?_
  refine go_iconst (at_of tX10_edit 2 10 rfl) (by unfold in32; omega) ?_
  refine go_put1D fp_X10_35 rfl (Or.inl rfl) (by first | exact GamD_R1.trans hgt1 | exact (GamD_P1 (by decide)).trans (GamD_R1.trans hgt1)) (Or.inl (Or.inl rfl)) (at_of tX10_edit 2 11 rfl) ?_
  exact go_retv (at_of tX10_edit 2 12 rfl) rfl
end Desk
