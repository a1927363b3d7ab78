/-! The desk's edit. -/
section Desk2
variable {σ σ' τ : St}
theorem DkR.congr {F : Nat → DocF} {un rn : Nat} {P P2 : Nat → PapD} (h : DkR σ F un rn P) (hp : ∀ j, j ≤ un + rn → P2 j = P j) : DkR σ F un rn P2 := by
  obtain ⟨a, b, c, d, e, f, g⟩ := h
  exact ⟨a, b, c, d, e, fun j hj => by rw [hp j hj]; exact f j hj, g⟩
theorem DkR.to0 {F : Nat → DocF} {un rn : Nat} {P : Nat → PapD} (h : DkR σ F un rn P) : Dk0 σ F un P := by
  obtain ⟨a, ⟨b, -, -⟩, c, d, -, f, g⟩ := h
  exact ⟨a, b, c, d, fun j hj => f j (by omega), fun i j hi hj => g i j (by omega) (by omega)⟩
/-- the row of what can be undone moves one down -/
def dkS (σ : St) : St := P1 (dS σ 114 0 5) 109 2 5
theorem OutD.dkS : OutD σ (dkS σ) (fun x => x = 109 ∨ x = 114) := ⟨Nat.le_refl _, fun x _ hn => ⟨fun j => P1_ne (fun z => hn (Or.inl z)), fun j => dS_ne (fun z => hn (Or.inr z))⟩⟩
theorem Dk0.shift {F : Nat → DocF} {P : Nat → PapD} (h : Dk0 σ F 6 P) : Dk0 (dkS σ) (fun j => F (j + 1)) 5 (fun j => P (j + 1)) := by
  obtain ⟨hT, hu, hpN, hB, hDs, hS⟩ := id h
  have gam : ∀ x, GamD (dkS σ) x = GamD σ x := fun x => (GamD_P1 (by decide)).trans GamD_dS
  refine ⟨hT.out OutD.dkS (fun x _ => gam x) ⟨dS_ne (by decide), dS_ne (by decide)⟩, P1_eq, (dS_ne (by decide)).trans hpN, fun i hi => ?_, fun j hj => (hDs (j + 1) (by omega)).out OutD.dkS (fun x hx => by
    have := (hDs (j + 1) (by omega)).no hT hx
    omega), fun i j hi hj hij => hS (i + 1) (j + 1) (by omega) (by omega) (by omega)⟩
  refine (if_pos (show (114 : Nat) = 114 ∧ (0 : Int).toNat ≤ i ∧ i < (5 : Int).toNat from ⟨rfl, Nat.zero_le _, hi⟩)).trans ?_
  exact hB (i + 1) (by omega)
theorem lp_shift {out : MV × St} {F : Nat → DocF} {P : Nat → PapD} (h : Dk0 σ F 6 P) {b : Nat × Nat} (hc : Go (fun _ => 0) 3 mX10_edit b 46 [vA 109, vI 5] [] (dkS σ) out) : ∀ (m : Nat) (j : Int), 0 ≤ j → j + m = 5 → Go (fun _ => 0) 3 mX10_edit b 11 [vA 109, vI j] [] (dS σ 114 0 j) out := by
  obtain ⟨hT, hu, hpN, hB, hDs, hS⟩ := id h
  obtain ⟨⟨hgt, hgB, hgH⟩, ⟨hpB, hpH⟩, hcc⟩ := id hT
  have hpB' : ∀ j, (dS σ 114 0 j).2.1 109 1 = some 114 := fun j => (dS_ne (by decide)).trans hpB
  have hu' : ∀ j, (dS σ 114 0 j).1 109 2 = 6 := fun j => hu
  intro m
  induction m with
  | zero =>
    intro j h0 hj
    have ej : j = 5 := by omega
    subst ej
    refine go_iload_n (at_of tX10_edit 0 6 rfl) rfl ?_
    refine go_iconst (at_of tX10_edit 0 7 rfl) (by unfold in32; omega) ?_
    refine go_icmp_ge (tgt := 36) (at_of tX10_edit 0 8 rfl) (by decide) (fun h13 => ?_) (fun h13 => ?_)
    rotate_left
    · exfalso; omega
    refine go_aload_n (at_of tX10_edit 1 5 rfl) rfl ?_
    refine go_dup (at_of tX10_edit 1 6 rfl) rfl ?_
    refine go_getfD fl_X10_27 rfl (by first | exact hgt | (simp (disch := omega) only [GamD_P1, GamD_M1, GamD_R1, GamD_dS]; exact hgt)) (at_of tX10_edit 1 7 rfl) ?_
    rw [hu']
    refine go_iconst (at_of tX10_edit 1 8 rfl) (by unfold in32; omega) ?_
    refine go_isub (at_of tX10_edit 1 9 rfl) (by unfold in32; omega) ?_
    exact go_put1D fp_X10_27 rfl (Or.inl rfl) (GamD_dS.trans hgt) (Or.inl (Or.inl rfl)) (at_of tX10_edit 1 10 rfl) hc
  | succ m ih =>
    intro j h0 hj
    have hq0 : σ.2.1 114 (j + 1).toNat = some (F (j + 1).toNat).1 := hB _ (by omega)
    have hq : (dS σ 114 0 j).2.1 114 (j + 1).toNat = some (F (j + 1).toNat).1 := (dS_at (by omega)).trans hq0
    have hD1 := hDs (j + 1).toNat (by omega)
    have hgq : GamD σ (F (j + 1).toNat).1 = (21, 0) := hD1.1.1.1
    refine go_iload_n (at_of tX10_edit 0 6 rfl) rfl ?_
    refine go_iconst (at_of tX10_edit 0 7 rfl) (by unfold in32; omega) ?_
    refine go_icmp_ge (tgt := 36) (at_of tX10_edit 0 8 rfl) (by decide) (fun h13 => ?_) (fun h13 => ?_)
    · exfalso; omega
    refine go_aload_n (at_of tX10_edit 0 9 rfl) rfl ?_
    refine go_getrD (q := 114) fl_X10_16 rfl (by first | exact hgt | (simp (disch := omega) only [GamD_P1, GamD_M1, GamD_R1, GamD_dS]; exact hgt)) (by exact hpB' _) (at_of tX10_edit 0 10 rfl) ?_
    refine go_iload_n (at_of tX10_edit 0 11 rfl) rfl ?_
    refine go_aload_n (at_of tX10_edit 0 12 rfl) rfl ?_
    refine go_getrD (q := 114) fl_X10_16 rfl (by first | exact hgt | (simp (disch := omega) only [GamD_P1, GamD_M1, GamD_R1, GamD_dS]; exact hgt)) (by exact hpB' _) (at_of tX10_edit 0 13 rfl) ?_
    refine go_iload_n (at_of tX10_edit 0 14 rfl) rfl ?_
    refine go_iconst (at_of tX10_edit 0 15 rfl) (by unfold in32; omega) ?_
    refine go_iadd (at_of tX10_edit 1 0 rfl) (by unfold in32; omega) ?_
    refine go_aaldD (by first | exact hgB | (simp (disch := omega) only [GamD_P1, GamD_M1, GamD_R1, GamD_dS]; exact hgB)) (Or.inr (Or.inl rfl)) (by omega) (by omega) hq (at_of tX10_edit 1 1 rfl) ?_
    refine go_aast1D (by first | exact hgB | (simp (disch := omega) only [GamD_P1, GamD_M1, GamD_R1, GamD_dS]; exact hgB)) (Or.inr (Or.inl rfl)) (by omega) (by omega) (GamD_dS.trans hgq) (at_of tX10_edit 1 2 rfl) ?_
    rw [dS_s (by decide) h0 hq0]
    refine go_iinc (at_of tX10_edit 1 3 rfl) rfl (by unfold in32; omega) rfl rfl ?_
    refine go_goto (tgt := 11) (at_of tX10_edit 1 4 rfl) (by decide) ?_
    exact ih (j + 1) (by omega) (by omega)
theorem con_edit {A : PastD} {F : Nat → DocF} (h : DkR σ F A.2.1 A.2.2 A.1) : ∃ σ2 F2, Con 3 mX10_edit 204 937 [vA 109] σ (vT 8 0, σ2) ∧ DkR σ2 F2 (begA A).2.1 (begA A).2.2 (begA A).1 ∧ OutD σ σ2 (fun x => x = 109 ∨ x = 114) ∧ σ2.1 109 5 = σ.1 109 5 := by
  have h0 := h.to0
  have h6 := h.2.1.2.2
  obtain ⟨hT, hu, hpN, hB, hDs, hS⟩ := id h0
  obtain ⟨⟨hgt, hgB, hgH⟩, ⟨hpB, hpH⟩, hcc⟩ := id hT
  unfold begA
  by_cases hk : A.2.1 = 6
  · rw [if_pos hk]
    rw [hk] at h0 hu
    obtain ⟨σ2, F2, e1, ⟨e2, e2b⟩, e3⟩ := ed_tail h0.shift (Nat.le_refl _)
    refine ⟨σ2, F2, ?_, e1.congr (fun j hj => ?_), (OutD.dkS.trans e2).mono (fun x _ hx => by rcases hx with hx | hx <;> exact hx), e2b.trans (P1_nj (by decide))⟩
    refine con_of_go mfX10_edit.1 trivial (Nat.le_of_ble_eq_true rfl) rfl (by decide) ?_
    show Go _ _ _ _ 0 [vA _, vT 9 0] [] _ _
    refine go_aload_n (at_of tX10_edit 0 0 rfl) rfl ?_
    refine go_getfD fl_X10_27 rfl (by first | exact hgt | (simp (disch := omega) only [GamD_P1, GamD_M1, GamD_R1, GamD_dS]; exact hgt)) (at_of tX10_edit 0 1 rfl) ?_
    rw [hu]
    refine go_bipush (at_of tX10_edit 0 2 rfl) (by decide) ?_
    refine go_icmp_ne (tgt := 46) (at_of tX10_edit 0 3 rfl) (by decide) (fun h6 => ?_) (fun h6 => ?_)
    · exfalso; omega
    refine go_iconst (at_of tX10_edit 0 4 rfl) (by unfold in32; omega) ?_
    refine go_istore_n (at_of tX10_edit 0 5 rfl) rfl rfl ?_
    have h9 := lp_shift h0 (e3 (204, 937) (vI 5) (Nat.le_refl _) (Nat.le_refl _)) 5 0 (Int.le_refl _) rfl
    rw [dS_0] at h9
    exact h9
    · have hj7 : j ≤ 6 := hj
      show (if j < 6 then A.1 (j + 1) else A.1 6) = edP _ 5 j
      by_cases h5 : j < 6
      · rw [if_pos h5, edP_o (by omega)]
      · have e6 : j = 5 + 1 := by omega
        rw [if_neg h5, e6, edP_s]
  · rw [if_neg hk]
    obtain ⟨σ2, F2, e1, ⟨e2, e2b⟩, e3⟩ := ed_tail h0 (by omega)
    refine ⟨σ2, F2, ?_, e1.congr (fun j hj => rfl), e2, e2b⟩
    refine con_of_go mfX10_edit.1 trivial (Nat.le_of_ble_eq_true rfl) rfl (by decide) ?_
    show Go _ _ _ _ 0 [vA _, vT 9 0] [] _ _
    refine go_aload_n (at_of tX10_edit 0 0 rfl) rfl ?_
    refine go_getfD fl_X10_27 rfl (by first | exact hgt | (simp (disch := omega) only [GamD_P1, GamD_M1, GamD_R1, GamD_dS]; exact hgt)) (at_of tX10_edit 0 1 rfl) ?_
    rw [hu]
    refine go_bipush (at_of tX10_edit 0 2 rfl) (by decide) ?_
    refine go_icmp_ne (tgt := 46) (at_of tX10_edit 0 3 rfl) (by decide) (fun h6 => ?_) (fun h6 => ?_)
    rotate_left
    · exfalso; omega
    exact e3 _ _ (Nat.le_refl _) (Nat.le_refl _)
end Desk2
