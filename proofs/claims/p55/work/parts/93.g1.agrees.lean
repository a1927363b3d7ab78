/-! The two agree: the units. -/
section Agree
variable {σ σ' τ : St} {A : PastD} {D : PapD} {F : Nat → DocF} {k : Nat}
/-- counts as far as i -/
def cP (R : RowD) (i : Int) : Int := cntF (seenB R.1 R.2.1) i.toNat 0
def cO (R : RowD) (i : Int) : Int := cntF (oldB R.1 R.2.1) i.toNat 0
def cE (R : RowD) (i : Int) : Int := cntF (sendB R.1 R.2.1) i.toNat 0
def cW (R : RowD) (i : Int) : Int := cntF (waitB R.1) i.toNat 0
theorem cnt_t {p : Int → Bool} {i : Int} (h0 : 0 ≤ i) (h : p i = true) : cntF p (i + 1).toNat 0 = cntF p i.toNat 0 + 1 := by
  rw [show (i + 1).toNat = i.toNat + 1 by omega, cntF_end, show (0 : Int) + (i.toNat : Nat) = i by omega]
  refine congrArg _ ?_
  show (if p i = true then (1 : Int) else 0) = 1
  rw [if_pos h]
theorem cnt_f {p : Int → Bool} {i : Int} (h0 : 0 ≤ i) (h : ¬ p i = true) : cntF p (i + 1).toNat 0 = cntF p i.toNat 0 := by
  rw [show (i + 1).toNat = i.toNat + 1 by omega, cntF_end, show (0 : Int) + (i.toNat : Nat) = i by omega]
  show _ + (if p i = true then (1 : Int) else 0) = _
  rw [if_neg h]
  omega
theorem cnt_rng {p : Int → Bool} {i : Int} (h0 : 0 ≤ i) (h1 : i ≤ 200) : 0 ≤ cntF p i.toNat 0 ∧ cntF p i.toNat 0 ≤ 200 := by
  have := cntF_le p i.toNat 0
  omega
theorem ix_at {R : RowD} {i : Int} (h0 : 0 ≤ i) (h1 : i ≤ R.2.1) (h : R.1 3 i = -1) : ixOf R.1 R.2.1 (cP R i) = i := by
  have q := scan_cnt (p := seenB R.1 R.2.1) (R.2.1 + 1).toNat 0 i (decide_eq_true ⟨h0, h1, h⟩) h0 (by omega)
  rw [show i - 0 = i by omega] at q
  exact q
theorem ixOld_at {R : RowD} {i : Int} (h0 : 0 ≤ i) (h1 : i < R.2.1) (h : R.1 2 i = -1) : ixOld R.1 R.2.1 (cO R i) = i := by
  have q := scan_cnt (p := oldB R.1 R.2.1) R.2.1.toNat 0 i (decide_eq_true ⟨h0, h1, h⟩) h0 (by omega)
  rw [show i - 0 = i by omega] at q
  exact q
theorem ends_at {R : RowD} {i : Int} (h1 : i ≤ R.2.1) : endsA R.1 R.2.1 i = cE R i := by
  unfold endsA cE
  rw [Int.min_eq_left h1]
theorem lp_ag1 (h : DkR σ F A.2.1 A.2.2 (edA A (A.1 A.2.1)).1) (hP : PpL (A.1 A.2.1)) (hS : Str σ.2.1) {pi : Nat → Nat} (hA : PastR σ pi A) {out : MV × St} (K : ∀ (b : Nat × Nat) (v9 : MV), Go (fun _ => 0) 8 mL_agrees b 214 [vA 0, vA 109, vA (F A.2.1).1, vI (cP (A.1 A.2.1).1 (A.1 A.2.1).1.2.1), vI (cO (A.1 A.2.1).1 (A.1 A.2.1).1.2.1), vI (cE (A.1 A.2.1).1 (A.1 A.2.1).1.2.1), vI (cW (A.1 A.2.1).1 (A.1 A.2.1).1.2.1), vI 1, vI (A.1 A.2.1).1.2.1, v9] [] σ out) : ∀ (m : Nat) (i : Int), 0 ≤ i → i + m = (A.1 A.2.1).1.2.1 → ∀ (b : Nat × Nat) (v9 : MV), m ≤ b.1 → 6 * m ≤ b.2 → Go (fun _ => 0) 8 mL_agrees b 48 [vA 0, vA 109, vA (F A.2.1).1, vI (cP (A.1 A.2.1).1 i), vI (cO (A.1 A.2.1).1 i), vI (cE (A.1 A.2.1).1 i), vI (cW (A.1 A.2.1).1 i), vI 1, vI i, v9] [] σ out := by
  have hN := hP.nn
  obtain ⟨hT, ⟨a1, a2, a3⟩, hpN, -⟩ := id h
  obtain ⟨⟨hgt, hgB, hgH⟩, ⟨hpB, hpH⟩, hcc⟩ := id hT
  have hnow := h.nowD
  obtain ⟨⟨⟨hgd, hgU, hgA, hgS⟩, ⟨hpU, hpA, hpS⟩, hge, hlt⟩, ⟨hn, hn2, -, -, -⟩, -, -, hch, hch2, hcl⟩ := id hnow
  have hDR : DocR σ (F A.2.1).1 (F A.2.1).2.1 (F A.2.1).2.2.1 (F A.2.1).2.2.2.1 (F A.2.1).2.2.2.2 (toL (A.1 A.2.1).1) (A.1 A.2.1).2.1.1 (A.1 A.2.1).2.1.2.2.1 (A.1 A.2.1).2.1.2.2.2 := hnow
  have hlen := hDR.len
  have htl := toL_len (R := (A.1 A.2.1).1)
  intro m
  induction m with
  | zero =>
    intro i h0 hi b v9 hb1 hb2
    have ei : i = (A.1 A.2.1).1.2.1 := by omega
    subst ei
    refine go_iload (at_of tL_agrees 1 11 rfl) rfl rfl ?_
    refine go_aload_n (at_of tL_agrees 1 12 rfl) rfl ?_
    refine go_getfD fl_L_130 rfl (by first | exact hgd | (simp (disch := omega) only [GamD_P1, GamD_M1, GamD_R1, GamD_dS]; exact hgd)) (at_of tL_agrees 1 13 rfl) ?_
    rw [hn]
    refine go_icmp_ge (tgt := 214) (at_of tL_agrees 1 14 rfl) (by decide) (fun h54 => ?_) (fun h54 => ?_)
    rotate_left
    · exfalso; omega
    exact K _ _
  | succ m ih =>
    intro i h0 hi b v9 hb1 hb2
    have ih := fun b v9 hb1 hb2 => ih (i + 1) (by omega) (by omega) b v9 hb1 hb2
    obtain ⟨u, v, hu1, hv1, hvd, hud, hpu, hgu, hl0, hl1, hl2, hvw, hum, hu9, hult⟩ := hDR.unit h0 (by omega)
    have ev := toL_get (R := (A.1 A.2.1).1) (i := i.toNat) (by omega)
    rw [hv1, show ((i.toNat : Nat) : Int) = i by omega] at ev
    have ev := Option.some.inj ev
    rw [ev] at hl0 hl1 hl2
    have hl0 : σ.1 u 0 = (A.1 A.2.1).1.1 0 i := hl0
    have hl1 : σ.1 u 1 = (A.1 A.2.1).1.1 2 i := hl1
    have hl2 : σ.1 u 2 = (A.1 A.2.1).1.1 3 i := hl2
    obtain ⟨m1, m2, m3, m4⟩ := hP.u h0 (by omega)
    have g1 := m1.ge.1
    have g2 := m2.ge.1
    have r1 := cnt_rng (p := seenB (A.1 A.2.1).1.1 (A.1 A.2.1).1.2.1) h0 (by omega)
    have r2 := cnt_rng (p := oldB (A.1 A.2.1).1.1 (A.1 A.2.1).1.2.1) h0 (by omega)
    have r3 := cnt_rng (p := sendB (A.1 A.2.1).1.1 (A.1 A.2.1).1.2.1) h0 (by omega)
    have r4 := cnt_rng (p := waitB (A.1 A.2.1).1.1) h0 (by omega)
    have r1 : 0 ≤ cP (A.1 A.2.1).1 i ∧ cP (A.1 A.2.1).1 i ≤ 200 := r1
    have r2 : 0 ≤ cO (A.1 A.2.1).1 i ∧ cO (A.1 A.2.1).1 i ≤ 200 := r2
    have r3 : 0 ≤ cE (A.1 A.2.1).1 i ∧ cE (A.1 A.2.1).1 i ≤ 200 := r3
    have r4 : 0 ≤ cW (A.1 A.2.1).1 i ∧ cW (A.1 A.2.1).1 i ≤ 200 := r4
    by_cases s : (A.1 A.2.1).1.1 3 i = -1
    · by_cases w : (A.1 A.2.1).1.1 2 i = -1
      · by_cases e : (A.1 A.2.1).1.1 0 i = 47
        · skip
          have eP : cP (A.1 A.2.1).1 (i + 1) = cP (A.1 A.2.1).1 i + 1 := cnt_t h0 (decide_eq_true ⟨h0, by omega, s⟩)
          have eO : cO (A.1 A.2.1).1 (i + 1) = cO (A.1 A.2.1).1 i + 1 := cnt_t h0 (decide_eq_true ⟨h0, by omega, w⟩)
          have eE : cE (A.1 A.2.1).1 (i + 1) = cE (A.1 A.2.1).1 i + 1 := cnt_t h0 (decide_eq_true ⟨h0, by omega, s, e⟩)
          have eW : cW (A.1 A.2.1).1 (i + 1) = cW (A.1 A.2.1).1 i + 0 := (cnt_f h0 (fun z => (of_decide_eq_true z).elim (fun q => q w) (fun q => q s))).trans (Int.add_zero _).symm
          have hix := ix_at (R := (A.1 A.2.1).1) h0 (by omega) s
          have c1 := ok_unitAt hS hA (p := cP (A.1 A.2.1).1 i) (by rw [hix]; omega) (by rw [hix]; omega)
          have c2 := ok_paragraphOf hS hA (p := cP (A.1 A.2.1).1 i) (by rw [hix]; omega)
          have c3 := con_lawChangeAt hS hA (p := cP (A.1 A.2.1).1 i) (by rw [hix]; omega) (by rw [hix]; omega)
          rw [hix, Int.emod_eq_of_lt (by omega) (by omega)] at c1
          rw [hix, ends_at (by omega)] at c2
          rw [hix] at c3
          have hio := ixOld_at (R := (A.1 A.2.1).1) h0 (by omega) w
          have c4 := ok_oldAt hS hA (p := cO (A.1 A.2.1).1 i) (by rw [hio]; omega)
          rw [hio, Int.emod_eq_of_lt (by omega) (by omega)] at c4
          rw [eP, eO, eE, eW] at ih
          refine go_iload (at_of tL_agrees 1 11 rfl) rfl rfl ?_
          refine go_aload_n (at_of tL_agrees 1 12 rfl) rfl ?_
          refine go_getfD fl_L_130 rfl (by first | exact hgd | (simp (disch := omega) only [GamD_P1, GamD_M1, GamD_R1, GamD_dS]; exact hgd)) (at_of tL_agrees 1 13 rfl) ?_
          rw [hn]
          refine go_icmp_ge (tgt := 214) (at_of tL_agrees 1 14 rfl) (by decide) (fun h54 => ?_) (fun h54 => ?_)
          · exfalso; omega
          refine go_iload (at_of tL_agrees 1 15 rfl) rfl rfl ?_
          refine go_if_eq (tgt := 214) (at_of tL_agrees 2 0 rfl) (by decide) (fun h59 => ?_) (fun h59 => ?_)
          · exfalso; omega
          refine go_aload_n (at_of tL_agrees 2 1 rfl) rfl ?_
          refine go_getrD (q := (F A.2.1).2.1) fl_L_133 rfl (by first | exact hgd | (simp (disch := omega) only [GamD_P1, GamD_M1, GamD_R1, GamD_dS]; exact hgd)) hpU (at_of tL_agrees 2 2 rfl) ?_
          refine go_iload (at_of tL_agrees 2 3 rfl) rfl rfl ?_
          refine go_aaldD (by first | exact hgU | (simp (disch := omega) only [GamD_P1, GamD_M1, GamD_R1, GamD_dS]; exact hgU)) (Or.inl rfl) (by omega) (by omega) hpu (at_of tL_agrees 2 4 rfl) ?_
          refine go_astore (at_of tL_agrees 2 5 rfl) rfl rfl ?_
          refine go_iload (at_of tL_agrees 2 6 rfl) rfl rfl ?_
          refine go_aload (at_of tL_agrees 2 7 rfl) rfl ?_
          refine go_getfD fl_L_137 rfl (by first | exact hgu | (simp (disch := omega) only [GamD_P1, GamD_M1, GamD_R1, GamD_dS]; exact hgu)) (at_of tL_agrees 2 8 rfl) ?_
          rw [hl1]
          refine go_if_ge (tgt := 89) (at_of tL_agrees 2 9 rfl) (by decide) (fun h78 => ?_) (fun h78 => ?_)
          · exfalso; omega
          refine go_aload (at_of tL_agrees 2 10 rfl) rfl ?_
          refine go_getfD fl_L_142 rfl (by first | exact hgu | (simp (disch := omega) only [GamD_P1, GamD_M1, GamD_R1, GamD_dS]; exact hgu)) (at_of tL_agrees 2 11 rfl) ?_
          rw [hl2]
          refine go_if_lt (tgt := 93) (at_of tL_agrees 2 12 rfl) (by decide) (fun h86 => ?_) (fun h86 => ?_)
          rotate_left
          · exfalso; omega
          refine go_iconst (at_of tL_agrees 2 15 rfl) (by unfold in32; omega) ?_
          refine go_iadd (at_of tL_agrees 3 0 rfl) (by unfold in32; omega) ?_
          refine go_istore (at_of tL_agrees 3 1 rfl) rfl rfl ?_
          refine go_aload (at_of tL_agrees 3 2 rfl) rfl ?_
          refine go_getfD fl_L_142 rfl (by first | exact hgu | (simp (disch := omega) only [GamD_P1, GamD_M1, GamD_R1, GamD_dS]; exact hgu)) (at_of tL_agrees 3 3 rfl) ?_
          rw [hl2]
          refine go_if_ge (tgt := 171) (at_of tL_agrees 3 4 rfl) (by decide) (fun h102 => ?_) (fun h102 => ?_)
          · exfalso; omega
          refine go_aload_n (at_of tL_agrees 3 5 rfl) rfl ?_
          refine go_iload_n (at_of tL_agrees 3 6 rfl) rfl ?_
          refine go_cV (c1) lk_L_145 rfl G_0 (at_of tL_agrees 3 7 rfl) rfl (by decide) rfl (Nat.le_of_ble_eq_true rfl) rfl (⟨by omega, by omega⟩) ?_
          refine go_aload (at_of tL_agrees 3 8 rfl) rfl ?_
          refine go_getfD fl_L_148 rfl (by first | exact hgu | (simp (disch := omega) only [GamD_P1, GamD_M1, GamD_R1, GamD_dS]; exact hgu)) (at_of tL_agrees 3 9 rfl) ?_
          rw [hl0]
          refine go_icmp_ne (tgt := 145) (at_of tL_agrees 3 10 rfl) (by decide) (fun h115 => ?_) (fun h115 => ?_)
          · exfalso; exact h115 rfl
          refine go_aload_n (at_of tL_agrees 3 11 rfl) rfl ?_
          refine go_iload_n (at_of tL_agrees 3 12 rfl) rfl ?_
          refine go_cV (c2) lk_L_152 rfl G_0 (at_of tL_agrees 3 13 rfl) rfl (by decide) rfl (Nat.le_of_ble_eq_true rfl) rfl (⟨by omega, by omega⟩) ?_
          refine go_iload (at_of tL_agrees 3 14 rfl) rfl rfl ?_
          refine go_icmp_ne (tgt := 145) (at_of tL_agrees 3 15 rfl) (by decide) (fun h125 => ?_) (fun h125 => ?_)
          · exfalso; exact h125 rfl
          refine go_aload_n (at_of tL_agrees 4 0 rfl) rfl ?_
          refine go_iload_n (at_of tL_agrees 4 1 rfl) rfl ?_
          refine go_cX (c3) lk_L_155 rfl (at_of tL_agrees 4 2 rfl) rfl (by decide) rfl (Nat.le_of_ble_eq_true rfl) rfl (⟨by omega, by omega⟩) ?_
          refine go_aload (at_of tL_agrees 4 3 rfl) rfl ?_
          refine go_getfD fl_L_137 rfl (by first | exact hgu | (simp (disch := omega) only [GamD_P1, GamD_M1, GamD_R1, GamD_dS]; exact hgu)) (at_of tL_agrees 4 4 rfl) ?_
          rw [hl1]
          refine go_icmp_ne (tgt := 145) (at_of tL_agrees 4 5 rfl) (by decide) (fun h138 => ?_) (fun h138 => ?_)
          · exfalso; exact h138 rfl
          refine go_iconst (at_of tL_agrees 4 6 rfl) (by unfold in32; omega) ?_
          refine go_goto (tgt := 146) (at_of tL_agrees 4 7 rfl) (by decide) ?_
          refine go_istore (at_of tL_agrees 4 9 rfl) rfl rfl ?_
          refine go_iload (at_of tL_agrees 4 10 rfl) rfl rfl ?_
          refine go_aload (at_of tL_agrees 4 11 rfl) rfl ?_
          refine go_getfD fl_L_148 rfl (by first | exact hgu | (simp (disch := omega) only [GamD_P1, GamD_M1, GamD_R1, GamD_dS]; exact hgu)) (at_of tL_agrees 4 12 rfl) ?_
          refine go_bipush (at_of tL_agrees 4 13 rfl) (by decide) ?_
          rw [hl0]
          refine go_icmp_ne (tgt := 164) (at_of tL_agrees 4 14 rfl) (by decide) (fun h157 => ?_) (fun h157 => ?_)
          · exfalso; exact h157 e
          refine go_iconst (at_of tL_agrees 4 15 rfl) (by unfold in32; omega) ?_
          refine go_goto (tgt := 165) (at_of tL_agrees 5 0 rfl) (by decide) ?_
          refine go_iadd (at_of tL_agrees 5 2 rfl) (by unfold in32; omega) ?_
          refine go_istore (at_of tL_agrees 5 3 rfl) rfl rfl ?_
          refine go_iinc (at_of tL_agrees 5 4 rfl) rfl (by unfold in32; omega) rfl rfl ?_
          refine go_aload (at_of tL_agrees 5 5 rfl) rfl ?_
          refine go_getfD fl_L_137 rfl (by first | exact hgu | (simp (disch := omega) only [GamD_P1, GamD_M1, GamD_R1, GamD_dS]; exact hgu)) (at_of tL_agrees 5 6 rfl) ?_
          rw [hl1]
          refine go_if_ge (tgt := 208) (at_of tL_agrees 5 7 rfl) (by decide) (fun h176 => ?_) (fun h176 => ?_)
          · exfalso; omega
          refine go_iload (at_of tL_agrees 5 8 rfl) rfl rfl ?_
          refine go_if_eq (tgt := 202) (at_of tL_agrees 5 9 rfl) (by decide) (fun h181 => ?_) (fun h181 => ?_)
          · exfalso; omega
          refine go_aload_n (at_of tL_agrees 5 10 rfl) rfl ?_
          refine go_iload (at_of tL_agrees 5 11 rfl) rfl rfl ?_
          refine go_cV (c4) lk_L_159 rfl G_0 (at_of tL_agrees 5 12 rfl) rfl (by decide) rfl (Nat.le_of_ble_eq_true rfl) rfl (⟨by omega, by omega⟩) ?_
          refine go_aload (at_of tL_agrees 5 13 rfl) rfl ?_
          refine go_getfD fl_L_148 rfl (by first | exact hgu | (simp (disch := omega) only [GamD_P1, GamD_M1, GamD_R1, GamD_dS]; exact hgu)) (at_of tL_agrees 5 14 rfl) ?_
          rw [hl0]
          refine go_icmp_ne (tgt := 202) (at_of tL_agrees 5 15 rfl) (by decide) (fun h195 => ?_) (fun h195 => ?_)
          · exfalso; exact h195 rfl
          refine go_iconst (at_of tL_agrees 6 0 rfl) (by unfold in32; omega) ?_
          refine go_goto (tgt := 203) (at_of tL_agrees 6 1 rfl) (by decide) ?_
          refine go_istore (at_of tL_agrees 6 3 rfl) rfl rfl ?_
          refine go_iinc (at_of tL_agrees 6 4 rfl) rfl (by unfold in32; omega) rfl rfl ?_
          refine go_iinc (at_of tL_agrees 6 5 rfl) rfl (by unfold in32; omega) rfl rfl ?_
          refine go_goto (tgt := 48) (at_of tL_agrees 6 6 rfl) (by decide) ?_
          exact ih _ _ (by first | omega | (dsimp only; omega)) (by first | omega | (dsimp only; omega))
        · skip
          have eP : cP (A.1 A.2.1).1 (i + 1) = cP (A.1 A.2.1).1 i + 1 := cnt_t h0 (decide_eq_true ⟨h0, by omega, s⟩)
          have eO : cO (A.1 A.2.1).1 (i + 1) = cO (A.1 A.2.1).1 i + 1 := cnt_t h0 (decide_eq_true ⟨h0, by omega, w⟩)
          have eE : cE (A.1 A.2.1).1 (i + 1) = cE (A.1 A.2.1).1 i + 0 := (cnt_f h0 (fun z => e (of_decide_eq_true z).2.2.2)).trans (Int.add_zero _).symm
          have eW : cW (A.1 A.2.1).1 (i + 1) = cW (A.1 A.2.1).1 i + 0 := (cnt_f h0 (fun z => (of_decide_eq_true z).elim (fun q => q w) (fun q => q s))).trans (Int.add_zero _).symm
          have hix := ix_at (R := (A.1 A.2.1).1) h0 (by omega) s
          have c1 := ok_unitAt hS hA (p := cP (A.1 A.2.1).1 i) (by rw [hix]; omega) (by rw [hix]; omega)
          have c2 := ok_paragraphOf hS hA (p := cP (A.1 A.2.1).1 i) (by rw [hix]; omega)
          have c3 := con_lawChangeAt hS hA (p := cP (A.1 A.2.1).1 i) (by rw [hix]; omega) (by rw [hix]; omega)
          rw [hix, Int.emod_eq_of_lt (by omega) (by omega)] at c1
          rw [hix, ends_at (by omega)] at c2
          rw [hix] at c3
          have hio := ixOld_at (R := (A.1 A.2.1).1) h0 (by omega) w
          have c4 := ok_oldAt hS hA (p := cO (A.1 A.2.1).1 i) (by rw [hio]; omega)
          rw [hio, Int.emod_eq_of_lt (by omega) (by omega)] at c4
          rw [eP, eO, eE, eW] at ih
          refine go_iload (at_of tL_agrees 1 11 rfl) rfl rfl ?_
          refine go_aload_n (at_of tL_agrees 1 12 rfl) rfl ?_
          refine go_getfD fl_L_130 rfl (by first | exact hgd | (simp (disch := omega) only [GamD_P1, GamD_M1, GamD_R1, GamD_dS]; exact hgd)) (at_of tL_agrees 1 13 rfl) ?_
          rw [hn]
          refine go_icmp_ge (tgt := 214) (at_of tL_agrees 1 14 rfl) (by decide) (fun h54 => ?_) (fun h54 => ?_)
          · exfalso; omega
          refine go_iload (at_of tL_agrees 1 15 rfl) rfl rfl ?_
          refine go_if_eq (tgt := 214) (at_of tL_agrees 2 0 rfl) (by decide) (fun h59 => ?_) (fun h59 => ?_)
          · exfalso; omega
          refine go_aload_n (at_of tL_agrees 2 1 rfl) rfl ?_
          refine go_getrD (q := (F A.2.1).2.1) fl_L_133 rfl (by first | exact hgd | (simp (disch := omega) only [GamD_P1, GamD_M1, GamD_R1, GamD_dS]; exact hgd)) hpU (at_of tL_agrees 2 2 rfl) ?_
          refine go_iload (at_of tL_agrees 2 3 rfl) rfl rfl ?_
          refine go_aaldD (by first | exact hgU | (simp (disch := omega) only [GamD_P1, GamD_M1, GamD_R1, GamD_dS]; exact hgU)) (Or.inl rfl) (by omega) (by omega) hpu (at_of tL_agrees 2 4 rfl) ?_
          refine go_astore (at_of tL_agrees 2 5 rfl) rfl rfl ?_
          refine go_iload (at_of tL_agrees 2 6 rfl) rfl rfl ?_
          refine go_aload (at_of tL_agrees 2 7 rfl) rfl ?_
          refine go_getfD fl_L_137 rfl (by first | exact hgu | (simp (disch := omega) only [GamD_P1, GamD_M1, GamD_R1, GamD_dS]; exact hgu)) (at_of tL_agrees 2 8 rfl) ?_
          rw [hl1]
          refine go_if_ge (tgt := 89) (at_of tL_agrees 2 9 rfl) (by decide) (fun h78 => ?_) (fun h78 => ?_)
          · exfalso; omega
          refine go_aload (at_of tL_agrees 2 10 rfl) rfl ?_
          refine go_getfD fl_L_142 rfl (by first | exact hgu | (simp (disch := omega) only [GamD_P1, GamD_M1, GamD_R1, GamD_dS]; exact hgu)) (at_of tL_agrees 2 11 rfl) ?_
          rw [hl2]
          refine go_if_lt (tgt := 93) (at_of tL_agrees 2 12 rfl) (by decide) (fun h86 => ?_) (fun h86 => ?_)
          rotate_left
          · exfalso; omega
          refine go_iconst (at_of tL_agrees 2 15 rfl) (by unfold in32; omega) ?_
          refine go_iadd (at_of tL_agrees 3 0 rfl) (by unfold in32; omega) ?_
          refine go_istore (at_of tL_agrees 3 1 rfl) rfl rfl ?_
          refine go_aload (at_of tL_agrees 3 2 rfl) rfl ?_
          refine go_getfD fl_L_142 rfl (by first | exact hgu | (simp (disch := omega) only [GamD_P1, GamD_M1, GamD_R1, GamD_dS]; exact hgu)) (at_of tL_agrees 3 3 rfl) ?_
          rw [hl2]
          refine go_if_ge (tgt := 171) (at_of tL_agrees 3 4 rfl) (by decide) (fun h102 => ?_) (fun h102 => ?_)
          · exfalso; omega
          refine go_aload_n (at_of tL_agrees 3 5 rfl) rfl ?_
          refine go_iload_n (at_of tL_agrees 3 6 rfl) rfl ?_
          refine go_cV (c1) lk_L_145 rfl G_0 (at_of tL_agrees 3 7 rfl) rfl (by decide) rfl (Nat.le_of_ble_eq_true rfl) rfl (⟨by omega, by omega⟩) ?_
          refine go_aload (at_of tL_agrees 3 8 rfl) rfl ?_
          refine go_getfD fl_L_148 rfl (by first | exact hgu | (simp (disch := omega) only [GamD_P1, GamD_M1, GamD_R1, GamD_dS]; exact hgu)) (at_of tL_agrees 3 9 rfl) ?_
          rw [hl0]
          refine go_icmp_ne (tgt := 145) (at_of tL_agrees 3 10 rfl) (by decide) (fun h115 => ?_) (fun h115 => ?_)
          · exfalso; exact h115 rfl
          refine go_aload_n (at_of tL_agrees 3 11 rfl) rfl ?_
          refine go_iload_n (at_of tL_agrees 3 12 rfl) rfl ?_
          refine go_cV (c2) lk_L_152 rfl G_0 (at_of tL_agrees 3 13 rfl) rfl (by decide) rfl (Nat.le_of_ble_eq_true rfl) rfl (⟨by omega, by omega⟩) ?_
          refine go_iload (at_of tL_agrees 3 14 rfl) rfl rfl ?_
          refine go_icmp_ne (tgt := 145) (at_of tL_agrees 3 15 rfl) (by decide) (fun h125 => ?_) (fun h125 => ?_)
          · exfalso; exact h125 rfl
          refine go_aload_n (at_of tL_agrees 4 0 rfl) rfl ?_
          refine go_iload_n (at_of tL_agrees 4 1 rfl) rfl ?_
          refine go_cX (c3) lk_L_155 rfl (at_of tL_agrees 4 2 rfl) rfl (by decide) rfl (Nat.le_of_ble_eq_true rfl) rfl (⟨by omega, by omega⟩) ?_
          refine go_aload (at_of tL_agrees 4 3 rfl) rfl ?_
          refine go_getfD fl_L_137 rfl (by first | exact hgu | (simp (disch := omega) only [GamD_P1, GamD_M1, GamD_R1, GamD_dS]; exact hgu)) (at_of tL_agrees 4 4 rfl) ?_
          rw [hl1]
          refine go_icmp_ne (tgt := 145) (at_of tL_agrees 4 5 rfl) (by decide) (fun h138 => ?_) (fun h138 => ?_)
          · exfalso; exact h138 rfl
          refine go_iconst (at_of tL_agrees 4 6 rfl) (by unfold in32; omega) ?_
          refine go_goto (tgt := 146) (at_of tL_agrees 4 7 rfl) (by decide) ?_
          refine go_istore (at_of tL_agrees 4 9 rfl) rfl rfl ?_
          refine go_iload (at_of tL_agrees 4 10 rfl) rfl rfl ?_
          refine go_aload (at_of tL_agrees 4 11 rfl) rfl ?_
          refine go_getfD fl_L_148 rfl (by first | exact hgu | (simp (disch := omega) only [GamD_P1, GamD_M1, GamD_R1, GamD_dS]; exact hgu)) (at_of tL_agrees 4 12 rfl) ?_
          refine go_bipush (at_of tL_agrees 4 13 rfl) (by decide) ?_
          rw [hl0]
          refine go_icmp_ne (tgt := 164) (at_of tL_agrees 4 14 rfl) (by decide) (fun h157 => ?_) (fun h157 => ?_)
          rotate_left
          · exfalso; exact e h157
          refine go_iconst (at_of tL_agrees 5 1 rfl) (by unfold in32; omega) ?_
          refine go_iadd (at_of tL_agrees 5 2 rfl) (by unfold in32; omega) ?_
          refine go_istore (at_of tL_agrees 5 3 rfl) rfl rfl ?_
          refine go_iinc (at_of tL_agrees 5 4 rfl) rfl (by unfold in32; omega) rfl rfl ?_
          refine go_aload (at_of tL_agrees 5 5 rfl) rfl ?_
          refine go_getfD fl_L_137 rfl (by first | exact hgu | (simp (disch := omega) only [GamD_P1, GamD_M1, GamD_R1, GamD_dS]; exact hgu)) (at_of tL_agrees 5 6 rfl) ?_
          rw [hl1]
          refine go_if_ge (tgt := 208) (at_of tL_agrees 5 7 rfl) (by decide) (fun h176 => ?_) (fun h176 => ?_)
          · exfalso; omega
          refine go_iload (at_of tL_agrees 5 8 rfl) rfl rfl ?_
          refine go_if_eq (tgt := 202) (at_of tL_agrees 5 9 rfl) (by decide) (fun h181 => ?_) (fun h181 => ?_)
          · exfalso; omega
          refine go_aload_n (at_of tL_agrees 5 10 rfl) rfl ?_
          refine go_iload (at_of tL_agrees 5 11 rfl) rfl rfl ?_
          refine go_cV (c4) lk_L_159 rfl G_0 (at_of tL_agrees 5 12 rfl) rfl (by decide) rfl (Nat.le_of_ble_eq_true rfl) rfl (⟨by omega, by omega⟩) ?_
          refine go_aload (at_of tL_agrees 5 13 rfl) rfl ?_
          refine go_getfD fl_L_148 rfl (by first | exact hgu | (simp (disch := omega) only [GamD_P1, GamD_M1, GamD_R1, GamD_dS]; exact hgu)) (at_of tL_agrees 5 14 rfl) ?_
          rw [hl0]
          refine go_icmp_ne (tgt := 202) (at_of tL_agrees 5 15 rfl) (by decide) (fun h195 => ?_) (fun h195 => ?_)
          · exfalso; exact h195 rfl
          refine go_iconst (at_of tL_agrees 6 0 rfl) (by unfold in32; omega) ?_
          refine go_goto (tgt := 203) (at_of tL_agrees 6 1 rfl) (by decide) ?_
          refine go_istore (at_of tL_agrees 6 3 rfl) rfl rfl ?_
          refine go_iinc (at_of tL_agrees 6 4 rfl) rfl (by unfold in32; omega) rfl rfl ?_
          refine go_iinc (at_of tL_agrees 6 5 rfl) rfl (by unfold in32; omega) rfl rfl ?_
          refine go_goto (tgt := 48) (at_of tL_agrees 6 6 rfl) (by decide) ?_
          exact ih _ _ (by first | omega | (dsimp only; omega)) (by first | omega | (dsimp only; omega))
      · by_cases e : (A.1 A.2.1).1.1 0 i = 47
        · skip
          have eP : cP (A.1 A.2.1).1 (i + 1) = cP (A.1 A.2.1).1 i + 1 := cnt_t h0 (decide_eq_true ⟨h0, by omega, s⟩)
          have eO : cO (A.1 A.2.1).1 (i + 1) = cO (A.1 A.2.1).1 i := cnt_f h0 (fun z => w (of_decide_eq_true z).2.2)
          have eE : cE (A.1 A.2.1).1 (i + 1) = cE (A.1 A.2.1).1 i + 1 := cnt_t h0 (decide_eq_true ⟨h0, by omega, s, e⟩)
          have eW : cW (A.1 A.2.1).1 (i + 1) = cW (A.1 A.2.1).1 i + 1 := cnt_t h0 (decide_eq_true (Or.inl w))
          have hix := ix_at (R := (A.1 A.2.1).1) h0 (by omega) s
          have c1 := ok_unitAt hS hA (p := cP (A.1 A.2.1).1 i) (by rw [hix]; omega) (by rw [hix]; omega)
          have c2 := ok_paragraphOf hS hA (p := cP (A.1 A.2.1).1 i) (by rw [hix]; omega)
          have c3 := con_lawChangeAt hS hA (p := cP (A.1 A.2.1).1 i) (by rw [hix]; omega) (by rw [hix]; omega)
          rw [hix, Int.emod_eq_of_lt (by omega) (by omega)] at c1
          rw [hix, ends_at (by omega)] at c2
          rw [hix] at c3
          rw [eP, eO, eE, eW] at ih
          refine go_iload (at_of tL_agrees 1 11 rfl) rfl rfl ?_
          refine go_aload_n (at_of tL_agrees 1 12 rfl) rfl ?_
          refine go_getfD fl_L_130 rfl (by first | exact hgd | (simp (disch := omega) only [GamD_P1, GamD_M1, GamD_R1, GamD_dS]; exact hgd)) (at_of tL_agrees 1 13 rfl) ?_
          rw [hn]
          refine go_icmp_ge (tgt := 214) (at_of tL_agrees 1 14 rfl) (by decide) (fun h54 => ?_) (fun h54 => ?_)
          · exfalso; omega
          refine go_iload (at_of tL_agrees 1 15 rfl) rfl rfl ?_
          refine go_if_eq (tgt := 214) (at_of tL_agrees 2 0 rfl) (by decide) (fun h59 => ?_) (fun h59 => ?_)
          · exfalso; omega
          refine go_aload_n (at_of tL_agrees 2 1 rfl) rfl ?_
          refine go_getrD (q := (F A.2.1).2.1) fl_L_133 rfl (by first | exact hgd | (simp (disch := omega) only [GamD_P1, GamD_M1, GamD_R1, GamD_dS]; exact hgd)) hpU (at_of tL_agrees 2 2 rfl) ?_
          refine go_iload (at_of tL_agrees 2 3 rfl) rfl rfl ?_
          refine go_aaldD (by first | exact hgU | (simp (disch := omega) only [GamD_P1, GamD_M1, GamD_R1, GamD_dS]; exact hgU)) (Or.inl rfl) (by omega) (by omega) hpu (at_of tL_agrees 2 4 rfl) ?_
          refine go_astore (at_of tL_agrees 2 5 rfl) rfl rfl ?_
          refine go_iload (at_of tL_agrees 2 6 rfl) rfl rfl ?_
          refine go_aload (at_of tL_agrees 2 7 rfl) rfl ?_
          refine go_getfD fl_L_137 rfl (by first | exact hgu | (simp (disch := omega) only [GamD_P1, GamD_M1, GamD_R1, GamD_dS]; exact hgu)) (at_of tL_agrees 2 8 rfl) ?_
          rw [hl1]
          refine go_if_ge (tgt := 89) (at_of tL_agrees 2 9 rfl) (by decide) (fun h78 => ?_) (fun h78 => ?_)
          rotate_left
          · exfalso; omega
          refine go_iconst (at_of tL_agrees 2 13 rfl) (by unfold in32; omega) ?_
          refine go_goto (tgt := 94) (at_of tL_agrees 2 14 rfl) (by decide) ?_
          refine go_iadd (at_of tL_agrees 3 0 rfl) (by unfold in32; omega) ?_
          refine go_istore (at_of tL_agrees 3 1 rfl) rfl rfl ?_
          refine go_aload (at_of tL_agrees 3 2 rfl) rfl ?_
          refine go_getfD fl_L_142 rfl (by first | exact hgu | (simp (disch := omega) only [GamD_P1, GamD_M1, GamD_R1, GamD_dS]; exact hgu)) (at_of tL_agrees 3 3 rfl) ?_
          rw [hl2]
          refine go_if_ge (tgt := 171) (at_of tL_agrees 3 4 rfl) (by decide) (fun h102 => ?_) (fun h102 => ?_)
          · exfalso; omega
          refine go_aload_n (at_of tL_agrees 3 5 rfl) rfl ?_
          refine go_iload_n (at_of tL_agrees 3 6 rfl) rfl ?_
          refine go_cV (c1) lk_L_145 rfl G_0 (at_of tL_agrees 3 7 rfl) rfl (by decide) rfl (Nat.le_of_ble_eq_true rfl) rfl (⟨by omega, by omega⟩) ?_
          refine go_aload (at_of tL_agrees 3 8 rfl) rfl ?_
          refine go_getfD fl_L_148 rfl (by first | exact hgu | (simp (disch := omega) only [GamD_P1, GamD_M1, GamD_R1, GamD_dS]; exact hgu)) (at_of tL_agrees 3 9 rfl) ?_
          rw [hl0]
          refine go_icmp_ne (tgt := 145) (at_of tL_agrees 3 10 rfl) (by decide) (fun h115 => ?_) (fun h115 => ?_)
          · exfalso; exact h115 rfl
          refine go_aload_n (at_of tL_agrees 3 11 rfl) rfl ?_
          refine go_iload_n (at_of tL_agrees 3 12 rfl) rfl ?_
          refine go_cV (c2) lk_L_152 rfl G_0 (at_of tL_agrees 3 13 rfl) rfl (by decide) rfl (Nat.le_of_ble_eq_true rfl) rfl (⟨by omega, by omega⟩) ?_
          refine go_iload (at_of tL_agrees 3 14 rfl) rfl rfl ?_
          refine go_icmp_ne (tgt := 145) (at_of tL_agrees 3 15 rfl) (by decide) (fun h125 => ?_) (fun h125 => ?_)
          · exfalso; exact h125 rfl
          refine go_aload_n (at_of tL_agrees 4 0 rfl) rfl ?_
          refine go_iload_n (at_of tL_agrees 4 1 rfl) rfl ?_
          refine go_cX (c3) lk_L_155 rfl (at_of tL_agrees 4 2 rfl) rfl (by decide) rfl (Nat.le_of_ble_eq_true rfl) rfl (⟨by omega, by omega⟩) ?_
          refine go_aload (at_of tL_agrees 4 3 rfl) rfl ?_
          refine go_getfD fl_L_137 rfl (by first | exact hgu | (simp (disch := omega) only [GamD_P1, GamD_M1, GamD_R1, GamD_dS]; exact hgu)) (at_of tL_agrees 4 4 rfl) ?_
          rw [hl1]
          refine go_icmp_ne (tgt := 145) (at_of tL_agrees 4 5 rfl) (by decide) (fun h138 => ?_) (fun h138 => ?_)
          · exfalso; exact h138 rfl
          refine go_iconst (at_of tL_agrees 4 6 rfl) (by unfold in32; omega) ?_
          refine go_goto (tgt := 146) (at_of tL_agrees 4 7 rfl) (by decide) ?_
          refine go_istore (at_of tL_agrees 4 9 rfl) rfl rfl ?_
          refine go_iload (at_of tL_agrees 4 10 rfl) rfl rfl ?_
          refine go_aload (at_of tL_agrees 4 11 rfl) rfl ?_
          refine go_getfD fl_L_148 rfl (by first | exact hgu | (simp (disch := omega) only [GamD_P1, GamD_M1, GamD_R1, GamD_dS]; exact hgu)) (at_of tL_agrees 4 12 rfl) ?_
          refine go_bipush (at_of tL_agrees 4 13 rfl) (by decide) ?_
          rw [hl0]
          refine go_icmp_ne (tgt := 164) (at_of tL_agrees 4 14 rfl) (by decide) (fun h157 => ?_) (fun h157 => ?_)
          · exfalso; exact h157 e
          refine go_iconst (at_of tL_agrees 4 15 rfl) (by unfold in32; omega) ?_
          refine go_goto (tgt := 165) (at_of tL_agrees 5 0 rfl) (by decide) ?_
          refine go_iadd (at_of tL_agrees 5 2 rfl) (by unfold in32; omega) ?_
          refine go_istore (at_of tL_agrees 5 3 rfl) rfl rfl ?_
          refine go_iinc (at_of tL_agrees 5 4 rfl) rfl (by unfold in32; omega) rfl rfl ?_
          refine go_aload (at_of tL_agrees 5 5 rfl) rfl ?_
          refine go_getfD fl_L_137 rfl (by first | exact hgu | (simp (disch := omega) only [GamD_P1, GamD_M1, GamD_R1, GamD_dS]; exact hgu)) (at_of tL_agrees 5 6 rfl) ?_
          rw [hl1]
          refine go_if_ge (tgt := 208) (at_of tL_agrees 5 7 rfl) (by decide) (fun h176 => ?_) (fun h176 => ?_)
          rotate_left
          · exfalso; omega
          refine go_iinc (at_of tL_agrees 6 5 rfl) rfl (by unfold in32; omega) rfl rfl ?_
          refine go_goto (tgt := 48) (at_of tL_agrees 6 6 rfl) (by decide) ?_
          exact ih _ _ (by first | omega | (dsimp only; omega)) (by first | omega | (dsimp only; omega))
        · skip
          have eP : cP (A.1 A.2.1).1 (i + 1) = cP (A.1 A.2.1).1 i + 1 := cnt_t h0 (decide_eq_true ⟨h0, by omega, s⟩)
          have eO : cO (A.1 A.2.1).1 (i + 1) = cO (A.1 A.2.1).1 i := cnt_f h0 (fun z => w (of_decide_eq_true z).2.2)
          have eE : cE (A.1 A.2.1).1 (i + 1) = cE (A.1 A.2.1).1 i + 0 := (cnt_f h0 (fun z => e (of_decide_eq_true z).2.2.2)).trans (Int.add_zero _).symm
          have eW : cW (A.1 A.2.1).1 (i + 1) = cW (A.1 A.2.1).1 i + 1 := cnt_t h0 (decide_eq_true (Or.inl w))
          have hix := ix_at (R := (A.1 A.2.1).1) h0 (by omega) s
          have c1 := ok_unitAt hS hA (p := cP (A.1 A.2.1).1 i) (by rw [hix]; omega) (by rw [hix]; omega)
          have c2 := ok_paragraphOf hS hA (p := cP (A.1 A.2.1).1 i) (by rw [hix]; omega)
          have c3 := con_lawChangeAt hS hA (p := cP (A.1 A.2.1).1 i) (by rw [hix]; omega) (by rw [hix]; omega)
          rw [hix, Int.emod_eq_of_lt (by omega) (by omega)] at c1
          rw [hix, ends_at (by omega)] at c2
          rw [hix] at c3
          rw [eP, eO, eE, eW] at ih
          refine go_iload (at_of tL_agrees 1 11 rfl) rfl rfl ?_
          refine go_aload_n (at_of tL_agrees 1 12 rfl) rfl ?_
          refine go_getfD fl_L_130 rfl (by first | exact hgd | (simp (disch := omega) only [GamD_P1, GamD_M1, GamD_R1, GamD_dS]; exact hgd)) (at_of tL_agrees 1 13 rfl) ?_
          rw [hn]
          refine go_icmp_ge (tgt := 214) (at_of tL_agrees 1 14 rfl) (by decide) (fun h54 => ?_) (fun h54 => ?_)
          · exfalso; omega
          refine go_iload (at_of tL_agrees 1 15 rfl) rfl rfl ?_
          refine go_if_eq (tgt := 214) (at_of tL_agrees 2 0 rfl) (by decide) (fun h59 => ?_) (fun h59 => ?_)
          · exfalso; omega
          refine go_aload_n (at_of tL_agrees 2 1 rfl) rfl ?_
          refine go_getrD (q := (F A.2.1).2.1) fl_L_133 rfl (by first | exact hgd | (simp (disch := omega) only [GamD_P1, GamD_M1, GamD_R1, GamD_dS]; exact hgd)) hpU (at_of tL_agrees 2 2 rfl) ?_
          refine go_iload (at_of tL_agrees 2 3 rfl) rfl rfl ?_
          refine go_aaldD (by first | exact hgU | (simp (disch := omega) only [GamD_P1, GamD_M1, GamD_R1, GamD_dS]; exact hgU)) (Or.inl rfl) (by omega) (by omega) hpu (at_of tL_agrees 2 4 rfl) ?_
          refine go_astore (at_of tL_agrees 2 5 rfl) rfl rfl ?_
          refine go_iload (at_of tL_agrees 2 6 rfl) rfl rfl ?_
          refine go_aload (at_of tL_agrees 2 7 rfl) rfl ?_
          refine go_getfD fl_L_137 rfl (by first | exact hgu | (simp (disch := omega) only [GamD_P1, GamD_M1, GamD_R1, GamD_dS]; exact hgu)) (at_of tL_agrees 2 8 rfl) ?_
          rw [hl1]
          refine go_if_ge (tgt := 89) (at_of tL_agrees 2 9 rfl) (by decide) (fun h78 => ?_) (fun h78 => ?_)
          rotate_left
          · exfalso; omega
          refine go_iconst (at_of tL_agrees 2 13 rfl) (by unfold in32; omega) ?_
          refine go_goto (tgt := 94) (at_of tL_agrees 2 14 rfl) (by decide) ?_
          refine go_iadd (at_of tL_agrees 3 0 rfl) (by unfold in32; omega) ?_
          refine go_istore (at_of tL_agrees 3 1 rfl) rfl rfl ?_
          refine go_aload (at_of tL_agrees 3 2 rfl) rfl ?_
          refine go_getfD fl_L_142 rfl (by first | exact hgu | (simp (disch := omega) only [GamD_P1, GamD_M1, GamD_R1, GamD_dS]; exact hgu)) (at_of tL_agrees 3 3 rfl) ?_
          rw [hl2]
          refine go_if_ge (tgt := 171) (at_of tL_agrees 3 4 rfl) (by decide) (fun h102 => ?_) (fun h102 => ?_)
          · exfalso; omega
          refine go_aload_n (at_of tL_agrees 3 5 rfl) rfl ?_
          refine go_iload_n (at_of tL_agrees 3 6 rfl) rfl ?_
          refine go_cV (c1) lk_L_145 rfl G_0 (at_of tL_agrees 3 7 rfl) rfl (by decide) rfl (Nat.le_of_ble_eq_true rfl) rfl (⟨by omega, by omega⟩) ?_
          refine go_aload (at_of tL_agrees 3 8 rfl) rfl ?_
          refine go_getfD fl_L_148 rfl (by first | exact hgu | (simp (disch := omega) only [GamD_P1, GamD_M1, GamD_R1, GamD_dS]; exact hgu)) (at_of tL_agrees 3 9 rfl) ?_
          rw [hl0]
          refine go_icmp_ne (tgt := 145) (at_of tL_agrees 3 10 rfl) (by decide) (fun h115 => ?_) (fun h115 => ?_)
          · exfalso; exact h115 rfl
          refine go_aload_n (at_of tL_agrees 3 11 rfl) rfl ?_
          refine go_iload_n (at_of tL_agrees 3 12 rfl) rfl ?_
          refine go_cV (c2) lk_L_152 rfl G_0 (at_of tL_agrees 3 13 rfl) rfl (by decide) rfl (Nat.le_of_ble_eq_true rfl) rfl (⟨by omega, by omega⟩) ?_
          refine go_iload (at_of tL_agrees 3 14 rfl) rfl rfl ?_
          refine go_icmp_ne (tgt := 145) (at_of tL_agrees 3 15 rfl) (by decide) (fun h125 => ?_) (fun h125 => ?_)
          · exfalso; exact h125 rfl
          refine go_aload_n (at_of tL_agrees 4 0 rfl) rfl ?_
          refine go_iload_n (at_of tL_agrees 4 1 rfl) rfl ?_
          refine go_cX (c3) lk_L_155 rfl (at_of tL_agrees 4 2 rfl) rfl (by decide) rfl (Nat.le_of_ble_eq_true rfl) rfl (⟨by omega, by omega⟩) ?_
          refine go_aload (at_of tL_agrees 4 3 rfl) rfl ?_
          refine go_getfD fl_L_137 rfl (by first | exact hgu | (simp (disch := omega) only [GamD_P1, GamD_M1, GamD_R1, GamD_dS]; exact hgu)) (at_of tL_agrees 4 4 rfl) ?_
          rw [hl1]
          refine go_icmp_ne (tgt := 145) (at_of tL_agrees 4 5 rfl) (by decide) (fun h138 => ?_) (fun h138 => ?_)
          · exfalso; exact h138 rfl
          refine go_iconst (at_of tL_agrees 4 6 rfl) (by unfold in32; omega) ?_
          refine go_goto (tgt := 146) (at_of tL_agrees 4 7 rfl) (by decide) ?_
          refine go_istore (at_of tL_agrees 4 9 rfl) rfl rfl ?_
          refine go_iload (at_of tL_agrees 4 10 rfl) rfl rfl ?_
          refine go_aload (at_of tL_agrees 4 11 rfl) rfl ?_
          refine go_getfD fl_L_148 rfl (by first | exact hgu | (simp (disch := omega) only [GamD_P1, GamD_M1, GamD_R1, GamD_dS]; exact hgu)) (at_of tL_agrees 4 12 rfl) ?_
          refine go_bipush (at_of tL_agrees 4 13 rfl) (by decide) ?_
          rw [hl0]
          refine go_icmp_ne (tgt := 164) (at_of tL_agrees 4 14 rfl) (by decide) (fun h157 => ?_) (fun h157 => ?_)
          rotate_left
          · exfalso; exact e h157
          refine go_iconst (at_of tL_agrees 5 1 rfl) (by unfold in32; omega) ?_
          refine go_iadd (at_of tL_agrees 5 2 rfl) (by unfold in32; omega) ?_
          refine go_istore (at_of tL_agrees 5 3 rfl) rfl rfl ?_
          refine go_iinc (at_of tL_agrees 5 4 rfl) rfl (by unfold in32; omega) rfl rfl ?_
          refine go_aload (at_of tL_agrees 5 5 rfl) rfl ?_
          refine go_getfD fl_L_137 rfl (by first | exact hgu | (simp (disch := omega) only [GamD_P1, GamD_M1, GamD_R1, GamD_dS]; exact hgu)) (at_of tL_agrees 5 6 rfl) ?_
          rw [hl1]
          refine go_if_ge (tgt := 208) (at_of tL_agrees 5 7 rfl) (by decide) (fun h176 => ?_) (fun h176 => ?_)
          rotate_left
          · exfalso; omega
          refine go_iinc (at_of tL_agrees 6 5 rfl) rfl (by unfold in32; omega) rfl rfl ?_
          refine go_goto (tgt := 48) (at_of tL_agrees 6 6 rfl) (by decide) ?_
          exact ih _ _ (by first | omega | (dsimp only; omega)) (by first | omega | (dsimp only; omega))
    · by_cases w : (A.1 A.2.1).1.1 2 i = -1
      · skip
        have eP : cP (A.1 A.2.1).1 (i + 1) = cP (A.1 A.2.1).1 i := cnt_f h0 (fun z => s (of_decide_eq_true z).2.2)
        have eO : cO (A.1 A.2.1).1 (i + 1) = cO (A.1 A.2.1).1 i + 1 := cnt_t h0 (decide_eq_true ⟨h0, by omega, w⟩)
        have eE : cE (A.1 A.2.1).1 (i + 1) = cE (A.1 A.2.1).1 i := cnt_f h0 (fun z => s (of_decide_eq_true z).2.2.1)
        have eW : cW (A.1 A.2.1).1 (i + 1) = cW (A.1 A.2.1).1 i + 1 := cnt_t h0 (decide_eq_true (Or.inr s))
        have hio := ixOld_at (R := (A.1 A.2.1).1) h0 (by omega) w
        have c4 := ok_oldAt hS hA (p := cO (A.1 A.2.1).1 i) (by rw [hio]; omega)
        rw [hio, Int.emod_eq_of_lt (by omega) (by omega)] at c4
        rw [eP, eO, eE, eW] at ih
        refine go_iload (at_of tL_agrees 1 11 rfl) rfl rfl ?_
        refine go_aload_n (at_of tL_agrees 1 12 rfl) rfl ?_
        refine go_getfD fl_L_130 rfl (by first | exact hgd | (simp (disch := omega) only [GamD_P1, GamD_M1, GamD_R1, GamD_dS]; exact hgd)) (at_of tL_agrees 1 13 rfl) ?_
        rw [hn]
        refine go_icmp_ge (tgt := 214) (at_of tL_agrees 1 14 rfl) (by decide) (fun h54 => ?_) (fun h54 => ?_)
        · exfalso; omega
        refine go_iload (at_of tL_agrees 1 15 rfl) rfl rfl ?_
        refine go_if_eq (tgt := 214) (at_of tL_agrees 2 0 rfl) (by decide) (fun h59 => ?_) (fun h59 => ?_)
        · exfalso; omega
        refine go_aload_n (at_of tL_agrees 2 1 rfl) rfl ?_
        refine go_getrD (q := (F A.2.1).2.1) fl_L_133 rfl (by first | exact hgd | (simp (disch := omega) only [GamD_P1, GamD_M1, GamD_R1, GamD_dS]; exact hgd)) hpU (at_of tL_agrees 2 2 rfl) ?_
        refine go_iload (at_of tL_agrees 2 3 rfl) rfl rfl ?_
        refine go_aaldD (by first | exact hgU | (simp (disch := omega) only [GamD_P1, GamD_M1, GamD_R1, GamD_dS]; exact hgU)) (Or.inl rfl) (by omega) (by omega) hpu (at_of tL_agrees 2 4 rfl) ?_
        refine go_astore (at_of tL_agrees 2 5 rfl) rfl rfl ?_
        refine go_iload (at_of tL_agrees 2 6 rfl) rfl rfl ?_
        refine go_aload (at_of tL_agrees 2 7 rfl) rfl ?_
        refine go_getfD fl_L_137 rfl (by first | exact hgu | (simp (disch := omega) only [GamD_P1, GamD_M1, GamD_R1, GamD_dS]; exact hgu)) (at_of tL_agrees 2 8 rfl) ?_
        rw [hl1]
        refine go_if_ge (tgt := 89) (at_of tL_agrees 2 9 rfl) (by decide) (fun h78 => ?_) (fun h78 => ?_)
        · exfalso; omega
        refine go_aload (at_of tL_agrees 2 10 rfl) rfl ?_
        refine go_getfD fl_L_142 rfl (by first | exact hgu | (simp (disch := omega) only [GamD_P1, GamD_M1, GamD_R1, GamD_dS]; exact hgu)) (at_of tL_agrees 2 11 rfl) ?_
        rw [hl2]
        refine go_if_lt (tgt := 93) (at_of tL_agrees 2 12 rfl) (by decide) (fun h86 => ?_) (fun h86 => ?_)
        · exfalso; omega
        refine go_iconst (at_of tL_agrees 2 13 rfl) (by unfold in32; omega) ?_
        refine go_goto (tgt := 94) (at_of tL_agrees 2 14 rfl) (by decide) ?_
        refine go_iadd (at_of tL_agrees 3 0 rfl) (by unfold in32; omega) ?_
        refine go_istore (at_of tL_agrees 3 1 rfl) rfl rfl ?_
        refine go_aload (at_of tL_agrees 3 2 rfl) rfl ?_
        refine go_getfD fl_L_142 rfl (by first | exact hgu | (simp (disch := omega) only [GamD_P1, GamD_M1, GamD_R1, GamD_dS]; exact hgu)) (at_of tL_agrees 3 3 rfl) ?_
        rw [hl2]
        refine go_if_ge (tgt := 171) (at_of tL_agrees 3 4 rfl) (by decide) (fun h102 => ?_) (fun h102 => ?_)
        rotate_left
        · exfalso; omega
        refine go_aload (at_of tL_agrees 5 5 rfl) rfl ?_
        refine go_getfD fl_L_137 rfl (by first | exact hgu | (simp (disch := omega) only [GamD_P1, GamD_M1, GamD_R1, GamD_dS]; exact hgu)) (at_of tL_agrees 5 6 rfl) ?_
        rw [hl1]
        refine go_if_ge (tgt := 208) (at_of tL_agrees 5 7 rfl) (by decide) (fun h176 => ?_) (fun h176 => ?_)
        · exfalso; omega
        refine go_iload (at_of tL_agrees 5 8 rfl) rfl rfl ?_
        refine go_if_eq (tgt := 202) (at_of tL_agrees 5 9 rfl) (by decide) (fun h181 => ?_) (fun h181 => ?_)
        · exfalso; omega
        refine go_aload_n (at_of tL_agrees 5 10 rfl) rfl ?_
        refine go_iload (at_of tL_agrees 5 11 rfl) rfl rfl ?_
        refine go_cV (c4) lk_L_159 rfl G_0 (at_of tL_agrees 5 12 rfl) rfl (by decide) rfl (Nat.le_of_ble_eq_true rfl) rfl (⟨by omega, by omega⟩) ?_
        refine go_aload (at_of tL_agrees 5 13 rfl) rfl ?_
        refine go_getfD fl_L_148 rfl (by first | exact hgu | (simp (disch := omega) only [GamD_P1, GamD_M1, GamD_R1, GamD_dS]; exact hgu)) (at_of tL_agrees 5 14 rfl) ?_
        rw [hl0]
        refine go_icmp_ne (tgt := 202) (at_of tL_agrees 5 15 rfl) (by decide) (fun h195 => ?_) (fun h195 => ?_)
        · exfalso; exact h195 rfl
        refine go_iconst (at_of tL_agrees 6 0 rfl) (by unfold in32; omega) ?_
        refine go_goto (tgt := 203) (at_of tL_agrees 6 1 rfl) (by decide) ?_
        refine go_istore (at_of tL_agrees 6 3 rfl) rfl rfl ?_
        refine go_iinc (at_of tL_agrees 6 4 rfl) rfl (by unfold in32; omega) rfl rfl ?_
        refine go_iinc (at_of tL_agrees 6 5 rfl) rfl (by unfold in32; omega) rfl rfl ?_
        refine go_goto (tgt := 48) (at_of tL_agrees 6 6 rfl) (by decide) ?_
        exact ih _ _ (by first | omega | (dsimp only; omega)) (by first | omega | (dsimp only; omega))
      · skip
        have eP : cP (A.1 A.2.1).1 (i + 1) = cP (A.1 A.2.1).1 i := cnt_f h0 (fun z => s (of_decide_eq_true z).2.2)
        have eO : cO (A.1 A.2.1).1 (i + 1) = cO (A.1 A.2.1).1 i := cnt_f h0 (fun z => w (of_decide_eq_true z).2.2)
        have eE : cE (A.1 A.2.1).1 (i + 1) = cE (A.1 A.2.1).1 i := cnt_f h0 (fun z => s (of_decide_eq_true z).2.2.1)
        have eW : cW (A.1 A.2.1).1 (i + 1) = cW (A.1 A.2.1).1 i + 1 := cnt_t h0 (decide_eq_true (Or.inl w))
        rw [eP, eO, eE, eW] at ih
        refine go_iload (at_of tL_agrees 1 11 rfl) rfl rfl ?_
        refine go_aload_n (at_of tL_agrees 1 12 rfl) rfl ?_
        refine go_getfD fl_L_130 rfl (by first | exact hgd | (simp (disch := omega) only [GamD_P1, GamD_M1, GamD_R1, GamD_dS]; exact hgd)) (at_of tL_agrees 1 13 rfl) ?_
        rw [hn]
        refine go_icmp_ge (tgt := 214) (at_of tL_agrees 1 14 rfl) (by decide) (fun h54 => ?_) (fun h54 => ?_)
        · exfalso; omega
        refine go_iload (at_of tL_agrees 1 15 rfl) rfl rfl ?_
        refine go_if_eq (tgt := 214) (at_of tL_agrees 2 0 rfl) (by decide) (fun h59 => ?_) (fun h59 => ?_)
        · exfalso; omega
        refine go_aload_n (at_of tL_agrees 2 1 rfl) rfl ?_
        refine go_getrD (q := (F A.2.1).2.1) fl_L_133 rfl (by first | exact hgd | (simp (disch := omega) only [GamD_P1, GamD_M1, GamD_R1, GamD_dS]; exact hgd)) hpU (at_of tL_agrees 2 2 rfl) ?_
        refine go_iload (at_of tL_agrees 2 3 rfl) rfl rfl ?_
        refine go_aaldD (by first | exact hgU | (simp (disch := omega) only [GamD_P1, GamD_M1, GamD_R1, GamD_dS]; exact hgU)) (Or.inl rfl) (by omega) (by omega) hpu (at_of tL_agrees 2 4 rfl) ?_
        refine go_astore (at_of tL_agrees 2 5 rfl) rfl rfl ?_
        refine go_iload (at_of tL_agrees 2 6 rfl) rfl rfl ?_
        refine go_aload (at_of tL_agrees 2 7 rfl) rfl ?_
        refine go_getfD fl_L_137 rfl (by first | exact hgu | (simp (disch := omega) only [GamD_P1, GamD_M1, GamD_R1, GamD_dS]; exact hgu)) (at_of tL_agrees 2 8 rfl) ?_
        rw [hl1]
        refine go_if_ge (tgt := 89) (at_of tL_agrees 2 9 rfl) (by decide) (fun h78 => ?_) (fun h78 => ?_)
        rotate_left
        · exfalso; omega
        refine go_iconst (at_of tL_agrees 2 13 rfl) (by unfold in32; omega) ?_
        refine go_goto (tgt := 94) (at_of tL_agrees 2 14 rfl) (by decide) ?_
        refine go_iadd (at_of tL_agrees 3 0 rfl) (by unfold in32; omega) ?_
        refine go_istore (at_of tL_agrees 3 1 rfl) rfl rfl ?_
        refine go_aload (at_of tL_agrees 3 2 rfl) rfl ?_
        refine go_getfD fl_L_142 rfl (by first | exact hgu | (simp (disch := omega) only [GamD_P1, GamD_M1, GamD_R1, GamD_dS]; exact hgu)) (at_of tL_agrees 3 3 rfl) ?_
        rw [hl2]
        refine go_if_ge (tgt := 171) (at_of tL_agrees 3 4 rfl) (by decide) (fun h102 => ?_) (fun h102 => ?_)
        rotate_left
        · exfalso; omega
        refine go_aload (at_of tL_agrees 5 5 rfl) rfl ?_
        refine go_getfD fl_L_137 rfl (by first | exact hgu | (simp (disch := omega) only [GamD_P1, GamD_M1, GamD_R1, GamD_dS]; exact hgu)) (at_of tL_agrees 5 6 rfl) ?_
        rw [hl1]
        refine go_if_ge (tgt := 208) (at_of tL_agrees 5 7 rfl) (by decide) (fun h176 => ?_) (fun h176 => ?_)
        rotate_left
        · exfalso; omega
        refine go_iinc (at_of tL_agrees 6 5 rfl) rfl (by unfold in32; omega) rfl rfl ?_
        refine go_goto (tgt := 48) (at_of tL_agrees 6 6 rfl) (by decide) ?_
        exact ih _ _ (by first | omega | (dsimp only; omega)) (by first | omega | (dsimp only; omega))
end Agree
