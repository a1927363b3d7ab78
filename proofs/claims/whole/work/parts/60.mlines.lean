/-! The reference's layout: what is asked of it. -/
section Mod19
variable {σ : St} {R : RowD} {Q : Int → Int}
theorem stI_ix (hn : 0 ≤ R.2.1) {u : Int} (h0 : 0 ≤ u) (h1 : u ≤ R.2.1 + 1) : stI R u = if enN R u ≤ 0 then 0 else ixEnd R.1 R.2.1 (enN R u - 1) + 1 := by
  have : ∀ m : Nat, (m : Int) ≤ R.2.1 + 1 → stI R m = if enN R m ≤ 0 then 0 else ixEnd R.1 R.2.1 (enN R m - 1) + 1 := by
    intro m
    induction m with
    | zero => intro _; rfl
    | succ m ih =>
      intro h
      have a1 := enN_s (R := R) (i := m) (by omega)
      have a2 := stI_s (R := R) (i := m) (by omega)
      have a3 := @enN_nn R m
      rw [show (((m + 1 : Nat)) : Int) = (m : Int) + 1 by omega]
      by_cases hs : sendB R.1 R.2.1 m = true
      · rw [ind_t hs] at a1
        rw [if_pos hs] at a2
        rw [a1, a2, if_neg (by omega), show enN R m + 1 - 1 = enN R m by omega, ixEnd_enN (by omega) hs]
      · rw [ind_f hs] at a1
        rw [if_neg hs] at a2
        rw [a1, a2, Int.add_zero, ih (by omega)]
  have z := this u.toNat (by omega)
  rw [show ((u.toNat : Nat) : Int) = u by omega] at z
  exact z
theorem pl_sg : ∀ (d : Nat) (i : Int), 0 ≤ i → plN R (i + d) = plN R i → sgS R Q (i + d) = sgS R Q i := by
  intro d
  induction d with
  | zero => intro i _ _; rw [show i + ((0 : Nat) : Int) = i by omega]
  | succ d ih =>
    intro i h0 h
    rw [show i + ((d + 1 : Nat) : Int) = i + d + 1 by omega] at h ⊢
    have a := plN_s (R := R) (i := i + d) (by omega)
    have b := sgS_s (R := R) (Q := Q) (i := i + d) (by omega)
    have c := plN_le (R := R) (i := i) (j := i + d) (by omega)
    by_cases hs : R.1 3 (i + d) = -1
    · rw [ind_t (decide_eq_true hs)] at a; omega
    · rw [ind_f (fun q => hs (of_decide_eq_true q))] at a
      rw [b, sgn_no hs, Int.add_zero]
      exact ih i h0 (by omega)
theorem m_lineNow (hS : Str σ.2.1) {D : PapD} (hN : RepN (cN σ) D) (hW : WfM D) (hB : sgS D.1 D.2.2 (D.1.2.1 + 1) ≤ 500) {KV : Int → Int} {w h : Int} (hw : 5 ≤ w) (hh : 2 ≤ h ∧ h ≤ 40) (hLay : LayM σ D.1 D.2.2 KV w h) {p : Int} (hp : 0 ≤ p ∧ p ≤ plOf D.1.1 D.1.2.1 D.1.2.1) : Con 4 mX10_lineNow 0 0 [vA 109, vI p] σ (vI (gpR D.1 D.2.2 KV w h (ixOf D.1.1 D.1.2.1 p)), σ) := by
  obtain ⟨hE, hSg, hMk, hRw⟩ := id hW
  obtain ⟨e1, e2, e3, e4⟩ := id hE
  obtain ⟨y1, y2, y3⟩ := id hLay
  obtain ⟨u1, u2, u3, u4⟩ := place_ix hE hp.1 hp.2
  have mu := m_unitOf hS hN.1 hE hSg hp.1 hp.2
  have mp := m_paragraphAt hS hN hW hp.1 hp.2
  rw [endsA_N u2] at mp
  have gl := gpR_le (Q := D.2.2) (KV := KV) hE hB (w := w) (h := h) (by omega) hh u1 u2
  have ob := ofR_b hE hB (w := w) (by omega) u1 u2
  have uf := unit_fs (Q := D.2.2) hE u1 u2
  have pb := plN_ub (R := D.1) u1
  have ub := enN_ub (R := D.1) u1
  have q1 := y2 (enN D.1 (ixOf D.1.1 D.1.2.1 p)) uf.1 uf.2.1
  unfold gpR at gl ⊢
  obtain ⟨u, hu⟩ : ∃ u, u = ixOf D.1.1 D.1.2.1 p := ⟨_, rfl⟩
  rw [← hu] at mu mp gl ob uf ub pb q1 u1 u2 u3 u4 ⊢
  by_cases h47 : D.1.1 0 u = 47
  · have hse := (send_iff u1 u2).mpr ⟨u3, h47⟩
    have hfs := fsF_s (Q := D.2.2) (R := D.1) e1 uf.1 uf.2.1
    have gu := sgS_s (R := D.1) (Q := D.2.2) u1
    rw [sgn_47 h47, Int.add_zero] at gu
    rw [ixEnd_enN u1 hse, gu] at hfs
    have sb := stI_b (R := D.1) u1
    have sf := stI_fs (Q := D.2.2) (R := D.1) e1 u1 (by omega)
    have sx := stI_ix (R := D.1) e1 u1 (by omega)
    obtain ⟨st, hst⟩ : ∃ st, st = stI D.1 u := ⟨_, rfl⟩
    rw [← hst] at sb sf sx
    have hpn := plN_le (R := D.1) (i := st) (j := u) sb.2
    have ms := m_startAt hS hN hW (p := enN D.1 u) ⟨uf.1, by rw [endsA_N (Int.le_refl _)]; exact enN_le u2⟩
    have hstart : (if enN D.1 u ≤ 0 then 0 else plOf D.1.1 D.1.2.1 (ixEnd D.1.1 D.1.2.1 (enN D.1 u - 1)) + 1) = plN D.1 st := by
      rw [sx]
      by_cases hq : enN D.1 u ≤ 0
      · rw [if_pos hq, if_pos hq]; rfl
      · rw [if_neg hq, if_neg hq]
        obtain ⟨x1, x2, x3, x4⟩ := enN_ixEnd (R := D.1) e1 (q := enN D.1 u - 1) (by omega) (by have := uf.2.1; unfold parN at this; omega)
        have x5 := ((send_iff x1 x2).mp x3).1
        rw [plOf_N x2, plN_s x1, ind_t (decide_eq_true x5)]
    rw [hstart] at ms
    by_cases hs : p = plN D.1 st
    · have hsg : sgS D.1 D.2.2 u = sgS D.1 D.2.2 st := by
        have z := pl_sg (R := D.1) (Q := D.2.2) (u - st).toNat st sb.1
        rw [show st + (((u - st).toNat : Nat) : Int) = u by omega] at z
        exact z (by omega)
      have ho : ofR D.1 D.2.2 w u = 0 := by unfold ofR; exact if_pos (by rw [hfs, ← sf.1, hsg])
      rw [ho] at ob gl ⊢
      by_cases hun : u = D.1.2.1
      · skip
        refine con_of_go mfX10_lineNow.1 trivial (Nat.le_of_ble_eq_true rfl) rfl (by decide) ?_
        show Go _ _ _ _ 0 [vA _, vI _, vT 9 0, vT 9 0, vT 9 0] [] _ _
        refine go_aload_n (at_of tX10_lineNow 0 0 rfl) rfl ?_
        refine go_iload_n (at_of tX10_lineNow 0 1 rfl) rfl ?_
        refine go_cV (mu) lk_X10_157 rfl G_109 (at_of tX10_lineNow 0 2 rfl) rfl (by decide) rfl (Nat.le_of_ble_eq_true rfl) rfl (by first | decide | exact ⟨Nat.zero_le _, Nat.zero_le _⟩) ?_
        refine go_istore_n (at_of tX10_lineNow 0 3 rfl) rfl rfl ?_
        refine go_aload_n (at_of tX10_lineNow 0 4 rfl) rfl ?_
        refine go_iload_n (at_of tX10_lineNow 0 5 rfl) rfl ?_
        refine go_cV (mp) lk_X10_194 rfl G_109 (at_of tX10_lineNow 0 6 rfl) rfl (by decide) rfl (Nat.le_of_ble_eq_true rfl) rfl (by first | decide | exact ⟨Nat.zero_le _, Nat.zero_le _⟩) ?_
        refine go_istore_n (at_of tX10_lineNow 0 7 rfl) rfl rfl ?_
        refine go_iload_n (at_of tX10_lineNow 0 8 rfl) rfl ?_
        refine go_aload_n (at_of tX10_lineNow 0 9 rfl) rfl ?_
        refine go_cV (m_many hS hN.1) lk_X10_110 rfl G_109 (at_of tX10_lineNow 0 10 rfl) rfl (by decide) rfl (Nat.le_of_ble_eq_true rfl) rfl (by first | decide | exact ⟨Nat.zero_le _, Nat.zero_le _⟩) ?_
        refine go_icmp_ge (tgt := 42) (at_of tX10_lineNow 0 11 rfl) (by decide) (fun h17 => ?_) (fun h17 => ?_)
        rotate_left
        · exfalso; omega
        refine go_iload_n (at_of tX10_lineNow 1 10 rfl) rfl ?_
        refine go_aload_n (at_of tX10_lineNow 1 11 rfl) rfl ?_
        refine go_iload_n (at_of tX10_lineNow 1 12 rfl) rfl ?_
        refine go_cV (ms) lk_X10_216 rfl G_109 (at_of tX10_lineNow 1 13 rfl) rfl (by decide) rfl (Nat.le_of_ble_eq_true rfl) rfl (by first | decide | exact ⟨Nat.zero_le _, Nat.zero_le _⟩) ?_
        refine go_icmp_ne (tgt := 55) (at_of tX10_lineNow 1 14 rfl) (by decide) (fun h48 => ?_) (fun h48 => ?_)
        · exfalso; omega
        refine go_iconst (at_of tX10_lineNow 1 15 rfl) (by unfold in32; omega) ?_
        refine go_goto (tgt := 62) (at_of tX10_lineNow 2 0 rfl) (by decide) ?_
        refine go_istore (at_of tX10_lineNow 2 6 rfl) rfl rfl ?_
        refine go_aload_n (at_of tX10_lineNow 2 7 rfl) rfl ?_
        refine go_getr (q := 130) fl_X10_86 rfl G_109 (by first | exact (hS _ _ rfl).trans rfl | exact (hS1 _ _ rfl).trans rfl | exact (hS2 _ _ rfl).trans rfl | exact (hS3 _ _ rfl).trans rfl | exact (hS4 _ _ rfl).trans rfl) (at_of tX10_lineNow 2 8 rfl) ?_
        refine go_iload_n (at_of tX10_lineNow 2 9 rfl) rfl ?_
        refine go_iald G_130 (by omega) (by omega) (at_of tX10_lineNow 2 10 rfl) ?_
        rw [q1]
        refine go_iload (at_of tX10_lineNow 2 11 rfl) rfl rfl ?_
        refine go_iconst (at_of tX10_lineNow 2 12 rfl) (by unfold in32; omega) ?_
        refine go_icmp_ne (tgt := 80) (at_of tX10_lineNow 2 13 rfl) (by decide) (fun h73 => ?_) (fun h73 => ?_)
        · exfalso; omega
        refine go_iconst (at_of tX10_lineNow 2 14 rfl) (by unfold in32; omega) ?_
        refine go_goto (tgt := 87) (at_of tX10_lineNow 2 15 rfl) (by decide) ?_
        refine go_iadd (at_of tX10_lineNow 3 4 rfl) (by unfold in32; omega) ?_
        first | exact go_reti (at_of tX10_lineNow 3 5 rfl) rfl | exact go_reti (at_of tX10_lineNow 3 5 rfl) (le_i (by omega)) | exact go_reti (at_of tX10_lineNow 3 5 rfl) (le_i (by first | exact bI_t (by omega) | exact bI_f (by omega)))
      · skip
        refine con_of_go mfX10_lineNow.1 trivial (Nat.le_of_ble_eq_true rfl) rfl (by decide) ?_
        show Go _ _ _ _ 0 [vA _, vI _, vT 9 0, vT 9 0, vT 9 0] [] _ _
        refine go_aload_n (at_of tX10_lineNow 0 0 rfl) rfl ?_
        refine go_iload_n (at_of tX10_lineNow 0 1 rfl) rfl ?_
        refine go_cV (mu) lk_X10_157 rfl G_109 (at_of tX10_lineNow 0 2 rfl) rfl (by decide) rfl (Nat.le_of_ble_eq_true rfl) rfl (by first | decide | exact ⟨Nat.zero_le _, Nat.zero_le _⟩) ?_
        refine go_istore_n (at_of tX10_lineNow 0 3 rfl) rfl rfl ?_
        refine go_aload_n (at_of tX10_lineNow 0 4 rfl) rfl ?_
        refine go_iload_n (at_of tX10_lineNow 0 5 rfl) rfl ?_
        refine go_cV (mp) lk_X10_194 rfl G_109 (at_of tX10_lineNow 0 6 rfl) rfl (by decide) rfl (Nat.le_of_ble_eq_true rfl) rfl (by first | decide | exact ⟨Nat.zero_le _, Nat.zero_le _⟩) ?_
        refine go_istore_n (at_of tX10_lineNow 0 7 rfl) rfl rfl ?_
        refine go_iload_n (at_of tX10_lineNow 0 8 rfl) rfl ?_
        refine go_aload_n (at_of tX10_lineNow 0 9 rfl) rfl ?_
        refine go_cV (m_many hS hN.1) lk_X10_110 rfl G_109 (at_of tX10_lineNow 0 10 rfl) rfl (by decide) rfl (Nat.le_of_ble_eq_true rfl) rfl (by first | decide | exact ⟨Nat.zero_le _, Nat.zero_le _⟩) ?_
        refine go_icmp_ge (tgt := 42) (at_of tX10_lineNow 0 11 rfl) (by decide) (fun h17 => ?_) (fun h17 => ?_)
        · exfalso; omega
        refine go_aload_n (at_of tX10_lineNow 0 12 rfl) rfl ?_
        refine go_iload_n (at_of tX10_lineNow 0 13 rfl) rfl ?_
        refine go_cV (m_isEnd hS hN.1 hSg (by omega)) lk_X10_118 rfl G_109 (at_of tX10_lineNow 0 14 rfl) rfl (by decide) rfl (Nat.le_of_ble_eq_true rfl) rfl (by first | decide | exact ⟨Nat.zero_le _, Nat.zero_le _⟩) ?_
        refine go_if_ne (tgt := 42) (at_of tX10_lineNow 0 15 rfl) (by decide) (fun h25 => ?_) (fun h25 => ?_)
        rotate_left
        · exfalso; exact bI_0.mp h25 h47
        refine go_iload_n (at_of tX10_lineNow 1 10 rfl) rfl ?_
        refine go_aload_n (at_of tX10_lineNow 1 11 rfl) rfl ?_
        refine go_iload_n (at_of tX10_lineNow 1 12 rfl) rfl ?_
        refine go_cV (ms) lk_X10_216 rfl G_109 (at_of tX10_lineNow 1 13 rfl) rfl (by decide) rfl (Nat.le_of_ble_eq_true rfl) rfl (by first | decide | exact ⟨Nat.zero_le _, Nat.zero_le _⟩) ?_
        refine go_icmp_ne (tgt := 55) (at_of tX10_lineNow 1 14 rfl) (by decide) (fun h48 => ?_) (fun h48 => ?_)
        · exfalso; omega
        refine go_iconst (at_of tX10_lineNow 1 15 rfl) (by unfold in32; omega) ?_
        refine go_goto (tgt := 62) (at_of tX10_lineNow 2 0 rfl) (by decide) ?_
        refine go_istore (at_of tX10_lineNow 2 6 rfl) rfl rfl ?_
        refine go_aload_n (at_of tX10_lineNow 2 7 rfl) rfl ?_
        refine go_getr (q := 130) fl_X10_86 rfl G_109 (by first | exact (hS _ _ rfl).trans rfl | exact (hS1 _ _ rfl).trans rfl | exact (hS2 _ _ rfl).trans rfl | exact (hS3 _ _ rfl).trans rfl | exact (hS4 _ _ rfl).trans rfl) (at_of tX10_lineNow 2 8 rfl) ?_
        refine go_iload_n (at_of tX10_lineNow 2 9 rfl) rfl ?_
        refine go_iald G_130 (by omega) (by omega) (at_of tX10_lineNow 2 10 rfl) ?_
        rw [q1]
        refine go_iload (at_of tX10_lineNow 2 11 rfl) rfl rfl ?_
        refine go_iconst (at_of tX10_lineNow 2 12 rfl) (by unfold in32; omega) ?_
        refine go_icmp_ne (tgt := 80) (at_of tX10_lineNow 2 13 rfl) (by decide) (fun h73 => ?_) (fun h73 => ?_)
        · exfalso; omega
        refine go_iconst (at_of tX10_lineNow 2 14 rfl) (by unfold in32; omega) ?_
        refine go_goto (tgt := 87) (at_of tX10_lineNow 2 15 rfl) (by decide) ?_
        refine go_iadd (at_of tX10_lineNow 3 4 rfl) (by unfold in32; omega) ?_
        first | exact go_reti (at_of tX10_lineNow 3 5 rfl) rfl | exact go_reti (at_of tX10_lineNow 3 5 rfl) (le_i (by omega)) | exact go_reti (at_of tX10_lineNow 3 5 rfl) (le_i (by first | exact bI_t (by omega) | exact bI_f (by omega)))
    · have hp1 : 1 ≤ p := by have := @plN_nn D.1 st; omega
      obtain ⟨v1, v2, v3, v4⟩ := place_ix hE (p := p - 1) (by omega) (by omega)
      have mv := m_unitOf hS hN.1 hE hSg (p := p - 1) (by omega) (by omega)
      obtain ⟨v, hv⟩ : ∃ v, v = ixOf D.1.1 D.1.2.1 (p - 1) := ⟨_, rfl⟩
      rw [← hv] at mv v1 v2 v3 v4
      have hvu : v < u := by
        by_cases q : v < u
        · exact q
        · have := plN_le (R := D.1) (i := u) (j := v) (by omega); omega
      have hsv : st ≤ v := by
        by_cases q : st ≤ v
        · exact q
        · have := plN_lt (R := D.1) (i := v) (j := st) v1 (by omega) v3; omega
      have w1 := enN_le (R := D.1) hsv
      have w2 := enN_le (R := D.1) (i := v) (j := u) (by omega)
      have w3 := sf.2
      have hv47 : D.1.1 0 v ≠ 47 := fun q => by
        have := enN_lt (R := D.1) v1 hvu ((send_iff v1 v2).mpr ⟨v3, q⟩)
        omega
      have ev : enN D.1 v = enN D.1 u := by omega
      have hsg : sgS D.1 D.2.2 u = sgS D.1 D.2.2 (v + 1) := by
        have z := pl_sg (R := D.1) (Q := D.2.2) (u - (v + 1)).toNat (v + 1) (by omega)
        rw [show v + 1 + (((u - (v + 1)).toNat : Nat) : Int) = u by omega] at z
        refine z ?_
        rw [plN_s v1, ind_t (decide_eq_true v3)]
        omega
      have w4 := sgS_s (R := D.1) (Q := D.2.2) v1
      have w5 := sgn_pos (Q := D.2.2) v3 hv47
      have w6 := sgS_le (R := D.1) (Q := D.2.2) hsv
      have y5 := (y1 v v1 v2 v3 hv47).2
      have ho : ofR D.1 D.2.2 w u = lnS D.1 D.2.2 w (enN D.1 v) (sgS D.1 D.2.2 (v + 1) - 1) := by
        unfold ofR lnS
        rw [if_neg (by rw [hfs, ← sf.1]; omega), if_neg (by rw [hfs]; omega), ev, hfs, hsg]
      rw [← y5] at ho
      rw [ho] at ob gl ⊢
      by_cases hun : u = D.1.2.1
      · skip
        refine con_of_go mfX10_lineNow.1 trivial (Nat.le_of_ble_eq_true rfl) rfl (by decide) ?_
        show Go _ _ _ _ 0 [vA _, vI _, vT 9 0, vT 9 0, vT 9 0] [] _ _
        refine go_aload_n (at_of tX10_lineNow 0 0 rfl) rfl ?_
        refine go_iload_n (at_of tX10_lineNow 0 1 rfl) rfl ?_
        refine go_cV (mu) lk_X10_157 rfl G_109 (at_of tX10_lineNow 0 2 rfl) rfl (by decide) rfl (Nat.le_of_ble_eq_true rfl) rfl (by first | decide | exact ⟨Nat.zero_le _, Nat.zero_le _⟩) ?_
        refine go_istore_n (at_of tX10_lineNow 0 3 rfl) rfl rfl ?_
        refine go_aload_n (at_of tX10_lineNow 0 4 rfl) rfl ?_
        refine go_iload_n (at_of tX10_lineNow 0 5 rfl) rfl ?_
        refine go_cV (mp) lk_X10_194 rfl G_109 (at_of tX10_lineNow 0 6 rfl) rfl (by decide) rfl (Nat.le_of_ble_eq_true rfl) rfl (by first | decide | exact ⟨Nat.zero_le _, Nat.zero_le _⟩) ?_
        refine go_istore_n (at_of tX10_lineNow 0 7 rfl) rfl rfl ?_
        refine go_iload_n (at_of tX10_lineNow 0 8 rfl) rfl ?_
        refine go_aload_n (at_of tX10_lineNow 0 9 rfl) rfl ?_
        refine go_cV (m_many hS hN.1) lk_X10_110 rfl G_109 (at_of tX10_lineNow 0 10 rfl) rfl (by decide) rfl (Nat.le_of_ble_eq_true rfl) rfl (by first | decide | exact ⟨Nat.zero_le _, Nat.zero_le _⟩) ?_
        refine go_icmp_ge (tgt := 42) (at_of tX10_lineNow 0 11 rfl) (by decide) (fun h17 => ?_) (fun h17 => ?_)
        rotate_left
        · exfalso; omega
        refine go_iload_n (at_of tX10_lineNow 1 10 rfl) rfl ?_
        refine go_aload_n (at_of tX10_lineNow 1 11 rfl) rfl ?_
        refine go_iload_n (at_of tX10_lineNow 1 12 rfl) rfl ?_
        refine go_cV (ms) lk_X10_216 rfl G_109 (at_of tX10_lineNow 1 13 rfl) rfl (by decide) rfl (Nat.le_of_ble_eq_true rfl) rfl (by first | decide | exact ⟨Nat.zero_le _, Nat.zero_le _⟩) ?_
        refine go_icmp_ne (tgt := 55) (at_of tX10_lineNow 1 14 rfl) (by decide) (fun h48 => ?_) (fun h48 => ?_)
        rotate_left
        · exfalso; omega
        refine go_aload_n (at_of tX10_lineNow 2 1 rfl) rfl ?_
        refine go_iload_n (at_of tX10_lineNow 2 2 rfl) rfl ?_
        refine go_iconst (at_of tX10_lineNow 2 3 rfl) (by unfold in32; omega) ?_
        refine go_isub (at_of tX10_lineNow 2 4 rfl) (by unfold in32; omega) ?_
        refine go_cV (mv) lk_X10_157 rfl G_109 (at_of tX10_lineNow 2 5 rfl) rfl (by decide) rfl (Nat.le_of_ble_eq_true rfl) rfl (by first | decide | exact ⟨Nat.zero_le _, Nat.zero_le _⟩) ?_
        refine go_istore (at_of tX10_lineNow 2 6 rfl) rfl rfl ?_
        refine go_aload_n (at_of tX10_lineNow 2 7 rfl) rfl ?_
        refine go_getr (q := 130) fl_X10_86 rfl G_109 (by first | exact (hS _ _ rfl).trans rfl | exact (hS1 _ _ rfl).trans rfl | exact (hS2 _ _ rfl).trans rfl | exact (hS3 _ _ rfl).trans rfl | exact (hS4 _ _ rfl).trans rfl) (at_of tX10_lineNow 2 8 rfl) ?_
        refine go_iload_n (at_of tX10_lineNow 2 9 rfl) rfl ?_
        refine go_iald G_130 (by omega) (by omega) (at_of tX10_lineNow 2 10 rfl) ?_
        rw [q1]
        refine go_iload (at_of tX10_lineNow 2 11 rfl) rfl rfl ?_
        refine go_iconst (at_of tX10_lineNow 2 12 rfl) (by unfold in32; omega) ?_
        refine go_icmp_ne (tgt := 80) (at_of tX10_lineNow 2 13 rfl) (by decide) (fun h73 => ?_) (fun h73 => ?_)
        rotate_left
        · exfalso; omega
        refine go_aload_n (at_of tX10_lineNow 3 0 rfl) rfl ?_
        refine go_getr (q := 127) fl_X10_77 rfl G_109 (by first | exact (hS _ _ rfl).trans rfl | exact (hS1 _ _ rfl).trans rfl | exact (hS2 _ _ rfl).trans rfl | exact (hS3 _ _ rfl).trans rfl | exact (hS4 _ _ rfl).trans rfl) (at_of tX10_lineNow 3 1 rfl) ?_
        refine go_iload (at_of tX10_lineNow 3 2 rfl) rfl rfl ?_
        refine go_iald G_127 (by omega) (by omega) (at_of tX10_lineNow 3 3 rfl) ?_
        refine go_iadd (at_of tX10_lineNow 3 4 rfl) (by unfold in32; omega) ?_
        first | exact go_reti (at_of tX10_lineNow 3 5 rfl) rfl | exact go_reti (at_of tX10_lineNow 3 5 rfl) (le_i (by omega)) | exact go_reti (at_of tX10_lineNow 3 5 rfl) (le_i (by first | exact bI_t (by omega) | exact bI_f (by omega)))
      · skip
        refine con_of_go mfX10_lineNow.1 trivial (Nat.le_of_ble_eq_true rfl) rfl (by decide) ?_
        show Go _ _ _ _ 0 [vA _, vI _, vT 9 0, vT 9 0, vT 9 0] [] _ _
        refine go_aload_n (at_of tX10_lineNow 0 0 rfl) rfl ?_
        refine go_iload_n (at_of tX10_lineNow 0 1 rfl) rfl ?_
        refine go_cV (mu) lk_X10_157 rfl G_109 (at_of tX10_lineNow 0 2 rfl) rfl (by decide) rfl (Nat.le_of_ble_eq_true rfl) rfl (by first | decide | exact ⟨Nat.zero_le _, Nat.zero_le _⟩) ?_
        refine go_istore_n (at_of tX10_lineNow 0 3 rfl) rfl rfl ?_
        refine go_aload_n (at_of tX10_lineNow 0 4 rfl) rfl ?_
        refine go_iload_n (at_of tX10_lineNow 0 5 rfl) rfl ?_
        refine go_cV (mp) lk_X10_194 rfl G_109 (at_of tX10_lineNow 0 6 rfl) rfl (by decide) rfl (Nat.le_of_ble_eq_true rfl) rfl (by first | decide | exact ⟨Nat.zero_le _, Nat.zero_le _⟩) ?_
        refine go_istore_n (at_of tX10_lineNow 0 7 rfl) rfl rfl ?_
        refine go_iload_n (at_of tX10_lineNow 0 8 rfl) rfl ?_
        refine go_aload_n (at_of tX10_lineNow 0 9 rfl) rfl ?_
        refine go_cV (m_many hS hN.1) lk_X10_110 rfl G_109 (at_of tX10_lineNow 0 10 rfl) rfl (by decide) rfl (Nat.le_of_ble_eq_true rfl) rfl (by first | decide | exact ⟨Nat.zero_le _, Nat.zero_le _⟩) ?_
        refine go_icmp_ge (tgt := 42) (at_of tX10_lineNow 0 11 rfl) (by decide) (fun h17 => ?_) (fun h17 => ?_)
        · exfalso; omega
        refine go_aload_n (at_of tX10_lineNow 0 12 rfl) rfl ?_
        refine go_iload_n (at_of tX10_lineNow 0 13 rfl) rfl ?_
        refine go_cV (m_isEnd hS hN.1 hSg (by omega)) lk_X10_118 rfl G_109 (at_of tX10_lineNow 0 14 rfl) rfl (by decide) rfl (Nat.le_of_ble_eq_true rfl) rfl (by first | decide | exact ⟨Nat.zero_le _, Nat.zero_le _⟩) ?_
        refine go_if_ne (tgt := 42) (at_of tX10_lineNow 0 15 rfl) (by decide) (fun h25 => ?_) (fun h25 => ?_)
        rotate_left
        · exfalso; exact bI_0.mp h25 h47
        refine go_iload_n (at_of tX10_lineNow 1 10 rfl) rfl ?_
        refine go_aload_n (at_of tX10_lineNow 1 11 rfl) rfl ?_
        refine go_iload_n (at_of tX10_lineNow 1 12 rfl) rfl ?_
        refine go_cV (ms) lk_X10_216 rfl G_109 (at_of tX10_lineNow 1 13 rfl) rfl (by decide) rfl (Nat.le_of_ble_eq_true rfl) rfl (by first | decide | exact ⟨Nat.zero_le _, Nat.zero_le _⟩) ?_
        refine go_icmp_ne (tgt := 55) (at_of tX10_lineNow 1 14 rfl) (by decide) (fun h48 => ?_) (fun h48 => ?_)
        rotate_left
        · exfalso; omega
        refine go_aload_n (at_of tX10_lineNow 2 1 rfl) rfl ?_
        refine go_iload_n (at_of tX10_lineNow 2 2 rfl) rfl ?_
        refine go_iconst (at_of tX10_lineNow 2 3 rfl) (by unfold in32; omega) ?_
        refine go_isub (at_of tX10_lineNow 2 4 rfl) (by unfold in32; omega) ?_
        refine go_cV (mv) lk_X10_157 rfl G_109 (at_of tX10_lineNow 2 5 rfl) rfl (by decide) rfl (Nat.le_of_ble_eq_true rfl) rfl (by first | decide | exact ⟨Nat.zero_le _, Nat.zero_le _⟩) ?_
        refine go_istore (at_of tX10_lineNow 2 6 rfl) rfl rfl ?_
        refine go_aload_n (at_of tX10_lineNow 2 7 rfl) rfl ?_
        refine go_getr (q := 130) fl_X10_86 rfl G_109 (by first | exact (hS _ _ rfl).trans rfl | exact (hS1 _ _ rfl).trans rfl | exact (hS2 _ _ rfl).trans rfl | exact (hS3 _ _ rfl).trans rfl | exact (hS4 _ _ rfl).trans rfl) (at_of tX10_lineNow 2 8 rfl) ?_
        refine go_iload_n (at_of tX10_lineNow 2 9 rfl) rfl ?_
        refine go_iald G_130 (by omega) (by omega) (at_of tX10_lineNow 2 10 rfl) ?_
        rw [q1]
        refine go_iload (at_of tX10_lineNow 2 11 rfl) rfl rfl ?_
        refine go_iconst (at_of tX10_lineNow 2 12 rfl) (by unfold in32; omega) ?_
        refine go_icmp_ne (tgt := 80) (at_of tX10_lineNow 2 13 rfl) (by decide) (fun h73 => ?_) (fun h73 => ?_)
        rotate_left
        · exfalso; omega
        refine go_aload_n (at_of tX10_lineNow 3 0 rfl) rfl ?_
        refine go_getr (q := 127) fl_X10_77 rfl G_109 (by first | exact (hS _ _ rfl).trans rfl | exact (hS1 _ _ rfl).trans rfl | exact (hS2 _ _ rfl).trans rfl | exact (hS3 _ _ rfl).trans rfl | exact (hS4 _ _ rfl).trans rfl) (at_of tX10_lineNow 3 1 rfl) ?_
        refine go_iload (at_of tX10_lineNow 3 2 rfl) rfl rfl ?_
        refine go_iald G_127 (by omega) (by omega) (at_of tX10_lineNow 3 3 rfl) ?_
        refine go_iadd (at_of tX10_lineNow 3 4 rfl) (by unfold in32; omega) ?_
        first | exact go_reti (at_of tX10_lineNow 3 5 rfl) rfl | exact go_reti (at_of tX10_lineNow 3 5 rfl) (le_i (by omega)) | exact go_reti (at_of tX10_lineNow 3 5 rfl) (le_i (by first | exact bI_t (by omega) | exact bI_f (by omega)))
  · have hlt := uf.2.2.2.2 u3 h47
    have y5 := (y1 u u1 u2 u3 h47).1
    have hun : u ≠ D.1.2.1 := fun q => h47 (by rw [q]; exact e4)
    have ho : ofR D.1 D.2.2 w u = lnS D.1 D.2.2 w (enN D.1 u) (sgS D.1 D.2.2 u) := by
      unfold ofR lnS
      rw [if_neg (by omega), if_pos hlt]
    rw [← y5] at ho
    rw [ho] at ob gl ⊢
    refine con_of_go mfX10_lineNow.1 trivial (Nat.le_of_ble_eq_true rfl) rfl (by decide) ?_
    show Go _ _ _ _ 0 [vA _, vI _, vT 9 0, vT 9 0, vT 9 0] [] _ _
    refine go_aload_n (at_of tX10_lineNow 0 0 rfl) rfl ?_
    refine go_iload_n (at_of tX10_lineNow 0 1 rfl) rfl ?_
    refine go_cV (mu) lk_X10_157 rfl G_109 (at_of tX10_lineNow 0 2 rfl) rfl (by decide) rfl (Nat.le_of_ble_eq_true rfl) rfl (by first | decide | exact ⟨Nat.zero_le _, Nat.zero_le _⟩) ?_
    refine go_istore_n (at_of tX10_lineNow 0 3 rfl) rfl rfl ?_
    refine go_aload_n (at_of tX10_lineNow 0 4 rfl) rfl ?_
    refine go_iload_n (at_of tX10_lineNow 0 5 rfl) rfl ?_
    refine go_cV (mp) lk_X10_194 rfl G_109 (at_of tX10_lineNow 0 6 rfl) rfl (by decide) rfl (Nat.le_of_ble_eq_true rfl) rfl (by first | decide | exact ⟨Nat.zero_le _, Nat.zero_le _⟩) ?_
    refine go_istore_n (at_of tX10_lineNow 0 7 rfl) rfl rfl ?_
    refine go_iload_n (at_of tX10_lineNow 0 8 rfl) rfl ?_
    refine go_aload_n (at_of tX10_lineNow 0 9 rfl) rfl ?_
    refine go_cV (m_many hS hN.1) lk_X10_110 rfl G_109 (at_of tX10_lineNow 0 10 rfl) rfl (by decide) rfl (Nat.le_of_ble_eq_true rfl) rfl (by first | decide | exact ⟨Nat.zero_le _, Nat.zero_le _⟩) ?_
    refine go_icmp_ge (tgt := 42) (at_of tX10_lineNow 0 11 rfl) (by decide) (fun h17 => ?_) (fun h17 => ?_)
    · exfalso; omega
    refine go_aload_n (at_of tX10_lineNow 0 12 rfl) rfl ?_
    refine go_iload_n (at_of tX10_lineNow 0 13 rfl) rfl ?_
    refine go_cV (m_isEnd hS hN.1 hSg (by omega)) lk_X10_118 rfl G_109 (at_of tX10_lineNow 0 14 rfl) rfl (by decide) rfl (Nat.le_of_ble_eq_true rfl) rfl (by first | decide | exact ⟨Nat.zero_le _, Nat.zero_le _⟩) ?_
    refine go_if_ne (tgt := 42) (at_of tX10_lineNow 0 15 rfl) (by decide) (fun h25 => ?_) (fun h25 => ?_)
    · exfalso; exact h25 (bI_f h47)
    refine go_aload_n (at_of tX10_lineNow 1 0 rfl) rfl ?_
    refine go_getr (q := 130) fl_X10_86 rfl G_109 (by first | exact (hS _ _ rfl).trans rfl | exact (hS1 _ _ rfl).trans rfl | exact (hS2 _ _ rfl).trans rfl | exact (hS3 _ _ rfl).trans rfl | exact (hS4 _ _ rfl).trans rfl) (at_of tX10_lineNow 1 1 rfl) ?_
    refine go_iload_n (at_of tX10_lineNow 1 2 rfl) rfl ?_
    refine go_iald G_130 (by omega) (by omega) (at_of tX10_lineNow 1 3 rfl) ?_
    rw [q1]
    refine go_aload_n (at_of tX10_lineNow 1 4 rfl) rfl ?_
    refine go_getr (q := 126) fl_X10_74 rfl G_109 (by first | exact (hS _ _ rfl).trans rfl | exact (hS1 _ _ rfl).trans rfl | exact (hS2 _ _ rfl).trans rfl | exact (hS3 _ _ rfl).trans rfl | exact (hS4 _ _ rfl).trans rfl) (at_of tX10_lineNow 1 5 rfl) ?_
    refine go_iload_n (at_of tX10_lineNow 1 6 rfl) rfl ?_
    refine go_iald G_126 (by omega) (by omega) (at_of tX10_lineNow 1 7 rfl) ?_
    refine go_iadd (at_of tX10_lineNow 1 8 rfl) (by unfold in32; omega) ?_
    first | exact go_reti (at_of tX10_lineNow 1 9 rfl) rfl | exact go_reti (at_of tX10_lineNow 1 9 rfl) (le_i (by omega)) | exact go_reti (at_of tX10_lineNow 1 9 rfl) (le_i (by first | exact bI_t (by omega) | exact bI_f (by omega)))
theorem m_pageAt (hS : Str σ.2.1) {D : PapD} (hN : RepN (cN σ) D) (hW : WfM D) (hB : sgS D.1 D.2.2 (D.1.2.1 + 1) ≤ 500) {KV : Int → Int} {w : Int} (hw : 5 ≤ w) (hh : 2 ≤ σ.1 109 20 ∧ σ.1 109 20 ≤ 40) (hLay : LayM σ D.1 D.2.2 KV w (σ.1 109 20)) {p : Int} (hp : 0 ≤ p ∧ p ≤ plOf D.1.1 D.1.2.1 D.1.2.1) : Con 5 mX10_pageAt 0 0 [vA 109, vI p] σ (vI (gpR D.1 D.2.2 KV w (σ.1 109 20) (ixOf D.1.1 D.1.2.1 p) / σ.1 109 20), σ) := by
  obtain ⟨u1, u2, u3, u4⟩ := place_ix hW.1 hp.1 hp.2
  have gl := gpR_le (Q := D.2.2) (KV := KV) hW.1 hB (w := w) (h := σ.1 109 20) (by omega) hh u1 u2
  refine con_of_go mfX10_pageAt.1 trivial (Nat.le_of_ble_eq_true rfl) rfl (by decide) ?_
  show Go _ _ _ _ 0 [vA _, vI _] [] _ _
  refine go_aload_n (at_of tX10_pageAt 0 0 rfl) rfl ?_
  refine go_iload_n (at_of tX10_pageAt 0 1 rfl) rfl ?_
  refine go_cV (m_lineNow hS hN hW hB hw hh hLay hp) lk_X10_316 rfl G_109 (at_of tX10_pageAt 0 2 rfl) rfl (by decide) rfl (Nat.le_of_ble_eq_true rfl) rfl (by first | decide | exact ⟨Nat.zero_le _, Nat.zero_le _⟩) ?_
  refine go_aload_n (at_of tX10_pageAt 0 3 rfl) rfl ?_
  refine go_getf fl_X10_59 rfl G_109 (at_of tX10_pageAt 0 4 rfl) ?_
  refine go_idiv (at_of tX10_pageAt 0 5 rfl) (by omega) (by omega) ?_
  first | exact go_reti (at_of tX10_pageAt 0 6 rfl) rfl | exact go_reti (at_of tX10_pageAt 0 6 rfl) (le_i (by omega)) | exact go_reti (at_of tX10_pageAt 0 6 rfl) (le_i (by first | exact bI_t (by omega) | exact bI_f (by omega)))
theorem m_pages (hS : Str σ.2.1) {D : PapD} (hN : RepN (cN σ) D) (hW : WfM D) (hQW : QW D.2.2) (hLt : LtW D.1) (hB : sgS D.1 D.2.2 (D.1.2.1 + 1) ≤ 500) (hM : StyM σ) (hSt : StyW D.1 (σ.1 109 7)) (hw : 5 ≤ σ.1 109 19 ∧ σ.1 109 19 ≤ 60) (hh : 2 ≤ σ.1 109 20 ∧ σ.1 109 20 ≤ 40) : ∃ σ', Con 4 mX10_pages 0 0 [vA 109] σ (vI (pgsF D.1 D.2.2 (KVm σ) (σ.1 109 19) (σ.1 109 20)), σ') ∧ FrY (P1 σ 109 0 0) σ' := by
  have hS1 : Str (P1 σ 109 0 0).2.1 := hS
  have hN1 : RepN (cN (P1 σ 109 0 0)) D := by rw [cN_P1]; exact hN
  have c7 : (P1 σ 109 0 0).1 109 7 = σ.1 109 7 := P1_nj (by omega)
  have c19 : (P1 σ 109 0 0).1 109 19 = σ.1 109 19 := P1_nj (by omega)
  have c20 : (P1 σ 109 0 0).1 109 20 = σ.1 109 20 := P1_nj (by omega)
  have hM1 : StyM (P1 σ 109 0 0) := by
    refine ⟨by rw [c7]; exact hM.1, fun s a b => ?_⟩
    rw [P1_ne (by omega)]
    exact hM.2 s a (by rw [c7] at b; exact b)
  obtain ⟨σ', y1, y2, y3⟩ := m_lays hS1 hN1 hW hQW hLt hB hM1 (by rw [c7]; exact hSt) (by rw [c19]; exact hw) (by rw [c20]; exact hh)
  have ek : KVm (P1 σ 109 0 0) = KVm σ := by
    unfold KVm
    rw [show clF (P1 σ 109 0 0) 113 8 = clF σ 113 8 by funext x; unfold clF cl; rw [P1_ne (by omega)], show clF (P1 σ 109 0 0) 115 8 = clF σ 115 8 by funext x; unfold clF cl; rw [P1_ne (by omega)]]
  rw [c19, c20, ek] at y3
  have hp := psR_le (Q := D.2.2) (KV := KVm σ) (R := D.1) hW.1.1 (w := σ.1 109 19) (h := σ.1 109 20) (by omega) (by omega)
  have pb := pgsF_le (R := D.1) (Q := D.2.2) (KV := KVm σ) hW.1 hB (w := σ.1 109 19) (h := σ.1 109 20) (by omega) hh
  unfold pgsF at pb ⊢
  have e32 := y3.2.2
  have hS2 : Str σ'.2.1 := y2.str hS1
  refine ⟨σ', ?_, y2⟩
  refine con_of_go mfX10_pages.1 trivial (Nat.le_of_ble_eq_true rfl) rfl (by decide) ?_
  show Go _ _ _ _ 0 [vA _] [] _ _
  refine go_aload_n (at_of tX10_pages 0 0 rfl) rfl ?_
  refine go_iconst (at_of tX10_pages 0 1 rfl) (by unfold in32; omega) ?_
  refine go_put1 fp_X10_103 rfl (Or.inl rfl) G_109 (Or.inl rfl) (at_of tX10_pages 0 2 rfl) ?_
  refine go_aload_n (at_of tX10_pages 0 3 rfl) rfl ?_
  refine go_cV (y1) lk_X10_275 rfl G_109 (at_of tX10_pages 0 4 rfl) rfl (by decide) rfl (Nat.le_of_ble_eq_true rfl) rfl (by first | decide | exact ⟨Nat.zero_le _, Nat.zero_le _⟩) ?_
  refine go_aload_n (at_of tX10_pages 0 5 rfl) rfl ?_
  refine go_getf fl_X10_294 rfl G_109 (at_of tX10_pages 0 6 rfl) ?_
  rw [e32]
  refine go_iconst (at_of tX10_pages 0 7 rfl) (by unfold in32; omega) ?_
  refine go_iadd (at_of tX10_pages 0 8 rfl) (by unfold in32; omega) ?_
  first | exact go_reti (at_of tX10_pages 0 9 rfl) rfl | exact go_reti (at_of tX10_pages 0 9 rfl) (le_i (by omega)) | exact go_reti (at_of tX10_pages 0 9 rfl) (le_i (by first | exact bI_t (by omega) | exact bI_f (by omega)))
theorem m_pageOf_no (hS : Str σ.2.1) {D : PapD} (hN : RepN (cN σ) D) (hW : WfM D) (hQW : QW D.2.2) (hLt : LtW D.1) (hB : sgS D.1 D.2.2 (D.1.2.1 + 1) ≤ 500) (hM : StyM σ) (hSt : StyW D.1 (σ.1 109 7)) (hw : 5 ≤ σ.1 109 19 ∧ σ.1 109 19 ≤ 60) (hh : 2 ≤ σ.1 109 20 ∧ σ.1 109 20 ≤ 40) {p : Int} (hp : ¬ (0 ≤ p ∧ p ≤ plOf D.1.1 D.1.2.1 D.1.2.1)) : ∃ σ', Con 6 mX10_pageOf 0 0 [vA 109, vI p] σ (vI 0, P1 σ' 109 0 1) ∧ FrY σ σ' := by
  obtain ⟨hE, hSg, hMk, hRw⟩ := id hW
  obtain ⟨σ', y1, y2, y3⟩ := m_lays hS hN hW hQW hLt hB hM hSt hw hh
  have hS1 : Str σ'.2.1 := y2.str hS
  have hN1 : RepN (cN σ') D := by rw [y2.cN]; exact hN
  have hS2 : Str (P1 σ' 109 0 0).2.1 := hS1
  have hN2 : RepN (cN (P1 σ' 109 0 0)) D := by rw [cN_P1]; exact hN1
  refine ⟨σ', ?_, y2⟩
  refine con_of_go mfX10_pageOf.1 trivial (Nat.le_of_ble_eq_true rfl) rfl (by decide) ?_
  show Go _ _ _ _ 0 [vA _, vI _] [] _ _
  refine go_aload_n (at_of tX10_pageOf 0 0 rfl) rfl ?_
  refine go_cV (y1) lk_X10_275 rfl G_109 (at_of tX10_pageOf 0 1 rfl) rfl (by decide) rfl (Nat.le_of_ble_eq_true rfl) rfl (by first | decide | exact ⟨Nat.zero_le _, Nat.zero_le _⟩) ?_
  refine go_aload_n (at_of tX10_pageOf 0 2 rfl) rfl ?_
  refine go_aload_n (at_of tX10_pageOf 0 3 rfl) rfl ?_
  refine go_iload_n (at_of tX10_pageOf 0 4 rfl) rfl ?_
  refine go_cV (m_isPlace hS1 hN1.1 hE hSg) lk_X10_154 rfl G_109 (at_of tX10_pageOf 0 5 rfl) rfl (by decide) rfl (Nat.le_of_ble_eq_true rfl) rfl (by first | decide | exact ⟨Nat.zero_le _, Nat.zero_le _⟩) ?_
  refine go_if_eq (tgt := 17) (at_of tX10_pageOf 0 6 rfl) (by decide) (fun h10 => ?_) (fun h10 => ?_)
  rotate_left
  · exfalso; exact hp (bI_1.mp h10)
  refine go_iconst (at_of tX10_pageOf 0 9 rfl) (by unfold in32; omega) ?_
  refine go_cV (m_goesOn) lk_X10_141 rfl G_109 (at_of tX10_pageOf 0 10 rfl) rfl (by decide) rfl (Nat.le_of_ble_eq_true rfl) rfl (by first | decide | exact ⟨Nat.zero_le _, Nat.zero_le _⟩) ?_
  refine go_if_eq (tgt := 32) (at_of tX10_pageOf 0 11 rfl) (by decide) (fun h21 => ?_) (fun h21 => ?_)
  rotate_left
  · exfalso; exact h21 (bI_f (by decide))
  refine go_iconst (at_of tX10_pageOf 1 0 rfl) (by unfold in32; omega) ?_
  first | exact go_reti (at_of tX10_pageOf 1 1 rfl) rfl | exact go_reti (at_of tX10_pageOf 1 1 rfl) (le_i (by omega)) | exact go_reti (at_of tX10_pageOf 1 1 rfl) (le_i (by first | exact bI_t (by omega) | exact bI_f (by omega)))
theorem m_pageOf (hS : Str σ.2.1) {D : PapD} (hN : RepN (cN σ) D) (hW : WfM D) (hQW : QW D.2.2) (hLt : LtW D.1) (hB : sgS D.1 D.2.2 (D.1.2.1 + 1) ≤ 500) (hM : StyM σ) (hSt : StyW D.1 (σ.1 109 7)) (hw : 5 ≤ σ.1 109 19 ∧ σ.1 109 19 ≤ 60) (hh : 2 ≤ σ.1 109 20 ∧ σ.1 109 20 ≤ 40) {p : Int} (hp : 0 ≤ p ∧ p ≤ plOf D.1.1 D.1.2.1 D.1.2.1) : ∃ σ', Con 6 mX10_pageOf 0 0 [vA 109, vI p] σ (vI (gpR D.1 D.2.2 (KVm σ) (σ.1 109 19) (σ.1 109 20) (ixOf D.1.1 D.1.2.1 p) / σ.1 109 20), P1 σ' 109 0 0) ∧ FrY σ σ' := by
  obtain ⟨hE, hSg, hMk, hRw⟩ := id hW
  obtain ⟨σ', y1, y2, y3⟩ := m_lays hS hN hW hQW hLt hB hM hSt hw hh
  have hS1 : Str σ'.2.1 := y2.str hS
  have hN1 : RepN (cN σ') D := by rw [y2.cN]; exact hN
  have hS2 : Str (P1 σ' 109 0 0).2.1 := hS1
  have hN2 : RepN (cN (P1 σ' 109 0 0)) D := by rw [cN_P1]; exact hN1
  have c20 : (P1 σ' 109 0 0).1 109 20 = σ.1 109 20 := (P1_nj (by omega)).trans (y2.2 _ _ (by omega))
  have hL2 : LayM (P1 σ' 109 0 0) D.1 D.2.2 (KVm σ) (σ.1 109 19) (σ.1 109 20) := by
    refine ⟨fun v a b c d => ?_, fun q a b => ?_, ?_⟩
    · rw [P1_ne (by omega), P1_ne (by omega)]; exact y3.1 v a b c d
    · rw [P1_ne (by omega)]; exact y3.2.1 q a b
    · rw [P1_nj (by omega)]; exact y3.2.2
  refine ⟨σ', ?_, y2⟩
  have mpg := m_pageAt (σ := P1 σ' 109 0 0) hS2 hN2 hW hB (KV := KVm σ) (w := σ.1 109 19) (by omega) (by rw [c20]; exact hh) (by rw [c20]; exact hL2) hp
  rw [c20] at mpg
  refine con_of_go mfX10_pageOf.1 trivial (Nat.le_of_ble_eq_true rfl) rfl (by decide) ?_
  show Go _ _ _ _ 0 [vA _, vI _] [] _ _
  refine go_aload_n (at_of tX10_pageOf 0 0 rfl) rfl ?_
  refine go_cV (y1) lk_X10_275 rfl G_109 (at_of tX10_pageOf 0 1 rfl) rfl (by decide) rfl (Nat.le_of_ble_eq_true rfl) rfl (by first | decide | exact ⟨Nat.zero_le _, Nat.zero_le _⟩) ?_
  refine go_aload_n (at_of tX10_pageOf 0 2 rfl) rfl ?_
  refine go_aload_n (at_of tX10_pageOf 0 3 rfl) rfl ?_
  refine go_iload_n (at_of tX10_pageOf 0 4 rfl) rfl ?_
  refine go_cV (m_isPlace hS1 hN1.1 hE hSg) lk_X10_154 rfl G_109 (at_of tX10_pageOf 0 5 rfl) rfl (by decide) rfl (Nat.le_of_ble_eq_true rfl) rfl (by first | decide | exact ⟨Nat.zero_le _, Nat.zero_le _⟩) ?_
  refine go_if_eq (tgt := 17) (at_of tX10_pageOf 0 6 rfl) (by decide) (fun h10 => ?_) (fun h10 => ?_)
  · exfalso; exact bI_0.mp h10 hp
  refine go_iconst (at_of tX10_pageOf 0 7 rfl) (by unfold in32; omega) ?_
  refine go_goto (tgt := 18) (at_of tX10_pageOf 0 8 rfl) (by decide) ?_
  refine go_cV (m_goesOn) lk_X10_141 rfl G_109 (at_of tX10_pageOf 0 10 rfl) rfl (by decide) rfl (Nat.le_of_ble_eq_true rfl) rfl (by first | decide | exact ⟨Nat.zero_le _, Nat.zero_le _⟩) ?_
  refine go_if_eq (tgt := 32) (at_of tX10_pageOf 0 11 rfl) (by decide) (fun h21 => ?_) (fun h21 => ?_)
  · exfalso; exact absurd h21 (by rw [bI_t rfl]; decide)
  refine go_aload_n (at_of tX10_pageOf 0 12 rfl) rfl ?_
  refine go_iload_n (at_of tX10_pageOf 0 13 rfl) rfl ?_
  refine go_cV (mpg) lk_X10_272 rfl G_109 (at_of tX10_pageOf 0 14 rfl) rfl (by decide) rfl (Nat.le_of_ble_eq_true rfl) rfl (by first | decide | exact ⟨Nat.zero_le _, Nat.zero_le _⟩) ?_
  refine go_goto (tgt := 33) (at_of tX10_pageOf 0 15 rfl) (by decide) ?_
  first | exact go_reti (at_of tX10_pageOf 1 1 rfl) rfl | exact go_reti (at_of tX10_pageOf 1 1 rfl) (le_i (by omega)) | exact go_reti (at_of tX10_pageOf 1 1 rfl) (le_i (by first | exact bI_t (by omega) | exact bI_f (by omega)))
theorem m_lineOf_no (hS : Str σ.2.1) {D : PapD} (hN : RepN (cN σ) D) (hW : WfM D) (hQW : QW D.2.2) (hLt : LtW D.1) (hB : sgS D.1 D.2.2 (D.1.2.1 + 1) ≤ 500) (hM : StyM σ) (hSt : StyW D.1 (σ.1 109 7)) (hw : 5 ≤ σ.1 109 19 ∧ σ.1 109 19 ≤ 60) (hh : 2 ≤ σ.1 109 20 ∧ σ.1 109 20 ≤ 40) {p : Int} (hp : ¬ (0 ≤ p ∧ p ≤ plOf D.1.1 D.1.2.1 D.1.2.1)) : ∃ σ', Con 5 mX10_lineOf 0 0 [vA 109, vI p] σ (vI 0, P1 σ' 109 0 1) ∧ FrY σ σ' := by
  obtain ⟨hE, hSg, hMk, hRw⟩ := id hW
  obtain ⟨σ', y1, y2, y3⟩ := m_lays hS hN hW hQW hLt hB hM hSt hw hh
  have hS1 : Str σ'.2.1 := y2.str hS
  have hN1 : RepN (cN σ') D := by rw [y2.cN]; exact hN
  have hS2 : Str (P1 σ' 109 0 0).2.1 := hS1
  have hN2 : RepN (cN (P1 σ' 109 0 0)) D := by rw [cN_P1]; exact hN1
  refine ⟨σ', ?_, y2⟩
  refine con_of_go mfX10_lineOf.1 trivial (Nat.le_of_ble_eq_true rfl) rfl (by decide) ?_
  show Go _ _ _ _ 0 [vA _, vI _] [] _ _
  refine go_aload_n (at_of tX10_lineOf 0 0 rfl) rfl ?_
  refine go_cV (y1) lk_X10_275 rfl G_109 (at_of tX10_lineOf 0 1 rfl) rfl (by decide) rfl (Nat.le_of_ble_eq_true rfl) rfl (by first | decide | exact ⟨Nat.zero_le _, Nat.zero_le _⟩) ?_
  refine go_aload_n (at_of tX10_lineOf 0 2 rfl) rfl ?_
  refine go_aload_n (at_of tX10_lineOf 0 3 rfl) rfl ?_
  refine go_iload_n (at_of tX10_lineOf 0 4 rfl) rfl ?_
  refine go_cV (m_isPlace hS1 hN1.1 hE hSg) lk_X10_154 rfl G_109 (at_of tX10_lineOf 0 5 rfl) rfl (by decide) rfl (Nat.le_of_ble_eq_true rfl) rfl (by first | decide | exact ⟨Nat.zero_le _, Nat.zero_le _⟩) ?_
  refine go_if_eq (tgt := 17) (at_of tX10_lineOf 0 6 rfl) (by decide) (fun h10 => ?_) (fun h10 => ?_)
  rotate_left
  · exfalso; exact hp (bI_1.mp h10)
  refine go_iconst (at_of tX10_lineOf 0 9 rfl) (by unfold in32; omega) ?_
  refine go_cV (m_goesOn) lk_X10_141 rfl G_109 (at_of tX10_lineOf 0 10 rfl) rfl (by decide) rfl (Nat.le_of_ble_eq_true rfl) rfl (by first | decide | exact ⟨Nat.zero_le _, Nat.zero_le _⟩) ?_
  refine go_if_eq (tgt := 37) (at_of tX10_lineOf 0 11 rfl) (by decide) (fun h21 => ?_) (fun h21 => ?_)
  rotate_left
  · exfalso; exact h21 (bI_f (by decide))
  refine go_iconst (at_of tX10_lineOf 1 3 rfl) (by unfold in32; omega) ?_
  first | exact go_reti (at_of tX10_lineOf 1 4 rfl) rfl | exact go_reti (at_of tX10_lineOf 1 4 rfl) (le_i (by omega)) | exact go_reti (at_of tX10_lineOf 1 4 rfl) (le_i (by first | exact bI_t (by omega) | exact bI_f (by omega)))
theorem m_lineOf (hS : Str σ.2.1) {D : PapD} (hN : RepN (cN σ) D) (hW : WfM D) (hQW : QW D.2.2) (hLt : LtW D.1) (hB : sgS D.1 D.2.2 (D.1.2.1 + 1) ≤ 500) (hM : StyM σ) (hSt : StyW D.1 (σ.1 109 7)) (hw : 5 ≤ σ.1 109 19 ∧ σ.1 109 19 ≤ 60) (hh : 2 ≤ σ.1 109 20 ∧ σ.1 109 20 ≤ 40) {p : Int} (hp : 0 ≤ p ∧ p ≤ plOf D.1.1 D.1.2.1 D.1.2.1) : ∃ σ', Con 5 mX10_lineOf 0 0 [vA 109, vI p] σ (vI (gpR D.1 D.2.2 (KVm σ) (σ.1 109 19) (σ.1 109 20) (ixOf D.1.1 D.1.2.1 p) % σ.1 109 20), P1 σ' 109 0 0) ∧ FrY σ σ' := by
  obtain ⟨hE, hSg, hMk, hRw⟩ := id hW
  obtain ⟨σ', y1, y2, y3⟩ := m_lays hS hN hW hQW hLt hB hM hSt hw hh
  have hS1 : Str σ'.2.1 := y2.str hS
  have hN1 : RepN (cN σ') D := by rw [y2.cN]; exact hN
  have hS2 : Str (P1 σ' 109 0 0).2.1 := hS1
  have hN2 : RepN (cN (P1 σ' 109 0 0)) D := by rw [cN_P1]; exact hN1
  have c20 : (P1 σ' 109 0 0).1 109 20 = σ.1 109 20 := (P1_nj (by omega)).trans (y2.2 _ _ (by omega))
  have hL2 : LayM (P1 σ' 109 0 0) D.1 D.2.2 (KVm σ) (σ.1 109 19) (σ.1 109 20) := by
    refine ⟨fun v a b c d => ?_, fun q a b => ?_, ?_⟩
    · rw [P1_ne (by omega), P1_ne (by omega)]; exact y3.1 v a b c d
    · rw [P1_ne (by omega)]; exact y3.2.1 q a b
    · rw [P1_nj (by omega)]; exact y3.2.2
  refine ⟨σ', ?_, y2⟩
  obtain ⟨u1, u2, u3, u4⟩ := place_ix hE hp.1 hp.2
  have gl := gpR_le (Q := D.2.2) (KV := KVm σ) hE hB (w := σ.1 109 19) (h := σ.1 109 20) (by omega) hh u1 u2
  refine con_of_go mfX10_lineOf.1 trivial (Nat.le_of_ble_eq_true rfl) rfl (by decide) ?_
  show Go _ _ _ _ 0 [vA _, vI _] [] _ _
  refine go_aload_n (at_of tX10_lineOf 0 0 rfl) rfl ?_
  refine go_cV (y1) lk_X10_275 rfl G_109 (at_of tX10_lineOf 0 1 rfl) rfl (by decide) rfl (Nat.le_of_ble_eq_true rfl) rfl (by first | decide | exact ⟨Nat.zero_le _, Nat.zero_le _⟩) ?_
  refine go_aload_n (at_of tX10_lineOf 0 2 rfl) rfl ?_
  refine go_aload_n (at_of tX10_lineOf 0 3 rfl) rfl ?_
  refine go_iload_n (at_of tX10_lineOf 0 4 rfl) rfl ?_
  refine go_cV (m_isPlace hS1 hN1.1 hE hSg) lk_X10_154 rfl G_109 (at_of tX10_lineOf 0 5 rfl) rfl (by decide) rfl (Nat.le_of_ble_eq_true rfl) rfl (by first | decide | exact ⟨Nat.zero_le _, Nat.zero_le _⟩) ?_
  refine go_if_eq (tgt := 17) (at_of tX10_lineOf 0 6 rfl) (by decide) (fun h10 => ?_) (fun h10 => ?_)
  · exfalso; exact bI_0.mp h10 hp
  refine go_iconst (at_of tX10_lineOf 0 7 rfl) (by unfold in32; omega) ?_
  refine go_goto (tgt := 18) (at_of tX10_lineOf 0 8 rfl) (by decide) ?_
  refine go_cV (m_goesOn) lk_X10_141 rfl G_109 (at_of tX10_lineOf 0 10 rfl) rfl (by decide) rfl (Nat.le_of_ble_eq_true rfl) rfl (by first | decide | exact ⟨Nat.zero_le _, Nat.zero_le _⟩) ?_
  refine go_if_eq (tgt := 37) (at_of tX10_lineOf 0 11 rfl) (by decide) (fun h21 => ?_) (fun h21 => ?_)
  · exfalso; exact absurd h21 (by rw [bI_t rfl]; decide)
  refine go_aload_n (at_of tX10_lineOf 0 12 rfl) rfl ?_
  refine go_iload_n (at_of tX10_lineOf 0 13 rfl) rfl ?_
  refine go_cV (m_lineNow hS2 hN2 hW hB (w := σ.1 109 19) (by omega) hh hL2 hp) lk_X10_316 rfl G_109 (at_of tX10_lineOf 0 14 rfl) rfl (by decide) rfl (Nat.le_of_ble_eq_true rfl) rfl (by first | decide | exact ⟨Nat.zero_le _, Nat.zero_le _⟩) ?_
  refine go_aload_n (at_of tX10_lineOf 0 15 rfl) rfl ?_
  refine go_getf fl_X10_59 rfl G_109 (at_of tX10_lineOf 1 0 rfl) ?_
  rw [c20]
  refine go_irem (at_of tX10_lineOf 1 1 rfl) (by omega) (by omega) ?_
  refine go_goto (tgt := 38) (at_of tX10_lineOf 1 2 rfl) (by decide) ?_
  first | exact go_reti (at_of tX10_lineOf 1 4 rfl) rfl | exact go_reti (at_of tX10_lineOf 1 4 rfl) (le_i (by omega)) | exact go_reti (at_of tX10_lineOf 1 4 rfl) (le_i (by first | exact bI_t (by omega) | exact bI_f (by omega)))
end Mod19
