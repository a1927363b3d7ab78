/-! The reference's layout: the signs of a paragraph. -/
section Mod15
variable {σ : St} {R : RowD} {Q : Int → Int}
/-- letters are small -/
def LtW (R : RowD) : Prop := ∀ i, 0 ≤ i → i ≤ R.2.1 → 0 ≤ R.1 0 i ∧ R.1 0 i < 1000
def limF : Nat → Int
  | 0 => 0
  | m + 1 => 10 * limF m + 9
/-- a unit put as owner of signs -/
def adM (σ : St) (lo hi v u : Int) : St := P1 (rngS (rngS σ 131 lo hi u) 132 lo hi v) 109 33 hi
theorem adM_0 {lo v u : Int} (h : σ.1 109 33 = lo) : adM σ lo lo v u = σ := by
  unfold adM
  rw [rngS_0, rngS_0, P1_id h]
theorem adM_n {lo hi v u : Int} : (adM σ lo hi v u).1 109 33 = hi := P1_eq
theorem adM_ne {lo hi v u : Int} {a j : Nat} (h : ¬ (a = 131 ∨ a = 132 ∨ (a = 109 ∧ j = 33))) : (adM σ lo hi v u).1 a j = σ.1 a j := by
  unfold adM
  by_cases q : a = 109
  · rw [P1_nj (by omega), rngS_ne (by omega), rngS_ne (by omega)]
  · rw [P1_ne q, rngS_ne (by omega), rngS_ne (by omega)]
theorem adM_o {lo hi v u s : Int} (h0 : 0 ≤ s) (h : lo ≤ s ∧ s < hi) : (adM σ lo hi v u).1 131 s.toNat = u := by
  unfold adM; rw [P1_ne (by omega), rngS_ne (by omega), rngS_in h0 h]
theorem adM_b {lo hi v u s : Int} (h0 : 0 ≤ s) (h : lo ≤ s ∧ s < hi) : (adM σ lo hi v u).1 132 s.toNat = v := by
  unfold adM; rw [P1_ne (by omega), rngS_in h0 h]
theorem adM_oo {lo hi v u s : Int} (h0 : 0 ≤ s) (h : s < lo ∨ hi ≤ s) : (adM σ lo hi v u).1 131 s.toNat = σ.1 131 s.toNat := by
  unfold adM; rw [P1_ne (by omega), rngS_ne (by omega), rngS_out h0 h]
theorem adM_bo {lo hi v u s : Int} (h0 : 0 ≤ s) (h : s < lo ∨ hi ≤ s) : (adM σ lo hi v u).1 132 s.toNat = σ.1 132 s.toNat := by
  unfold adM; rw [P1_ne (by omega), rngS_out h0 h, rngS_ne (by omega)]
theorem adM_s {lo hi v u : Int} (h0 : 0 ≤ lo) (h : lo ≤ hi) : P1 (M1 (M1 (adM σ lo hi v u) 131 hi u) 132 hi v) 109 33 (hi + 1) = adM σ lo (hi + 1) v u := by
  refine Prod.ext (funext fun a => funext fun j => ?_) rfl
  by_cases h1 : a = 109 ∧ j = 33
  · rw [h1.1, h1.2, P1_eq, adM_n]
  · have l1 : (P1 (M1 (M1 (adM σ lo hi v u) 131 hi u) 132 hi v) 109 33 (hi + 1)).1 a j = (M1 (M1 (adM σ lo hi v u) 131 hi u) 132 hi v).1 a j := by
      by_cases q : a = 109
      · exact P1_nj (fun q2 => h1 ⟨q, q2⟩)
      · exact P1_ne q
    rw [l1, show j = ((j : Int)).toNat by omega]
    by_cases h2 : a = 132
    · subst h2
      by_cases h3 : (j : Int) = hi
      · rw [M1_eq (by omega), adM_b (by omega) ⟨by omega, by omega⟩]
      · rw [M1_nj (by omega), M1_ne (by omega)]
        by_cases h4 : lo ≤ (j : Int) ∧ (j : Int) < hi
        · rw [adM_b (by omega) h4, adM_b (by omega) ⟨h4.1, by omega⟩]
        · rw [adM_bo (by omega) (by omega), adM_bo (by omega) (by omega)]
    · rw [M1_ne h2]
      by_cases h5 : a = 131
      · subst h5
        by_cases h3 : (j : Int) = hi
        · rw [M1_eq (by omega), adM_o (by omega) ⟨by omega, by omega⟩]
        · rw [M1_nj (by omega)]
          by_cases h4 : lo ≤ (j : Int) ∧ (j : Int) < hi
          · rw [adM_o (by omega) h4, adM_o (by omega) ⟨h4.1, by omega⟩]
          · rw [adM_oo (by omega) (by omega), adM_oo (by omega) (by omega)]
      · rw [M1_ne h5, adM_ne (by omega), adM_ne (by omega)]
/-- the signs of the units from st to i are found -/
def FnI (R : RowD) (Q : Int → Int) (st : Int) (σ0 σ : St) (i : Int) : Prop :=
  (σ.2 = σ0.2 ∧ ∀ a j : Nat, ¬ (a = 131 ∨ a = 132 ∨ (a = 109 ∧ j = 33)) → σ.1 a j = σ0.1 a j) ∧ σ.1 109 33 = sgS R Q i - sgS R Q st ∧
  ∀ v s : Int, st ≤ v → v < i → sgS R Q v ≤ s → s < sgS R Q (v + 1) → σ.1 131 (s - sgS R Q st).toNat = v ∧ σ.1 132 (s - sgS R Q st).toNat = blU R v
theorem m_digits {z : Int} (hz : 0 ≤ z ∧ z ≤ 9999) : Con 0 mX10_digits 0 0 [vI z] σ (vI (1 + dgF 10 (z / 10)), σ) := by
  have key : ∀ (m : Nat) (b : Nat × Nat) (t r : Int), 0 ≤ r → r ≤ limF m → 0 ≤ t → t + m ≤ 20 → Go (fun _ => 0) 0 mX10_digits b 7 [vI z, vI t, vI r] [] σ (vI (t + dgF m r), σ) := by
    intro m
    induction m with
    | zero =>
      intro b t r h0 h1 h2 h3
      rw [limF] at h1
      refine go_iload_n (at_of tX10_digits 0 6 rfl) rfl ?_
      refine go_if_le (tgt := 22) (at_of tX10_digits 0 7 rfl) (by decide) (fun h8 => ?_) (fun h8 => ?_)
      rotate_left
      · exfalso; omega
      refine go_iload_n (at_of tX10_digits 0 14 rfl) rfl ?_
      exact go_reti (at_of tX10_digits 0 15 rfl) (le_i (by rw [dgF]; omega))
    | succ m ih =>
      intro b t r h0 h1 h2 h3
      rw [limF] at h1
      rw [dgF]
      by_cases hr : r ≤ 0
      · rw [if_pos hr]
        refine go_iload_n (at_of tX10_digits 0 6 rfl) rfl ?_
        refine go_if_le (tgt := 22) (at_of tX10_digits 0 7 rfl) (by decide) (fun h8 => ?_) (fun h8 => ?_)
        rotate_left
        · exfalso; omega
        refine go_iload_n (at_of tX10_digits 0 14 rfl) rfl ?_
        first | exact go_reti (at_of tX10_digits 0 15 rfl) rfl | exact go_reti (at_of tX10_digits 0 15 rfl) (le_i (by omega)) | exact go_reti (at_of tX10_digits 0 15 rfl) (le_i (by first | exact bI_t (by omega) | exact bI_f (by omega)))
      · rw [if_neg hr, show t + (1 + dgF m (r / 10)) = t + 1 + dgF m (r / 10) by omega]
        refine go_iload_n (at_of tX10_digits 0 6 rfl) rfl ?_
        refine go_if_le (tgt := 22) (at_of tX10_digits 0 7 rfl) (by decide) (fun h8 => ?_) (fun h8 => ?_)
        · exfalso; omega
        refine go_iinc (at_of tX10_digits 0 8 rfl) rfl (by unfold in32; omega) rfl rfl ?_
        refine go_iload_n (at_of tX10_digits 0 9 rfl) rfl ?_
        refine go_bipush (at_of tX10_digits 0 10 rfl) (by decide) ?_
        refine go_idiv (at_of tX10_digits 0 11 rfl) (by omega) (by omega) ?_
        refine go_istore_n (at_of tX10_digits 0 12 rfl) rfl rfl ?_
        refine go_goto (tgt := 7) (at_of tX10_digits 0 13 rfl) (by decide) ?_
        exact ih _ _ _ (by omega) (by omega) (by omega) (by omega)
  have hl : (9999 : Int) ≤ limF 10 := by decide
  refine con_of_go mfX10_digits.1 trivial (Nat.le_of_ble_eq_true rfl) rfl (by decide) ?_
  show Go _ _ _ _ 0 [vI _, vT 9 0, vT 9 0] [] _ _
  refine go_iconst (at_of tX10_digits 0 0 rfl) (by unfold in32; omega) ?_
  refine go_istore_n (at_of tX10_digits 0 1 rfl) rfl rfl ?_
  refine go_iload_n (at_of tX10_digits 0 2 rfl) rfl ?_
  refine go_bipush (at_of tX10_digits 0 3 rfl) (by decide) ?_
  refine go_idiv (at_of tX10_digits 0 4 rfl) (by omega) (by omega) ?_
  refine go_istore_n (at_of tX10_digits 0 5 rfl) rfl rfl ?_
  exact key 10 _ 1 (z / 10) (by omega) (by omega) (by omega) (by omega)
theorem m_finds (hS : Str σ.2.1) (hN : RepNr (cN σ) R) (hQ : RepNq (cN σ) Q) (hQW : QW Q) (hL : LastE R) (hSg : SgW R) (hLt : LtW R) {st u : Int} (h : 0 ≤ st ∧ st ≤ u ∧ u ≤ R.2.1) (hB : sgS R Q (R.2.1 + 1) ≤ 500) (hne : ∀ v, st ≤ v → v < u → R.1 3 v = -1 → R.1 0 v ≠ 47) : ∃ σ', Con 2 mX10_finds 0 0 [vA 109, vI st, vI u] σ (vT 8 0, σ') ∧ FnI R Q st σ σ' u := by
  obtain ⟨e1, e2, e3, e4⟩ := id hL
  obtain ⟨σ0, hσ0⟩ : ∃ σ0, σ0 = σ := ⟨σ, rfl⟩
  have key : ∀ (m : Nat) (i : Int) (σ : St), st ≤ i → i + m = u → FnI R Q st σ0 σ i → ∃ σ', FnI R Q st σ0 σ' u ∧ ∀ (b : Nat × Nat) (v4 v5 v6 : MV), Go (fun _ => 0) 2 mX10_finds b 7 [vA 109, vI st, vI u, vI i, v4, v5, v6] [] σ (vT 8 0, σ') := by
    intro m
    induction m with
    | zero =>
      intro i σ h0 h1 hF
      obtain rfl : i = u := by omega
      refine ⟨σ, hF, fun b v4 v5 v6 => ?_⟩
      refine go_iload_n (at_of tX10_finds 0 5 rfl) rfl ?_
      refine go_iload_n (at_of tX10_finds 0 6 rfl) rfl ?_
      refine go_icmp_ge (tgt := 127) (at_of tX10_finds 0 7 rfl) (by decide) (fun h9 => ?_) (fun h9 => ?_)
      rotate_left
      · exfalso; omega
      exact go_retv (at_of tX10_finds 4 2 rfl) rfl
    | succ m ih =>
      intro i σ h0 h1 hF
      obtain ⟨⟨f1, f2⟩, f3, f4⟩ := id hF
      have hS0 := hS
      have hS : Str σ.2.1 := by rw [f1, hσ0]; exact hS
      have hc : cN σ = cN σ0 := funext fun y => f2 110 _ (by omega)
      have hN : RepNr (cN σ) R := by rw [hc, hσ0]; exact hN
      have hQ : RepNq (cN σ) Q := by rw [hc, hσ0]; exact hQ
      have ss := sgS_s (R := R) (Q := Q) (i := i) (by omega)
      have s1 := sgS_le (R := R) (Q := Q) (i := i + 1) (j := R.2.1 + 1) (by omega)
      have s2 := sgS_le (R := R) (Q := Q) (i := st) (j := i) h0
      have s3 := @sgS_nn R Q st
      have s4 := @sgn_nn R Q i
      obtain ⟨x, hx⟩ : ∃ x, x = sgS R Q i - sgS R Q st := ⟨_, rfl⟩
      obtain ⟨t, ht⟩ : ∃ t, t = sgn R Q i := ⟨_, rfl⟩
      obtain ⟨ch, hch⟩ : ∃ ch, ch = mk0 R i := ⟨_, rfl⟩
      have hl := hLt i (by omega) (by omega)
      have hb1 : ch = 32 → blU R i = 1 := fun q => by
        rw [hch] at q
        unfold mk0 at q
        by_cases g : R.1 1 i = -1
        · rw [if_pos g] at q; exact bI_t ⟨q, g⟩
        · rw [if_neg g] at q; have := hSg i (by omega) (by omega); omega
      have hb0 : ch ≠ 32 → blU R i = 0 := fun q => bI_f (fun y => q (by rw [hch]; unfold mk0; rw [if_pos y.2]; exact y.1))
      have m0 := m_at0 hS hN (u := i) (by omega)
      rw [← hch] at m0
      have F2 : FnI R Q st σ0 (adM σ x (x + t) (blU R i) i) (i + 1) := by
        refine ⟨⟨f1, fun a j q => (adM_ne q).trans (f2 a j q)⟩, ?_, fun v s q1 q2 q3 q4 => ?_⟩
        · rw [adM_n]; omega
        · by_cases hv : v = i
          · subst hv
            exact ⟨adM_o (by omega) ⟨by omega, by omega⟩, adM_b (by omega) ⟨by omega, by omega⟩⟩
          · have := sgS_le (R := R) (Q := Q) (i := v + 1) (j := i) (by omega)
            have := sgS_le (R := R) (Q := Q) (i := st) (j := v) (by omega)
            rw [adM_oo (by omega) (Or.inl (by omega)), adM_bo (by omega) (Or.inl (by omega))]
            exact f4 v s q1 (by omega) q3 q4
      obtain ⟨σ', z1, z2⟩ := ih (i + 1) _ (by omega) (by omega) F2
      refine ⟨σ', z1, fun b v4 v5 v6 => ?_⟩
      have c32 : 0 ≤ x := by omega
      have k2 : ∀ (b : Nat × Nat), Go (fun _ => 0) 2 mX10_finds b 67 [vA 109, vI st, vI u, vI i, vI ch, vI t, vI 0] [] σ (vT 8 0, σ') := by
        intro b
        have key2 : ∀ (m : Nat) (b : Nat × Nat) (k : Int) (out : MV × St), 0 ≤ k → k + m = t → (∀ b, Go (fun _ => 0) 2 mX10_finds b 121 [vA 109, vI st, vI u, vI i, vI ch, vI t, vI t] [] (adM σ x (x + t) (blU R i) i) out) → Go (fun _ => 0) 2 mX10_finds b 67 [vA 109, vI st, vI u, vI i, vI ch, vI t, vI k] [] (adM σ x (x + k) (blU R i) i) out := by
          intro m
          induction m with
          | zero =>
            intro b k out k0 k1 K
            obtain rfl : k = t := by omega
            have hS1 : Str (adM σ x (x + k) (blU R i) i).2.1 := hS
            refine go_iload (at_of tX10_finds 2 4 rfl) rfl rfl ?_
            refine go_iload (at_of tX10_finds 2 5 rfl) rfl rfl ?_
            refine go_icmp_ge (tgt := 121) (at_of tX10_finds 2 6 rfl) (by decide) (fun h71 => ?_) (fun h71 => ?_)
            rotate_left
            · exfalso; omega
            exact K _
          | succ m ih =>
            intro b k out k0 k1 K
            have hS1 : Str (adM σ x (x + k) (blU R i) i).2.1 := hS
            have en := @adM_n σ x (x + k) (blU R i) i
            by_cases hb : ch = 32
            · have e1 : blU R i = 1 := (hb1 hb)
              refine go_iload (at_of tX10_finds 2 4 rfl) rfl rfl ?_
              refine go_iload (at_of tX10_finds 2 5 rfl) rfl rfl ?_
              refine go_icmp_ge (tgt := 121) (at_of tX10_finds 2 6 rfl) (by decide) (fun h71 => ?_) (fun h71 => ?_)
              · exfalso; omega
              refine go_aload_n (at_of tX10_finds 2 7 rfl) rfl ?_
              refine go_getr (q := 131) fl_X10_89 rfl G_109 (by first | exact (hS _ _ rfl).trans rfl | exact (hS1 _ _ rfl).trans rfl | exact (hS2 _ _ rfl).trans rfl | exact (hS3 _ _ rfl).trans rfl | exact (hS4 _ _ rfl).trans rfl) (at_of tX10_finds 2 8 rfl) ?_
              refine go_aload_n (at_of tX10_finds 2 9 rfl) rfl ?_
              refine go_getf fl_X10_297 rfl G_109 (at_of tX10_finds 2 10 rfl) ?_
              rw [en]
              refine go_iload_n (at_of tX10_finds 2 11 rfl) rfl ?_
              refine go_iast1 G_131 (by omega) (by omega) (at_of tX10_finds 2 12 rfl) ?_
              refine go_aload_n (at_of tX10_finds 2 13 rfl) rfl ?_
              refine go_getr (q := 132) fl_X10_92 rfl G_109 (by first | exact (hS _ _ rfl).trans rfl | exact (hS1 _ _ rfl).trans rfl | exact (hS2 _ _ rfl).trans rfl | exact (hS3 _ _ rfl).trans rfl | exact (hS4 _ _ rfl).trans rfl) (at_of tX10_finds 2 14 rfl) ?_
              refine go_aload_n (at_of tX10_finds 2 15 rfl) rfl ?_
              refine go_getf fl_X10_297 rfl G_109 (at_of tX10_finds 3 0 rfl) ?_
              rw [M1_ne (by omega), en]
              refine go_iload (at_of tX10_finds 3 1 rfl) rfl rfl ?_
              refine go_bipush (at_of tX10_finds 3 2 rfl) (by decide) ?_
              refine go_icmp_ne (tgt := 103) (at_of tX10_finds 3 3 rfl) (by decide) (fun h96 => ?_) (fun h96 => ?_)
              · exfalso; omega
              refine go_iconst (at_of tX10_finds 3 4 rfl) (by unfold in32; omega) ?_
              refine go_goto (tgt := 104) (at_of tX10_finds 3 5 rfl) (by decide) ?_
              refine go_bast1 G_132 (by omega) (by omega) (Or.inr rfl) (at_of tX10_finds 3 7 rfl) ?_
              refine go_aload_n (at_of tX10_finds 3 8 rfl) rfl ?_
              refine go_dup (at_of tX10_finds 3 9 rfl) rfl ?_
              refine go_getf fl_X10_297 rfl G_109 (at_of tX10_finds 3 10 rfl) ?_
              rw [show (M1 (M1 (adM σ x (x + k) (blU R i) i) 131 (x + k) i) 132 (x + k) 1).1 109 33 = x + k by rw [M1_ne (by omega), M1_ne (by omega)]; exact en]
              refine go_iconst (at_of tX10_finds 3 11 rfl) (by unfold in32; omega) ?_
              refine go_iadd (at_of tX10_finds 3 12 rfl) (by unfold in32; omega) ?_
              refine go_put1 fp_X10_297 rfl (Or.inl rfl) G_109 (Or.inl rfl) (at_of tX10_finds 3 13 rfl) ?_
              rw [show (P1 (M1 (M1 (adM σ x (x + k) (blU R i) i) 131 (x + k) i) 132 (x + k) 1) 109 33 (x + k + 1)) = adM σ x (x + (k + 1)) (blU R i) i by rw [show x + (k + 1) = x + k + 1 by omega, ← adM_s (by omega) (by omega), e1]]
              refine go_iinc (at_of tX10_finds 3 14 rfl) rfl (by unfold in32; omega) rfl rfl ?_
              refine go_goto (tgt := 67) (at_of tX10_finds 3 15 rfl) (by decide) ?_
              exact ih _ _ _ (by omega) (by omega) K
            · have e1 : blU R i = 0 := (hb0 hb)
              refine go_iload (at_of tX10_finds 2 4 rfl) rfl rfl ?_
              refine go_iload (at_of tX10_finds 2 5 rfl) rfl rfl ?_
              refine go_icmp_ge (tgt := 121) (at_of tX10_finds 2 6 rfl) (by decide) (fun h71 => ?_) (fun h71 => ?_)
              · exfalso; omega
              refine go_aload_n (at_of tX10_finds 2 7 rfl) rfl ?_
              refine go_getr (q := 131) fl_X10_89 rfl G_109 (by first | exact (hS _ _ rfl).trans rfl | exact (hS1 _ _ rfl).trans rfl | exact (hS2 _ _ rfl).trans rfl | exact (hS3 _ _ rfl).trans rfl | exact (hS4 _ _ rfl).trans rfl) (at_of tX10_finds 2 8 rfl) ?_
              refine go_aload_n (at_of tX10_finds 2 9 rfl) rfl ?_
              refine go_getf fl_X10_297 rfl G_109 (at_of tX10_finds 2 10 rfl) ?_
              rw [en]
              refine go_iload_n (at_of tX10_finds 2 11 rfl) rfl ?_
              refine go_iast1 G_131 (by omega) (by omega) (at_of tX10_finds 2 12 rfl) ?_
              refine go_aload_n (at_of tX10_finds 2 13 rfl) rfl ?_
              refine go_getr (q := 132) fl_X10_92 rfl G_109 (by first | exact (hS _ _ rfl).trans rfl | exact (hS1 _ _ rfl).trans rfl | exact (hS2 _ _ rfl).trans rfl | exact (hS3 _ _ rfl).trans rfl | exact (hS4 _ _ rfl).trans rfl) (at_of tX10_finds 2 14 rfl) ?_
              refine go_aload_n (at_of tX10_finds 2 15 rfl) rfl ?_
              refine go_getf fl_X10_297 rfl G_109 (at_of tX10_finds 3 0 rfl) ?_
              rw [M1_ne (by omega), en]
              refine go_iload (at_of tX10_finds 3 1 rfl) rfl rfl ?_
              refine go_bipush (at_of tX10_finds 3 2 rfl) (by decide) ?_
              refine go_icmp_ne (tgt := 103) (at_of tX10_finds 3 3 rfl) (by decide) (fun h96 => ?_) (fun h96 => ?_)
              rotate_left
              · exfalso; omega
              refine go_iconst (at_of tX10_finds 3 6 rfl) (by unfold in32; omega) ?_
              refine go_bast1 G_132 (by omega) (by omega) (Or.inl rfl) (at_of tX10_finds 3 7 rfl) ?_
              refine go_aload_n (at_of tX10_finds 3 8 rfl) rfl ?_
              refine go_dup (at_of tX10_finds 3 9 rfl) rfl ?_
              refine go_getf fl_X10_297 rfl G_109 (at_of tX10_finds 3 10 rfl) ?_
              rw [show (M1 (M1 (adM σ x (x + k) (blU R i) i) 131 (x + k) i) 132 (x + k) 0).1 109 33 = x + k by rw [M1_ne (by omega), M1_ne (by omega)]; exact en]
              refine go_iconst (at_of tX10_finds 3 11 rfl) (by unfold in32; omega) ?_
              refine go_iadd (at_of tX10_finds 3 12 rfl) (by unfold in32; omega) ?_
              refine go_put1 fp_X10_297 rfl (Or.inl rfl) G_109 (Or.inl rfl) (at_of tX10_finds 3 13 rfl) ?_
              rw [show (P1 (M1 (M1 (adM σ x (x + k) (blU R i) i) 131 (x + k) i) 132 (x + k) 0) 109 33 (x + k + 1)) = adM σ x (x + (k + 1)) (blU R i) i by rw [show x + (k + 1) = x + k + 1 by omega, ← adM_s (by omega) (by omega), e1]]
              refine go_iinc (at_of tX10_finds 3 14 rfl) rfl (by unfold in32; omega) rfl rfl ?_
              refine go_goto (tgt := 67) (at_of tX10_finds 3 15 rfl) (by decide) ?_
              exact ih _ _ _ (by omega) (by omega) K
        have z := key2 t.toNat b 0 (vT 8 0, σ') (by omega) (by omega) (fun b => ?_)
        · rw [Int.add_zero, adM_0 (by rw [f3]; omega)] at z
          exact z
        · skip
          refine go_iinc (at_of tX10_finds 4 0 rfl) rfl (by unfold in32; omega) rfl rfl ?_
          refine go_goto (tgt := 7) (at_of tX10_finds 4 1 rfl) (by decide) ?_
          exact z2 _ _ _ _
      by_cases hs : R.1 3 i = -1
      · have hn47 := hne i h0 (by omega) hs
        by_cases hf : R.1 1 i = -1
        · have hch2 : ch = R.1 0 i := by rw [hch]; exact if_pos hf
          have ht1 : t = 1 := by rw [ht]; unfold sgn; rw [if_neg (by omega), if_pos hf]
          rw [ht1] at k2
          refine go_iload_n (at_of tX10_finds 0 5 rfl) rfl ?_
          refine go_iload_n (at_of tX10_finds 0 6 rfl) rfl ?_
          refine go_icmp_ge (tgt := 127) (at_of tX10_finds 0 7 rfl) (by decide) (fun h9 => ?_) (fun h9 => ?_)
          · exfalso; omega
          refine go_aload_n (at_of tX10_finds 0 8 rfl) rfl ?_
          refine go_iload_n (at_of tX10_finds 0 9 rfl) rfl ?_
          refine go_iconst (at_of tX10_finds 0 10 rfl) (by unfold in32; omega) ?_
          refine go_cV (m0) lk_X10_106 rfl G_109 (at_of tX10_finds 0 11 rfl) rfl (by decide) rfl (Nat.le_of_ble_eq_true rfl) rfl (by first | decide | exact ⟨Nat.zero_le _, Nat.zero_le _⟩) ?_
          refine go_istore (at_of tX10_finds 0 12 rfl) rfl rfl ?_
          refine go_aload_n (at_of tX10_finds 0 13 rfl) rfl ?_
          refine go_iload_n (at_of tX10_finds 0 14 rfl) rfl ?_
          refine go_cV (m_isSeen hS hN (by omega)) lk_X10_114 rfl G_109 (at_of tX10_finds 0 15 rfl) rfl (by decide) rfl (Nat.le_of_ble_eq_true rfl) rfl (by first | decide | exact ⟨Nat.zero_le _, Nat.zero_le _⟩) ?_
          refine go_if_ne (tgt := 32) (at_of tX10_finds 1 0 rfl) (by decide) (fun h25 => ?_) (fun h25 => ?_)
          rotate_left
          · exfalso; exact bI_0.mp h25 hs
          refine go_iload (at_of tX10_finds 1 3 rfl) rfl rfl ?_
          refine go_sipush (at_of tX10_finds 1 4 rfl) (by decide) ?_
          refine go_icmp_lt (tgt := 61) (at_of tX10_finds 1 5 rfl) (by decide) (fun h37 => ?_) (fun h37 => ?_)
          rotate_left
          · exfalso; omega
          refine go_iconst (at_of tX10_finds 2 0 rfl) (by unfold in32; omega) ?_
          refine go_istore (at_of tX10_finds 2 1 rfl) rfl rfl ?_
          refine go_iconst (at_of tX10_finds 2 2 rfl) (by unfold in32; omega) ?_
          refine go_istore (at_of tX10_finds 2 3 rfl) rfl rfl ?_
          exact k2 _
        · have hch2 : ch = 1000 + R.1 1 i := by rw [hch]; exact if_neg hf
          have hfb := (hSg i (by omega) (by omega)).resolve_left hf
          have ht1 : t = 1 + dgF 10 (Q (R.1 1 i) / 10) := by rw [ht]; unfold sgn; rw [if_neg (by omega), if_neg hf]
          have hq := hQ (R.1 1 i) hfb.1 hfb.2.1
          have hq2 := hQW (R.1 1 i) hfb.1 hfb.2.1
          have hd := m_digits (σ := σ) hq2
          have hcell : σ.1 110 (3205 + ch - 1000).toNat = Q (R.1 1 i) := by rw [show 3205 + ch - 1000 = 3205 + R.1 1 i by omega]; exact hq
          rw [ht1] at k2
          refine go_iload_n (at_of tX10_finds 0 5 rfl) rfl ?_
          refine go_iload_n (at_of tX10_finds 0 6 rfl) rfl ?_
          refine go_icmp_ge (tgt := 127) (at_of tX10_finds 0 7 rfl) (by decide) (fun h9 => ?_) (fun h9 => ?_)
          · exfalso; omega
          refine go_aload_n (at_of tX10_finds 0 8 rfl) rfl ?_
          refine go_iload_n (at_of tX10_finds 0 9 rfl) rfl ?_
          refine go_iconst (at_of tX10_finds 0 10 rfl) (by unfold in32; omega) ?_
          refine go_cV (m0) lk_X10_106 rfl G_109 (at_of tX10_finds 0 11 rfl) rfl (by decide) rfl (Nat.le_of_ble_eq_true rfl) rfl (by first | decide | exact ⟨Nat.zero_le _, Nat.zero_le _⟩) ?_
          refine go_istore (at_of tX10_finds 0 12 rfl) rfl rfl ?_
          refine go_aload_n (at_of tX10_finds 0 13 rfl) rfl ?_
          refine go_iload_n (at_of tX10_finds 0 14 rfl) rfl ?_
          refine go_cV (m_isSeen hS hN (by omega)) lk_X10_114 rfl G_109 (at_of tX10_finds 0 15 rfl) rfl (by decide) rfl (Nat.le_of_ble_eq_true rfl) rfl (by first | decide | exact ⟨Nat.zero_le _, Nat.zero_le _⟩) ?_
          refine go_if_ne (tgt := 32) (at_of tX10_finds 1 0 rfl) (by decide) (fun h25 => ?_) (fun h25 => ?_)
          rotate_left
          · exfalso; exact bI_0.mp h25 hs
          refine go_iload (at_of tX10_finds 1 3 rfl) rfl rfl ?_
          refine go_sipush (at_of tX10_finds 1 4 rfl) (by decide) ?_
          refine go_icmp_lt (tgt := 61) (at_of tX10_finds 1 5 rfl) (by decide) (fun h37 => ?_) (fun h37 => ?_)
          · exfalso; omega
          refine go_aload_n (at_of tX10_finds 1 6 rfl) rfl ?_
          refine go_getr (q := 110) fl_X10_7 rfl G_109 (by first | exact (hS _ _ rfl).trans rfl | exact (hS1 _ _ rfl).trans rfl | exact (hS2 _ _ rfl).trans rfl | exact (hS3 _ _ rfl).trans rfl | exact (hS4 _ _ rfl).trans rfl) (at_of tX10_finds 1 7 rfl) ?_
          refine go_sipush (at_of tX10_finds 1 8 rfl) (by decide) ?_
          refine go_iload (at_of tX10_finds 1 9 rfl) rfl rfl ?_
          refine go_iadd (at_of tX10_finds 1 10 rfl) (by unfold in32; omega) ?_
          refine go_sipush (at_of tX10_finds 1 11 rfl) (by decide) ?_
          refine go_isub (at_of tX10_finds 1 12 rfl) (by unfold in32; omega) ?_
          refine go_iald G_110 (by omega) (by omega) (at_of tX10_finds 1 13 rfl) ?_
          rw [hcell]
          refine go_cS (hd) lk_X10_300 rfl (at_of tX10_finds 1 14 rfl) rfl (by decide) rfl (Nat.le_of_ble_eq_true rfl) rfl (by first | decide | exact ⟨Nat.zero_le _, Nat.zero_le _⟩) ?_
          refine go_goto (tgt := 62) (at_of tX10_finds 1 15 rfl) (by decide) ?_
          refine go_istore (at_of tX10_finds 2 1 rfl) rfl rfl ?_
          refine go_iconst (at_of tX10_finds 2 2 rfl) (by unfold in32; omega) ?_
          refine go_istore (at_of tX10_finds 2 3 rfl) rfl rfl ?_
          exact k2 _
      · have ht1 : t = 0 := by rw [ht]; unfold sgn; exact if_pos (Or.inl hs)
        rw [ht1] at k2
        refine go_iload_n (at_of tX10_finds 0 5 rfl) rfl ?_
        refine go_iload_n (at_of tX10_finds 0 6 rfl) rfl ?_
        refine go_icmp_ge (tgt := 127) (at_of tX10_finds 0 7 rfl) (by decide) (fun h9 => ?_) (fun h9 => ?_)
        · exfalso; omega
        refine go_aload_n (at_of tX10_finds 0 8 rfl) rfl ?_
        refine go_iload_n (at_of tX10_finds 0 9 rfl) rfl ?_
        refine go_iconst (at_of tX10_finds 0 10 rfl) (by unfold in32; omega) ?_
        refine go_cV (m0) lk_X10_106 rfl G_109 (at_of tX10_finds 0 11 rfl) rfl (by decide) rfl (Nat.le_of_ble_eq_true rfl) rfl (by first | decide | exact ⟨Nat.zero_le _, Nat.zero_le _⟩) ?_
        refine go_istore (at_of tX10_finds 0 12 rfl) rfl rfl ?_
        refine go_aload_n (at_of tX10_finds 0 13 rfl) rfl ?_
        refine go_iload_n (at_of tX10_finds 0 14 rfl) rfl ?_
        refine go_cV (m_isSeen hS hN (by omega)) lk_X10_114 rfl G_109 (at_of tX10_finds 0 15 rfl) rfl (by decide) rfl (Nat.le_of_ble_eq_true rfl) rfl (by first | decide | exact ⟨Nat.zero_le _, Nat.zero_le _⟩) ?_
        refine go_if_ne (tgt := 32) (at_of tX10_finds 1 0 rfl) (by decide) (fun h25 => ?_) (fun h25 => ?_)
        · exfalso; exact h25 (bI_f hs)
        refine go_iconst (at_of tX10_finds 1 1 rfl) (by unfold in32; omega) ?_
        refine go_goto (tgt := 62) (at_of tX10_finds 1 2 rfl) (by decide) ?_
        refine go_istore (at_of tX10_finds 2 1 rfl) rfl rfl ?_
        refine go_iconst (at_of tX10_finds 2 2 rfl) (by unfold in32; omega) ?_
        refine go_istore (at_of tX10_finds 2 3 rfl) rfl rfl ?_
        exact k2 _
  have F0 : FnI R Q st σ0 (P1 σ 109 33 0) st := by
    rw [hσ0]
    refine ⟨⟨rfl, fun a j q => ?_⟩, by rw [P1_eq]; omega, fun v s q1 q2 => by omega⟩
    by_cases g : a = 109
    · exact P1_nj (by omega)
    · exact P1_ne g
  obtain ⟨σ', z1, z2⟩ := key (u - st).toNat st _ (Int.le_refl _) (by omega) F0
  refine ⟨σ', ?_, by rw [hσ0] at z1; exact z1⟩
  refine con_of_go mfX10_finds.1 trivial (Nat.le_of_ble_eq_true rfl) rfl (by decide) ?_
  show Go _ _ _ _ 0 [vA _, vI _, vI _, vT 9 0, vT 9 0, vT 9 0, vT 9 0] [] _ _
  refine go_aload_n (at_of tX10_finds 0 0 rfl) rfl ?_
  refine go_iconst (at_of tX10_finds 0 1 rfl) (by unfold in32; omega) ?_
  refine go_put1 fp_X10_297 rfl (Or.inl rfl) G_109 (Or.inl rfl) (at_of tX10_finds 0 2 rfl) ?_
  refine go_iload_n (at_of tX10_finds 0 3 rfl) rfl ?_
  refine go_istore_n (at_of tX10_finds 0 4 rfl) rfl rfl ?_
  exact z2 _ _ _ _
end Mod15
