/-! The reference: a unit let go; a unit written. -/
section Mod5
variable {σ : St}
theorem RepNr.bm {R : RowD} (hN : RepNr (cN σ) R) (hW : RowW R) : ∀ b, 0 ≤ b → b < 12 → -1 ≤ cN σ (3193 + b) ∧ cN σ (3193 + b) ≤ 200 := fun b b0 b1 => by
  obtain ⟨w1, w2, w3⟩ := hW
  by_cases h : b < 6
  · have z := (hN.2.2.2 b b0 h).1
    have y := w3 b b0 h
    rw [z]; omega
  · have z := (hN.2.2.2 (b - 6) (by omega) (by omega)).2
    have y := w3 (b - 6) (by omega) (by omega)
    rw [show 3199 + (b - 6) = 3193 + b by omega] at z
    rw [z]; omega
theorem m_closes (hS : Str σ.2.1) {R : RowD} (hN : RepNr (cN σ) R) (hW : RowW R) {u : Int} (hu : 0 ≤ u ∧ u < R.2.1) : ∃ σ', Con 1 mX10_closes 0 0 [vA 109, vI u] σ (vT 8 0, σ') ∧ FrN σ σ' ∧ (∀ x, (3011 ≤ x ∧ x < 3193) ∨ (3205 ≤ x ∧ x < 3225) → cN σ' x = cN σ x) ∧ RepNr (cN σ') (drpR R u) := by
  have n1 : σ.1 110 (3010 : Int).toNat = R.2.1 := hN.1
  have hbm := hN.bm hW
  have hn := hW.2.1
  obtain ⟨σ1, hσ1⟩ : ∃ σ1, σ1 = clS σ (u * 10) (R.2.1 * 10) := ⟨_, rfl⟩
  have c1 : ∀ x, 0 ≤ x → cN σ1 x = if u * 10 ≤ x ∧ x < R.2.1 * 10 then σ.1 110 (x.toNat + 10) else cN σ x := fun x hx => by rw [hσ1]; exact clS_at hx
  obtain ⟨σ2, hσ2⟩ : ∃ σ2, σ2 = M1 σ1 110 3010 (R.2.1 - 1) := ⟨_, rfl⟩
  have c2 : ∀ x, 0 ≤ x → cN σ2 x = if x = 3010 then R.2.1 - 1 else cN σ1 x := fun x hx => by rw [hσ2]; exact cN_M1 (by omega) hx
  obtain ⟨σ3, hσ3⟩ : ∃ σ3, σ3 = bnD σ2 u 3205 := ⟨_, rfl⟩
  have c3 : ∀ x, 0 ≤ x → cN σ3 x = if 3193 ≤ x ∧ x < 3205 ∧ u < cN σ2 x then cN σ2 x - 1 else cN σ2 x := fun x hx => by rw [hσ3]; exact bnD_at hx
  have F1 : FrN σ σ1 := by rw [hσ1]; exact clS_frn
  have F2 : FrN σ σ2 := by rw [hσ2]; exact F1.trans FrN.m1
  have F3 : FrN σ σ3 := by rw [hσ3]; exact F2.trans bnD_frn
  have hS1 := F1.str hS
  have hS2 := F2.str hS
  have hS3 := F3.str hS
  have m1 : σ1.1 110 (3010 : Int).toNat = R.2.1 := by
    have := c1 3010 (by omega)
    rw [if_neg (by omega)] at this
    exact this.trans n1
  have hb2 : ∀ t : Int, 3193 ≤ t → t < 3205 → -1 ≤ σ2.1 110 t.toNat ∧ σ2.1 110 t.toNat ≤ 200 := fun t t0 t1 => by
    have z := c2 t (by omega)
    rw [if_neg (by omega), c1 _ (by omega), if_neg (by omega)] at z
    have y := hbm (t - 3193) (by omega) (by omega)
    rw [show 3193 + (t - 3193) = t by omega, ← z] at y
    exact y
  have loop1 : ∀ (out : MV × St), (∀ b v2, Go (fun _ => 0) 1 mX10_closes b 37 [vA 109, vI u, v2] [] σ1 out) → ∀ (m : Nat) (b : Nat × Nat) (k : Int) (σx : St), σx = clS σ (u * 10) k → k + m = R.2.1 * 10 → u * 10 ≤ k → Go (fun _ => 0) 1 mX10_closes b 5 [vA 109, vI u, vI k] [] σx out := by
    intro out K m
    induction m with
    | zero =>
      intro b k σx hx h0 h1
      obtain rfl : k = R.2.1 * 10 := by omega
      rw [← hσ1] at hx
      subst hx
      refine go_iload_n (at_of tX10_closes 0 4 rfl) rfl ?_
      refine go_aload_n (at_of tX10_closes 0 5 rfl) rfl ?_
      refine go_cV (m_many0 hS1) lk_X10_110 rfl G_109 (at_of tX10_closes 0 6 rfl) rfl (by decide) rfl (Nat.le_of_ble_eq_true rfl) rfl (by first | decide | exact ⟨Nat.zero_le _, Nat.zero_le _⟩) ?_
      rw [m1]
      refine go_bipush (at_of tX10_closes 0 7 rfl) (by decide) ?_
      refine go_imul (at_of tX10_closes 0 8 rfl) (by unfold in32; omega) ?_
      refine go_icmp_ge (tgt := 37) (at_of tX10_closes 0 9 rfl) (by decide) (fun h13 => ?_) (fun h13 => ?_)
      rotate_left
      · exfalso; omega
      exact K _ _
    | succ m ih =>
      intro b k σx hx h0 h1
      subst hx
      have cx : ∀ x, 0 ≤ x → cN (clS σ (u * 10) k) x = if u * 10 ≤ x ∧ x < k then σ.1 110 (x.toNat + 10) else cN σ x := fun x hx => clS_at hx
      have em : (clS σ (u * 10) k).1 110 (3010 : Int).toNat = R.2.1 := by
        have := cx 3010 (by omega)
        rw [if_neg (by omega)] at this
        exact this.trans n1
      have ev : (clS σ (u * 10) k).1 110 (k + 10).toNat = σ.1 110 (k.toNat + 10) := by
        have := cx (k + 10) (by omega)
        rw [if_neg (by omega)] at this
        rw [show k.toNat + 10 = (k + 10).toNat by omega]
        exact this
      refine go_iload_n (at_of tX10_closes 0 4 rfl) rfl ?_
      refine go_aload_n (at_of tX10_closes 0 5 rfl) rfl ?_
      refine go_cV (m_many0 (by exact hS)) lk_X10_110 rfl G_109 (at_of tX10_closes 0 6 rfl) rfl (by decide) rfl (Nat.le_of_ble_eq_true rfl) rfl (by first | decide | exact ⟨Nat.zero_le _, Nat.zero_le _⟩) ?_
      rw [em]
      refine go_bipush (at_of tX10_closes 0 7 rfl) (by decide) ?_
      refine go_imul (at_of tX10_closes 0 8 rfl) (by unfold in32; omega) ?_
      refine go_icmp_ge (tgt := 37) (at_of tX10_closes 0 9 rfl) (by decide) (fun h13 => ?_) (fun h13 => ?_)
      · exfalso; omega
      refine go_aload_n (at_of tX10_closes 0 10 rfl) rfl ?_
      refine go_getr (q := 110) fl_X10_7 rfl G_109 (by first | exact (hS _ _ rfl).trans rfl | exact (hS1 _ _ rfl).trans rfl | exact (hS2 _ _ rfl).trans rfl | exact (hS3 _ _ rfl).trans rfl | exact (hS4 _ _ rfl).trans rfl) (at_of tX10_closes 0 11 rfl) ?_
      refine go_iload_n (at_of tX10_closes 0 12 rfl) rfl ?_
      refine go_aload_n (at_of tX10_closes 0 13 rfl) rfl ?_
      refine go_getr (q := 110) fl_X10_7 rfl G_109 (by first | exact (hS _ _ rfl).trans rfl | exact (hS1 _ _ rfl).trans rfl | exact (hS2 _ _ rfl).trans rfl | exact (hS3 _ _ rfl).trans rfl | exact (hS4 _ _ rfl).trans rfl) (at_of tX10_closes 0 14 rfl) ?_
      refine go_iload_n (at_of tX10_closes 0 15 rfl) rfl ?_
      refine go_bipush (at_of tX10_closes 1 0 rfl) (by decide) ?_
      refine go_iadd (at_of tX10_closes 1 1 rfl) (by unfold in32; omega) ?_
      refine go_iald G_110 (by omega) (by omega) (at_of tX10_closes 1 2 rfl) ?_
      rw [ev]
      refine go_iast1 G_110 (by omega) (by omega) (at_of tX10_closes 1 3 rfl) ?_
      rw [clS_s (by omega) h1]
      refine go_iinc (at_of tX10_closes 1 4 rfl) rfl (by unfold in32; omega) rfl rfl ?_
      refine go_goto (tgt := 5) (at_of tX10_closes 1 5 rfl) (by decide) ?_
      exact ih _ _ _ rfl (by omega) (by omega)
  have loop2 : ∀ (out : MV × St), (∀ b, Go (fun _ => 0) 1 mX10_closes b 90 [vA 109, vI u, vI 3205] [] σ3 out) → ∀ (m : Nat) (b : Nat × Nat) (t : Int), 3193 ≤ t → t + m = 3205 → Go (fun _ => 0) 1 mX10_closes b 53 [vA 109, vI u, vI t] [] (bnD σ2 u t) out := by
    intro out K m
    induction m with
    | zero =>
      intro b t h0 h1
      obtain rfl : t = 3205 := by omega
      rw [← hσ3]
      refine go_iload_n (at_of tX10_closes 2 0 rfl) rfl ?_
      refine go_sipush (at_of tX10_closes 2 1 rfl) (by decide) ?_
      refine go_icmp_ge (tgt := 90) (at_of tX10_closes 2 2 rfl) (by decide) (fun h57 => ?_) (fun h57 => ?_)
      rotate_left
      · exfalso; omega
      exact K _
    | succ m ih =>
      intro b t h0 h1
      have ev : (bnD σ2 u t).1 110 t.toNat = σ2.1 110 t.toNat := by
        have := bnD_at (σ := σ2) (u := u) (t := t) (x := t) (by omega)
        rw [if_neg (by omega)] at this
        exact this
      have bo := hb2 t h0 (by omega)
      refine go_iload_n (at_of tX10_closes 2 0 rfl) rfl ?_
      refine go_sipush (at_of tX10_closes 2 1 rfl) (by decide) ?_
      refine go_icmp_ge (tgt := 90) (at_of tX10_closes 2 2 rfl) (by decide) (fun h57 => ?_) (fun h57 => ?_)
      · exfalso; omega
      refine go_aload_n (at_of tX10_closes 2 3 rfl) rfl ?_
      refine go_getr (q := 110) fl_X10_7 rfl G_109 (by first | exact (hS _ _ rfl).trans rfl | exact (hS1 _ _ rfl).trans rfl | exact (hS2 _ _ rfl).trans rfl | exact (hS3 _ _ rfl).trans rfl | exact (hS4 _ _ rfl).trans rfl) (at_of tX10_closes 2 4 rfl) ?_
      refine go_iload_n (at_of tX10_closes 2 5 rfl) rfl ?_
      refine go_dup2 (at_of tX10_closes 2 6 rfl) rfl rfl ?_
      refine go_iald G_110 (by omega) (by omega) (at_of tX10_closes 2 7 rfl) ?_
      rw [ev]
      refine go_aload_n (at_of tX10_closes 2 8 rfl) rfl ?_
      refine go_getr (q := 110) fl_X10_7 rfl G_109 (by first | exact (hS _ _ rfl).trans rfl | exact (hS1 _ _ rfl).trans rfl | exact (hS2 _ _ rfl).trans rfl | exact (hS3 _ _ rfl).trans rfl | exact (hS4 _ _ rfl).trans rfl) (at_of tX10_closes 2 9 rfl) ?_
      refine go_iload_n (at_of tX10_closes 2 10 rfl) rfl ?_
      refine go_iald G_110 (by omega) (by omega) (at_of tX10_closes 2 11 rfl) ?_
      rw [ev]
      refine go_iload_n (at_of tX10_closes 2 12 rfl) rfl ?_
      refine go_icmp_le (tgt := 81) (at_of tX10_closes 2 13 rfl) (by decide) (fun h74 => ?_) (fun h74 => ?_)
      · first
        | exfalso; omega
        | refine go_iconst (at_of tX10_closes 3 0 rfl) (by unfold in32; omega) ?_
          refine go_isub (at_of tX10_closes 3 1 rfl) (by unfold in32; omega) ?_
          refine go_iast1 G_110 (by omega) (by omega) (at_of tX10_closes 3 2 rfl) ?_
          rw [bnD_s h0 (by first | (rw [if_pos (by omega)]) | (rw [if_neg (by omega)]; omega))]
          refine go_iinc (at_of tX10_closes 3 3 rfl) rfl (by unfold in32; omega) rfl rfl ?_
          refine go_goto (tgt := 53) (at_of tX10_closes 3 4 rfl) (by decide) ?_
          exact ih _ _ (by omega) (by omega)
      · first
        | exfalso; omega
        | refine go_iconst (at_of tX10_closes 2 14 rfl) (by unfold in32; omega) ?_
          refine go_goto (tgt := 82) (at_of tX10_closes 2 15 rfl) (by decide) ?_
          refine go_isub (at_of tX10_closes 3 1 rfl) (by unfold in32; omega) ?_
          refine go_iast1 G_110 (by omega) (by omega) (at_of tX10_closes 3 2 rfl) ?_
          rw [bnD_s h0 (by first | (rw [if_pos (by omega)]) | (rw [if_neg (by omega)]; omega))]
          refine go_iinc (at_of tX10_closes 3 3 rfl) rfl (by unfold in32; omega) rfl rfl ?_
          refine go_goto (tgt := 53) (at_of tX10_closes 3 4 rfl) (by decide) ?_
          exact ih _ _ (by omega) (by omega)
  have cc : ∀ i p, 0 ≤ i → i ≤ R.2.1 - 1 → 0 ≤ p → p ≤ 9 → cN σ3 (10 * i + p) = if i < u then cN σ (10 * i + p) else cN σ (10 * (i + 1) + p) := fun i p i0 i1 p0 p1 => by
    rw [c3 _ (by omega), if_neg (by omega), c2 _ (by omega), if_neg (by omega), c1 _ (by omega)]
    by_cases hi : i < u
    · rw [if_neg (by omega), if_pos hi]
    · rw [if_pos (by omega), if_neg hi]
      unfold cN
      rw [show (10 * i + p).toNat + 10 = (10 * (i + 1) + p).toNat by omega]
  have cb : ∀ x, 3193 ≤ x → x < 3205 → cN σ3 x = if u < cN σ x then cN σ x - 1 else cN σ x := fun x x0 x1 => by
    have e : cN σ2 x = cN σ x := by rw [c2 _ (by omega), if_neg (by omega), c1 _ (by omega), if_neg (by omega)]
    rw [c3 _ (by omega), e]
    by_cases hb : u < cN σ x
    · rw [if_pos ⟨x0, x1, hb⟩, if_pos hb]
    · rw [if_neg (fun q => hb q.2.2), if_neg hb]
  refine ⟨σ3, ?_, F3, fun x hx => ?_, ?_, fun i i0 i1 => ?_, fun i i0 i1 i2 => ?_, fun x x0 x1 => ?_⟩
  · skip
    refine con_of_go mfX10_closes.1 trivial (Nat.le_of_ble_eq_true rfl) rfl (by decide) ?_
    show Go _ _ _ _ 0 [vA _, vI _, vT 9 0] [] _ _
    refine go_iload_n (at_of tX10_closes 0 0 rfl) rfl ?_
    refine go_bipush (at_of tX10_closes 0 1 rfl) (by decide) ?_
    refine go_imul (at_of tX10_closes 0 2 rfl) (by unfold in32; omega) ?_
    refine go_istore_n (at_of tX10_closes 0 3 rfl) rfl rfl ?_
    refine loop1 _ (fun b v2 => ?_) (R.2.1 * 10 - u * 10).toNat _ _ _ (by rw [clS_0]) (by omega) (by omega)
    refine go_aload_n (at_of tX10_closes 1 6 rfl) rfl ?_
    refine go_getr (q := 110) fl_X10_7 rfl G_109 (by first | exact (hS _ _ rfl).trans rfl | exact (hS1 _ _ rfl).trans rfl | exact (hS2 _ _ rfl).trans rfl | exact (hS3 _ _ rfl).trans rfl | exact (hS4 _ _ rfl).trans rfl) (at_of tX10_closes 1 7 rfl) ?_
    refine go_sipush (at_of tX10_closes 1 8 rfl) (by decide) ?_
    refine go_dup2 (at_of tX10_closes 1 9 rfl) rfl rfl ?_
    refine go_iald G_110 (by omega) (by omega) (at_of tX10_closes 1 10 rfl) ?_
    rw [m1]
    refine go_iconst (at_of tX10_closes 1 11 rfl) (by unfold in32; omega) ?_
    refine go_isub (at_of tX10_closes 1 12 rfl) (by unfold in32; omega) ?_
    refine go_iast1 G_110 (by omega) (by omega) (at_of tX10_closes 1 13 rfl) ?_
    rw [← hσ2]
    refine go_sipush (at_of tX10_closes 1 14 rfl) (by decide) ?_
    refine go_istore_n (at_of tX10_closes 1 15 rfl) rfl rfl ?_
    rw [show σ2 = bnD σ2 u 3193 from bnD_0.symm]
    refine loop2 _ (fun b => ?_) 12 _ 3193 (by omega) (by omega)
    exact go_retv (at_of tX10_closes 3 5 rfl) rfl
  · rw [c3 _ (by omega), if_neg (by omega), c2 _ (by omega), if_neg (by omega), c1 _ (by omega), if_neg (by omega)]
  · rw [c3 _ (by omega), if_neg (by omega), c2 _ (by omega), if_pos rfl]; rfl
  · have i1 : i ≤ R.2.1 - 1 := i1
    rw [cc i 0 i0 i1 (by omega) (by omega), cc i 1 i0 i1 (by omega) (by omega), cc i 2 i0 i1 (by omega) (by omega), cc i 9 i0 i1 (by omega) (by omega)]
    unfold mk0 drpR
    dsimp only
    by_cases hi : i < u
    · simp only [if_pos hi]; exact hN.2.1 i i0 (by omega)
    · simp only [if_neg hi]; exact hN.2.1 (i + 1) (by omega) (by omega)
  · have i1 : i ≤ R.2.1 - 1 := i1
    rw [cc i 3 i0 i1 (by omega) (by omega), cc i 4 i0 i1 (by omega) (by omega), cc i 5 i0 i1 (by omega) (by omega), cc i 6 i0 i1 (by omega) (by omega), cc i 7 i0 i1 (by omega) (by omega), cc i 8 i0 i1 (by omega) (by omega)]
    unfold drpR at i2 ⊢
    dsimp only at i2 ⊢
    by_cases hi : i < u
    · simp only [if_pos hi] at i2 ⊢; exact hN.2.2.1 i i0 (by omega) i2
    · simp only [if_neg hi] at i2 ⊢; exact hN.2.2.1 (i + 1) (by omega) (by omega) i2
  · rw [cb _ (by omega) (by omega), cb _ (by omega) (by omega), (hN.2.2.2 x x0 x1).1, (hN.2.2.2 x x0 x1).2]
    exact ⟨rfl, rfl⟩
theorem rN_put {c c' : Int → Int} {R : RowD} {u l fd ch : Int} (h : RepNr c R) (hu : 0 ≤ u ∧ u ≤ R.2.1) (hl : fd ≠ -1 → l ≠ 47) (P0 : c' 3010 = R.2.1 + 1)
    (P1 : ∀ i p, 0 ≤ i → i < u → 0 ≤ p → p ≤ 9 → c' (10 * i + p) = c (10 * i + p)) (P2 : ∀ i p, u < i → i ≤ R.2.1 + 1 → 0 ≤ p → p ≤ 9 → c' (10 * i + p) = c (10 * (i - 1) + p))
    (P3 : c' (10 * u + 0) = (if fd = -1 then l else 1000 + fd) ∧ c' (10 * u + 1) = ch ∧ c' (10 * u + 2) = -1 ∧ c' (10 * u + 9) = -1)
    (P4 : l = 47 → c' (10 * u + 3) = R.1 5 (endFr R.1 R.2.1 u) ∧ c' (10 * u + 4) = R.1 7 (endFr R.1 R.2.1 u) ∧ c' (10 * u + 5) = R.1 8 (endFr R.1 R.2.1 u) ∧ c' (10 * u + 6) = 0 ∧ c' (10 * u + 7) = R.1 10 (endFr R.1 R.2.1 u) ∧ c' (10 * u + 8) = 0)
    (P5 : ∀ b, 0 ≤ b → b < 12 → c' (3193 + b) = if u ≤ c (3193 + b) then c (3193 + b) + 1 else c (3193 + b)) : RepNr c' (putR R u l fd ch) := by
  refine ⟨P0, fun i i0 i1 => ?_, fun i i0 i1 i2 => ?_, fun x x0 x1 => ?_⟩
  · have i1 : i ≤ R.2.1 + 1 := i1
    by_cases hi : i < u
    · rw [P1 i 0 i0 hi (by omega) (by omega), P1 i 1 i0 hi (by omega) (by omega), P1 i 2 i0 hi (by omega) (by omega), P1 i 9 i0 hi (by omega) (by omega)]
      unfold mk0 putR
      dsimp only
      simp only [if_pos hi]
      exact h.2.1 i i0 (by omega)
    · by_cases he : i = u
      · rw [he]
        unfold mk0 putR
        dsimp only
        simp
        simpa using P3
      · rw [P2 i 0 (by omega) i1 (by omega) (by omega), P2 i 1 (by omega) i1 (by omega) (by omega), P2 i 2 (by omega) i1 (by omega) (by omega), P2 i 9 (by omega) i1 (by omega) (by omega)]
        unfold mk0 putR
        dsimp only
        simp only [if_neg hi, if_neg he]
        exact h.2.1 (i - 1) (by omega) (by omega)
  · have i1 : i ≤ R.2.1 + 1 := i1
    by_cases hi : i < u
    · rw [P1 i 3 i0 hi (by omega) (by omega), P1 i 4 i0 hi (by omega) (by omega), P1 i 5 i0 hi (by omega) (by omega), P1 i 6 i0 hi (by omega) (by omega), P1 i 7 i0 hi (by omega) (by omega), P1 i 8 i0 hi (by omega) (by omega)]
      unfold putR at i2 ⊢
      dsimp only at i2 ⊢
      simp only [if_pos hi] at i2 ⊢
      exact h.2.2.1 i i0 (by omega) i2
    · by_cases he : i = u
      · rw [he] at i2 ⊢
        unfold putR at i2 ⊢
        dsimp only at i2 ⊢
        simp at i2 ⊢
        simpa using P4 i2
      · rw [P2 i 3 (by omega) i1 (by omega) (by omega), P2 i 4 (by omega) i1 (by omega) (by omega), P2 i 5 (by omega) i1 (by omega) (by omega), P2 i 6 (by omega) i1 (by omega) (by omega), P2 i 7 (by omega) i1 (by omega) (by omega), P2 i 8 (by omega) i1 (by omega) (by omega)]
        unfold putR at i2 ⊢
        dsimp only at i2 ⊢
        simp only [if_neg hi, if_neg he] at i2 ⊢
        exact h.2.2.1 (i - 1) (by omega) (by omega) i2
  · have a := P5 x x0 (by omega)
    have b := P5 (x + 6) (by omega) (by omega)
    rw [show 3193 + (x + 6) = 3199 + x by omega] at b
    rw [a, b, (h.2.2.2 x x0 x1).1, (h.2.2.2 x x0 x1).2]
    exact ⟨rfl, rfl⟩
end Mod5
