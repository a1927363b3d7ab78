/-! The reference's layout: all paragraphs' lines. -/
section Mod17
variable {σ : St} {R : RowD} {Q : Int → Int}
theorem lbF_sh {B : Int → Bool} {f d : Int} : ∀ (m : Nat) (s : Int), lbF (fun x => B (x + f)) d m s = lbF B (d + f) m (s + f) - f := by
  intro m
  induction m with
  | zero => intro s; rw [lbF, lbF]; omega
  | succ m ih =>
    intro s
    rw [lbF, lbF, ih (s - 1), show s - 1 + f = s + f - 1 by omega]
    by_cases h : B (s + f) = true
    · rw [if_pos h, if_pos h]; omega
    · rw [if_neg h, if_neg h]
theorem lnE_sh {B : Int → Bool} {f w a t : Int} : lnE (fun x => B (x + f)) w a t = lnE B w (a + f) (t + f) - f := by
  unfold lnE
  by_cases h : t - a ≤ w
  · rw [if_pos h, if_pos (by omega)]; omega
  · rw [if_neg h, if_neg (by omega), lbF_sh, show a + w + f = a + f + w by omega, show a + w - 1 + f = a + f + w - 1 by omega]
theorem lnC_sh {B : Int → Bool} {f w t : Int} : ∀ (m : Nat) (a : Int), lnC (fun x => B (x + f)) w t m a = lnC B w (t + f) m (a + f) := by
  intro m
  induction m with
  | zero => intro a; rfl
  | succ m ih =>
    intro a
    rw [lnC, lnC, ih, lnE_sh]
    rw [show lnE B w (a + f) (t + f) - f + f = lnE B w (a + f) (t + f) by omega]
    by_cases h : t + f ≤ lnE B w (a + f) (t + f)
    · rw [if_pos h, if_pos (by omega)]
    · rw [if_neg h, if_neg (by omega)]
theorem lnO_sh {B : Int → Bool} {f w t s : Int} : ∀ (m : Nat) (a : Int), lnO (fun x => B (x + f)) w t s m a = lnO B w (t + f) (s + f) m (a + f) := by
  intro m
  induction m with
  | zero => intro a; rfl
  | succ m ih =>
    intro a
    rw [lnO, lnO, ih, lnE_sh]
    rw [show lnE B w (a + f) (t + f) - f + f = lnE B w (a + f) (t + f) by omega]
    by_cases h : s + f < lnE B w (a + f) (t + f)
    · rw [if_pos h, if_pos (by omega)]
    · rw [if_neg h, if_neg (by omega)]
/-- the line of a paragraph in which a sign is -/
def lnS (R : RowD) (Q : Int → Int) (w q s : Int) : Int := lnO (blF R Q) w (fsF R Q (q + 1)) s 512 (fsF R Q q)
/-- the lines of the paragraphs that end ahead of u -/
def LyI (R : RowD) (Q : Int → Int) (w : Int) (σ0 σ : St) (u : Int) : Prop :=
  (σ.2 = σ0.2 ∧ ∀ a j : Nat, ¬ ((126 ≤ a ∧ a ≤ 132) ∨ (a = 109 ∧ (j = 28 ∨ j = 32 ∨ j = 33))) → σ.1 a j = σ0.1 a j) ∧ σ.1 109 28 = enN R u ∧
  (∀ q, 0 ≤ q → q < enN R u → σ.1 128 q.toNat = ixEnd R.1 R.2.1 q ∧ σ.1 129 q.toNat = lsR R Q w (q + 1) - lsR R Q w q) ∧
  ∀ v, 0 ≤ v → v < stI R u → R.1 3 v = -1 → R.1 0 v ≠ 47 → σ.1 126 v.toNat = lnS R Q w (enN R v) (sgS R Q v) ∧ σ.1 127 v.toNat = lnS R Q w (enN R v) (sgS R Q (v + 1) - 1)
/-- signs of a unit that is seen and no end -/
theorem sgn_pos {i : Int} (h3 : R.1 3 i = -1) (h0 : R.1 0 i ≠ 47) : 1 ≤ sgn R Q i := by
  unfold sgn
  rw [if_neg (by omega)]
  have := dgF_nn 10 (Q (R.1 1 i) / 10)
  split <;> omega
theorem sgn_47 {i : Int} (h0 : R.1 0 i = 47) : sgn R Q i = 0 := by unfold sgn; exact if_pos (Or.inr h0)
theorem sgn_no {i : Int} (h3 : R.1 3 i ≠ -1) : sgn R Q i = 0 := by unfold sgn; exact if_pos (Or.inl h3)
/-- the paragraph that ends at u: what its lines come to -/
theorem par_end {w u : Int} (hw : 5 ≤ w ∧ w ≤ 60) (hL : LastE R) (hB : sgS R Q (R.2.1 + 1) ≤ 500) (hu : 0 ≤ u ∧ u ≤ R.2.1) (h3 : R.1 3 u = -1) (h0 : R.1 0 u = 47) {σ0 σ1 : St} (hF : FnI R Q (stI R u) σ0 σ1 u) :
    OwW (σ1.1 109 33) (fun s => σ1.1 131 s.toNat) (fun v => sgS R Q v - sgS R Q (stI R u)) (fun v => sgS R Q (v + 1) - sgS R Q (stI R u)) ∧
    (0 ≤ σ1.1 109 33 ∧ σ1.1 109 33 ≤ 500) ∧ (∀ s, 0 ≤ s → s < σ1.1 109 33 → stI R u ≤ σ1.1 131 s.toNat ∧ σ1.1 131 s.toNat < u) ∧
    lnC (fun s => decide (σ1.1 132 s.toNat ≠ 0)) w (σ1.1 109 33) 512 0 = lsR R Q w (enN R u + 1) - lsR R Q w (enN R u) ∧
    (∀ v, stI R u ≤ v → v < u → R.1 3 v = -1 → R.1 0 v ≠ 47 → enN R v = enN R u ∧ (0 ≤ sgS R Q v - sgS R Q (stI R u) ∧ sgS R Q v - sgS R Q (stI R u) < σ1.1 109 33 ∧ σ1.1 131 (sgS R Q v - sgS R Q (stI R u)).toNat = v) ∧
      lnO (fun s => decide (σ1.1 132 s.toNat ≠ 0)) w (σ1.1 109 33) (sgS R Q v - sgS R Q (stI R u)) 512 0 = lnS R Q w (enN R v) (sgS R Q v) ∧
      lnO (fun s => decide (σ1.1 132 s.toNat ≠ 0)) w (σ1.1 109 33) (sgS R Q (v + 1) - sgS R Q (stI R u) - 1) 512 0 = lnS R Q w (enN R v) (sgS R Q (v + 1) - 1)) := by
  obtain ⟨e1, e2, e3, e4⟩ := id hL
  obtain ⟨st, hst⟩ : ∃ st, st = stI R u := ⟨_, rfl⟩
  rw [← hst] at hF ⊢
  obtain ⟨f1, f2, f3⟩ := hF
  have hb := stI_b (R := R) hu.1
  rw [← hst] at hb
  have hs1 := stI_fs (Q := Q) (R := R) e1 hu.1 (by omega)
  rw [← hst] at hs1
  obtain ⟨f, hf⟩ : ∃ f, f = sgS R Q st := ⟨_, rfl⟩
  obtain ⟨T, hT⟩ : ∃ T, T = σ1.1 109 33 := ⟨_, rfl⟩
  rw [← hT] at f2 ⊢
  rw [← hf] at f2 f3 hs1 ⊢
  have g0 := @sgS_nn R Q st
  have g1 := sgS_le (R := R) (Q := Q) (i := st) (j := u) hb.2
  have g2 := sgS_le (R := R) (Q := Q) (i := u) (j := R.2.1 + 1) (by omega)
  have gu := sgS_s (R := R) (Q := Q) hu.1
  rw [sgn_47 h0] at gu
  have hse := (send_iff hu.1 hu.2).mpr ⟨h3, h0⟩
  have hpar := hL.par
  have n0 := @enN_nn R u
  have n1 := enN_le (R := R) hu.2
  have hfs1 : fsF R Q (enN R u + 1) = sgS R Q u := by
    rw [fsF_s e1 n0 (by omega), ixEnd_enN hu.1 hse, gu]; omega
  have hfs0 : fsF R Q (enN R u) = f := hs1.1.symm
  -- the unit of a sign
  have own : ∀ s, 0 ≤ s → s < T → ∃ v, st ≤ v ∧ v < u ∧ sgS R Q v ≤ s + f ∧ s + f < sgS R Q (v + 1) := fun s a0 a1 => by
    obtain ⟨q1, q2, q3, q4⟩ := own_ex (R := R) (Q := Q) u.toNat (s + f) (by omega) (by rw [show ((u.toNat : Nat) : Int) = u by omega]; omega)
    refine ⟨_, ?_, by omega, q3, q4⟩
    by_cases hv : st ≤ ownF R Q u.toNat (s + f)
    · exact hv
    · have := sgS_le (R := R) (Q := Q) (i := ownF R Q u.toNat (s + f) + 1) (j := st) (by omega)
      omega
  have cell : ∀ v s, st ≤ v → v < u → sgS R Q v ≤ s + f → s + f < sgS R Q (v + 1) → σ1.1 131 s.toNat = v ∧ σ1.1 132 s.toNat = blU R v := fun v s a b c d => by
    have z := f3 v (s + f) a b c d
    rw [show s + f - f = s by omega] at z
    exact z
  obtain ⟨Bx, hBx⟩ : ∃ Bx : Int → Bool, Bx = fun x => decide (σ1.1 132 (x - f).toNat ≠ 0) := ⟨_, rfl⟩
  have hbl : ∀ x, f ≤ x → x < sgS R Q u → Bx x = blF R Q x := fun x a b => by
    rw [hBx]
    obtain ⟨v, q1, q2, q3, q4⟩ := own (x - f) (by omega) (by omega)
    rw [show x - f + f = x by omega] at q3 q4
    rw [blF_u (R := R) (Q := Q) (u := v) (s := x) (by omega) (by omega) q3 q4]
    show decide (σ1.1 132 (x - f).toNat ≠ 0) = _
    rw [(cell v (x - f) q1 q2 (by omega) (by omega)).2]
  have hsh : (fun s : Int => decide (σ1.1 132 s.toNat ≠ 0)) = (fun s => Bx (s + f)) := by
    rw [hBx]
    funext s
    show _ = decide (σ1.1 132 (s + f - f).toNat ≠ 0)
    rw [show s + f - f = s by omega]
  have lno : ∀ x, f ≤ x → x < sgS R Q u → lnO (fun s => decide (σ1.1 132 s.toNat ≠ 0)) w T (x - f) 512 0 = lnS R Q w (enN R u) x := fun x a b => by
    rw [hsh, lnO_sh (B := Bx) (f := f), show T + f = sgS R Q u by omega, show x - f + f = x by omega, Int.zero_add]
    unfold lnS
    rw [hfs1, hfs0]
    exact lnO_congr (by omega) _ _ a b hbl
  refine ⟨fun s a0 a1 => ?_, by omega, fun s a0 a1 => ?_, ?_, fun v q1 q2 q3 q4 => ?_⟩
  · obtain ⟨v, q1, q2, q3, q4⟩ := own s a0 a1
    have hv := (cell v s q1 q2 q3 q4).1
    have hle := sgS_le (R := R) (Q := Q) (i := st) (j := v) q1
    have hle2 := sgS_le (R := R) (Q := Q) (i := v + 1) (j := u) (by omega)
    show 0 ≤ σ1.1 131 s.toNat ∧ σ1.1 131 s.toNat < 202 ∧ 0 ≤ sgS R Q (σ1.1 131 s.toNat) - f ∧ sgS R Q (σ1.1 131 s.toNat) - f ≤ s ∧ s < sgS R Q (σ1.1 131 s.toNat + 1) - f ∧ sgS R Q (σ1.1 131 s.toNat + 1) - f ≤ T ∧ ∀ s', sgS R Q (σ1.1 131 s.toNat) - f ≤ s' → s' < sgS R Q (σ1.1 131 s.toNat + 1) - f → σ1.1 131 s'.toNat = σ1.1 131 s.toNat
    rw [hv]
    exact ⟨by omega, by omega, by omega, by omega, by omega, by omega, fun s' b0 b1 => (cell v s' q1 q2 (by omega) (by omega)).1⟩
  · obtain ⟨v, q1, q2, q3, q4⟩ := own s a0 a1
    rw [(cell v s q1 q2 q3 q4).1]
    exact ⟨q1, q2⟩
  · rw [hsh, lnC_sh (B := Bx) (f := f), lsR_s n0, hfs1, hfs0, show T + f = sgS R Q u by omega, Int.zero_add, lnC_congr (by omega) _ _ (by omega) hbl]
    omega
  · have b1 := sgS_s (R := R) (Q := Q) (i := v) (by omega)
    have b2 := sgn_pos (Q := Q) q3 q4
    have b3 := sgS_le (R := R) (Q := Q) (i := st) (j := v) q1
    have b4 := sgS_le (R := R) (Q := Q) (i := v + 1) (j := u) (by omega)
    have b5 := enN_le (R := R) (i := st) (j := v) q1
    have b6 := enN_le (R := R) (i := v) (j := u) (by omega)
    have ev : enN R v = enN R u := by have := hs1.2; omega
    refine ⟨ev, ⟨by omega, by omega, (cell v _ q1 q2 (by omega) (by omega)).1⟩, ?_, ?_⟩
    · rw [ev]; exact lno _ (by omega) (by omega)
    · rw [ev, show sgS R Q (v + 1) - f - 1 = sgS R Q (v + 1) - 1 - f by omega]; exact lno _ (by omega) (by omega)
theorem LyI.fin {w u : Int} (hw : 5 ≤ w ∧ w ≤ 60) (hL : LastE R) (hB : sgS R Q (R.2.1 + 1) ≤ 500) (hu : 0 ≤ u ∧ u ≤ R.2.1) (h3 : R.1 3 u = -1) (h0 : R.1 0 u = 47) {σ0 σ σ1 σ2 : St} {B : Int → Bool} (hI : LyI R Q w σ0 σ u) (hF : FnI R Q (stI R u) σ σ1 u)
    (hBd : B = fun s => decide (σ1.1 132 s.toNat ≠ 0)) (hC : CtI (σ1.1 109 33) w B (fun s => σ1.1 131 s.toNat) (fun v => sgS R Q v - sgS R Q (stI R u)) (fun v => sgS R Q (v + 1) - sgS R Q (stI R u)) (M1 σ1 128 (enN R u) u) σ2 (σ1.1 109 33)) :
    LyI R Q w σ0 (P1 (M1 σ2 129 (enN R u) (lsR R Q w (enN R u + 1) - lsR R Q w (enN R u))) 109 28 (enN R u + 1)) (u + 1) := by
  obtain ⟨⟨i1, i2⟩, i3, i4, i5⟩ := hI
  obtain ⟨p1, p2, p3, p4, p5⟩ := par_end hw hL hB hu h3 h0 hF
  obtain ⟨⟨f1, f2⟩, f3, f4⟩ := hF
  obtain ⟨⟨c1, c2⟩, c3⟩ := hC
  have hse := (send_iff hu.1 hu.2).mpr ⟨h3, h0⟩
  have n0 := @enN_nn R u
  have n1 := enN_s (R := R) hu.1
  rw [ind_t hse] at n1
  have n2 := stI_s (R := R) hu.1
  rw [if_pos hse] at n2
  rw [← hBd] at p4 p5
  obtain ⟨σ3, hσ3⟩ : ∃ σ3, σ3 = P1 (M1 σ2 129 (enN R u) (lsR R Q w (enN R u + 1) - lsR R Q w (enN R u))) 109 28 (enN R u + 1) := ⟨_, rfl⟩
  rw [← hσ3]
  have r1 : ∀ a j : Nat, a ≠ 129 → ¬ (a = 109 ∧ j = 28) → σ3.1 a j = σ2.1 a j := fun a j q q' => by
    rw [hσ3]
    by_cases ha : a = 109
    · rw [P1_nj (fun e => q' ⟨ha, e⟩), M1_ne q]
    · rw [P1_ne ha, M1_ne q]
  have r2 : ∀ a j : Nat, a ≠ 126 → a ≠ 127 → a ≠ 128 → σ2.1 a j = σ1.1 a j := fun a j q q' q2 => by
    rw [c2 a j (fun y => by omega), M1_ne q2]
  refine ⟨⟨?_, fun a j q => ?_⟩, ?_, fun q a b => ?_, fun v a b c d => ?_⟩
  · rw [hσ3]; exact c1.trans (f1.trans i1)
  · rw [r1 a j (by omega) (by omega), r2 a j (by omega) (by omega) (by omega), f2 a j (by omega), i2 a j q]
  · rw [hσ3, P1_eq, n1]
  · by_cases hq : q = enN R u
    · refine ⟨?_, ?_⟩
      · rw [r1 _ _ (by omega) (by omega), c2 _ _ (fun y => by omega), hq, M1_eq rfl, ixEnd_enN hu.1 hse]
      · rw [hσ3, P1_ne (by omega), hq, M1_eq rfl]
    · have z := i4 q a (by omega)
      refine ⟨?_, ?_⟩
      · rw [r1 _ _ (by omega) (by omega), c2 _ _ (fun y => by omega), M1_nj (by omega), f2 _ _ (by omega)]; exact z.1
      · rw [hσ3, P1_ne (by omega), M1_nj (by omega), r2 _ _ (by omega) (by omega) (by omega), f2 _ _ (by omega)]; exact z.2
  · rw [n2] at b
    rw [r1 _ _ (by omega) (by omega), r1 _ _ (by omega) (by omega)]
    by_cases hv : stI R u ≤ v
    · have hvu : v < u := by
        rcases Int.lt_or_eq_of_le (show v ≤ u by omega) with y | y
        · exact y
        · exact absurd (by rw [y]; exact h0) d
      obtain ⟨q1, ⟨q2, q3, q4⟩, q5, q6⟩ := p5 v hv hvu c d
      have z := c3 _ q2 q3
      dsimp only at z
      rw [q4] at z
      have o := p1 _ q2 q3
      dsimp only at o
      rw [q4] at o
      refine ⟨?_, ?_⟩
      · rw [z.1 (by omega)]; exact q5
      · rw [z.2 (by omega)]; exact q6
    · have z := i5 v a (by omega) c d
      have far : ∀ x, (x = 126 ∨ x = 127) → ¬ ((x = 126 ∨ x = 127) ∧ ∃ s', 0 ≤ s' ∧ s' < σ1.1 109 33 ∧ ((v.toNat : Nat) : Int) = (fun s : Int => σ1.1 131 s.toNat) s') := fun x _ y => by
        obtain ⟨_, s', y1, y2, y3⟩ := y
        dsimp only at y3
        have := p3 s' y1 y2
        omega
      rw [c2 126 _ (far 126 (Or.inl rfl)), c2 127 _ (far 127 (Or.inr rfl)), M1_ne (by omega), M1_ne (by omega), f2 _ _ (by omega), f2 _ _ (by omega)]
      exact z
theorem m_lays_1 (hS : Str σ.2.1) (hN : RepNr (cN σ) R) (hQ : RepNq (cN σ) Q) (hQW : QW Q) (hL : LastE R) (hSg : SgW R) (hLt : LtW R) (hB : sgS R Q (R.2.1 + 1) ≤ 500) {w : Int} (hw : 5 ≤ w ∧ w ≤ 60) (hwd : σ.1 109 19 = w) : ∃ σ', LyI R Q w σ σ' (R.2.1 + 1) ∧ ∀ (b : Nat × Nat) (v3 v4 v5 v6 v7 : MV) (out : MV × St), (∀ (b : Nat × Nat) (v1 : Int) (v2 v3 v4 v5 v6 v7 : MV), Go (fun _ => 0) 3 mX10_lays b 93 [vA 109, vI v1, v2, v3, v4, v5, v6, v7] [] σ' out) → Go (fun _ => 0) 3 mX10_lays b 9 [vA 109, vI 0, vI 0, v3, v4, v5, v6, v7] [] (P1 σ 109 28 0) out := by
  obtain ⟨e1, e2, e3, e4⟩ := id hL
  obtain ⟨σ0, hσ0⟩ : ∃ σ0, σ0 = σ := ⟨σ, rfl⟩
  rw [← hσ0] at hS hN hQ hwd ⊢
  have key : ∀ (m : Nat) (u : Int) (σ : St), 0 ≤ u → u + m = R.2.1 + 1 → LyI R Q w σ0 σ u → ∃ σ', LyI R Q w σ0 σ' (R.2.1 + 1) ∧ ∀ (b : Nat × Nat) (v3 v4 v5 v6 v7 : MV) (out : MV × St), (∀ (b : Nat × Nat) (v1 : Int) (v2 v3 v4 v5 v6 v7 : MV), Go (fun _ => 0) 3 mX10_lays b 93 [vA 109, vI v1, v2, v3, v4, v5, v6, v7] [] σ' out) → Go (fun _ => 0) 3 mX10_lays b 9 [vA 109, vI (stI R u), vI u, v3, v4, v5, v6, v7] [] σ out := by
    intro m
    induction m with
    | zero =>
      intro u σ h0 h1 hI
      have hS : Str σ.2.1 := by rw [hI.1.1]; exact hS
      have hN : RepNr (cN σ) R := by rw [show cN σ = cN σ0 from funext fun x => hI.1.2 110 _ (by omega)]; exact hN
      obtain rfl : u = R.2.1 + 1 := by omega
      refine ⟨σ, hI, fun b v3 v4 v5 v6 v7 out K => ?_⟩
      refine go_iload_n (at_of tX10_lays 0 7 rfl) rfl ?_
      refine go_aload_n (at_of tX10_lays 0 8 rfl) rfl ?_
      refine go_cV (m_many hS hN) lk_X10_110 rfl G_109 (at_of tX10_lays 0 9 rfl) rfl (by decide) rfl (Nat.le_of_ble_eq_true rfl) rfl (by first | decide | exact ⟨Nat.zero_le _, Nat.zero_le _⟩) ?_
      refine go_icmp_gt (tgt := 93) (at_of tX10_lays 0 10 rfl) (by decide) (fun h14 => ?_) (fun h14 => ?_)
      rotate_left
      · exfalso; omega
      exact K _ _ _ _ _ _ _ _
    | succ m ih =>
      intro u σ h0 h1 hI
      have hS0 := hS
      have hS : Str σ.2.1 := by rw [hI.1.1]; exact hS
      have hc : cN σ = cN σ0 := funext fun x => hI.1.2 110 _ (by omega)
      have hN : RepNr (cN σ) R := by rw [hc]; exact hN
      have hQ : RepNq (cN σ) Q := by rw [hc]; exact hQ
      have n1 := enN_s (R := R) h0
      have n2 := stI_s (R := R) h0
      have hm := m_many hS hN
      have hsn := m_isSeen hS hN (u := u) (by omega)
      have hen := m_isEnd hS hN hSg (u := u) (by omega)
      by_cases hse : sendB R.1 R.2.1 u = true
      · have h30 : 0 ≤ u ∧ u ≤ R.2.1 ∧ R.1 3 u = -1 ∧ R.1 0 u = 47 := of_decide_eq_true hse
        have h3 := h30.2.2.1
        have h47 := h30.2.2.2
        have hb := stI_b (R := R) h0
        have hne : ∀ v, stI R u ≤ v → v < u → R.1 3 v = -1 → R.1 0 v ≠ 47 := fun v a b c d => by
          have y1 := enN_lt (R := R) (i := v) (j := u) (by omega) b ((send_iff (by omega) (by omega)).mpr ⟨c, d⟩)
          have y2 := enN_le (R := R) (i := stI R u) (j := v) a
          have y3 := (stI_fs (Q := Q) (R := R) e1 h0 (by omega)).2
          omega
        obtain ⟨σ1, y1, y2⟩ := m_finds hS hN hQ hQW hL hSg hLt (st := stI R u) (u := u) ⟨hb.1, hb.2, by omega⟩ hB hne
        have hS1 : Str σ1.2.1 := by rw [y2.1.1]; exact hS
        obtain ⟨p1, p2, p3, p4, p5⟩ := par_end hw hL hB ⟨h0, by omega⟩ h3 h47 y2
        have hS2 : Str (M1 σ1 128 (enN R u) u).2.1 := hS1
        have k28 : σ1.1 109 28 = enN R u := by rw [y2.1.2 _ _ (by omega)]; exact hI.2.1
        have k28b : (M1 σ1 128 (enN R u) u).1 109 28 = enN R u := (M1_ne (by omega)).trans k28
        obtain ⟨σ2, x1, x2⟩ := m_cutsLines hS2 (T := σ1.1 109 33) (W := w) (B := fun s => decide ((M1 σ1 128 (enN R u) u).1 132 s.toNat ≠ 0)) (ow := fun s => σ1.1 131 s.toNat) (X := fun v => sgS R Q v - sgS R Q (stI R u)) (Y := fun v => sgS R Q (v + 1) - sgS R Q (stI R u)) hw p2 (by rw [M1_ne (by omega), y2.1.2 _ _ (by omega), hI.1.2 _ _ (by omega)]; exact hwd) (M1_ne (by omega)) rfl (fun s _ _ => M1_ne (by omega)) p1
        have hBe : (fun s : Int => decide ((M1 σ1 128 (enN R u) u).1 132 s.toNat ≠ 0)) = fun s => decide (σ1.1 132 s.toNat ≠ 0) := by
          funext s
          rw [M1_ne (by omega)]
        rw [hBe] at x1 x2
        rw [p4] at x1
        have hI2 := hI.fin hw hL hB ⟨h0, by omega⟩ h3 h47 y2 rfl x2
        have k28c : σ2.1 109 28 = enN R u := by rw [x2.1.2 _ _ (fun q => by omega)]; exact k28b
        have hS3 : Str σ2.2.1 := by rw [x2.1.1]; exact hS1
        obtain ⟨σ', z1, z2⟩ := ih (u + 1) _ (by omega) (by omega) hI2
        rw [if_pos hse] at n2
        have nb := enN_ub (R := R) h0
        have nn := @enN_nn R u
        refine ⟨σ', z1, fun b v3 v4 v5 v6 v7 out K => ?_⟩
        have z2 := fun b v3 v4 v5 v6 v7 => z2 b v3 v4 v5 v6 v7 out K
        rw [n2] at z2
        by_cases hn : u = R.2.1
        · skip
          refine go_iload_n (at_of tX10_lays 0 7 rfl) rfl ?_
          refine go_aload_n (at_of tX10_lays 0 8 rfl) rfl ?_
          refine go_cV (hm) lk_X10_110 rfl G_109 (at_of tX10_lays 0 9 rfl) rfl (by decide) rfl (Nat.le_of_ble_eq_true rfl) rfl (by first | decide | exact ⟨Nat.zero_le _, Nat.zero_le _⟩) ?_
          refine go_icmp_gt (tgt := 93) (at_of tX10_lays 0 10 rfl) (by decide) (fun h14 => ?_) (fun h14 => ?_)
          · exfalso; omega
          refine go_iload_n (at_of tX10_lays 0 11 rfl) rfl ?_
          refine go_aload_n (at_of tX10_lays 0 12 rfl) rfl ?_
          refine go_cV (hm) lk_X10_110 rfl G_109 (at_of tX10_lays 0 13 rfl) rfl (by decide) rfl (Nat.le_of_ble_eq_true rfl) rfl (by first | decide | exact ⟨Nat.zero_le _, Nat.zero_le _⟩) ?_
          refine go_icmp_ge (tgt := 44) (at_of tX10_lays 0 14 rfl) (by decide) (fun h22 => ?_) (fun h22 => ?_)
          rotate_left
          · exfalso; omega
          refine go_aload_n (at_of tX10_lays 1 8 rfl) rfl ?_
          refine go_iload_n (at_of tX10_lays 1 9 rfl) rfl ?_
          refine go_iload_n (at_of tX10_lays 1 10 rfl) rfl ?_
          refine go_cV (y1) lk_X10_306 rfl G_109 (at_of tX10_lays 1 11 rfl) rfl (by decide) rfl (Nat.le_of_ble_eq_true rfl) rfl (by first | decide | exact ⟨Nat.zero_le _, Nat.zero_le _⟩) ?_
          refine go_aload_n (at_of tX10_lays 1 12 rfl) rfl ?_
          refine go_getr (q := 128) fl_X10_80 rfl G_109 (by first | exact (hS _ _ rfl).trans rfl | exact (hS1 _ _ rfl).trans rfl | exact (hS2 _ _ rfl).trans rfl | exact (hS3 _ _ rfl).trans rfl | exact (hS4 _ _ rfl).trans rfl) (at_of tX10_lays 1 13 rfl) ?_
          refine go_aload_n (at_of tX10_lays 1 14 rfl) rfl ?_
          refine go_getf fl_X10_303 rfl G_109 (at_of tX10_lays 1 15 rfl) ?_
          rw [k28]
          refine go_iload_n (at_of tX10_lays 2 0 rfl) rfl ?_
          refine go_iast1 G_128 (by omega) (by omega) (at_of tX10_lays 2 1 rfl) ?_
          refine go_aload_n (at_of tX10_lays 2 2 rfl) rfl ?_
          refine go_getr (q := 129) fl_X10_83 rfl G_109 (by first | exact (hS _ _ rfl).trans rfl | exact (hS1 _ _ rfl).trans rfl | exact (hS2 _ _ rfl).trans rfl | exact (hS3 _ _ rfl).trans rfl | exact (hS4 _ _ rfl).trans rfl) (at_of tX10_lays 2 3 rfl) ?_
          refine go_aload_n (at_of tX10_lays 2 4 rfl) rfl ?_
          refine go_getf fl_X10_303 rfl G_109 (at_of tX10_lays 2 5 rfl) ?_
          rw [k28b]
          refine go_aload_n (at_of tX10_lays 2 6 rfl) rfl ?_
          refine go_cV (x1) lk_X10_310 rfl G_109 (at_of tX10_lays 2 7 rfl) rfl (by decide) rfl (Nat.le_of_ble_eq_true rfl) rfl (by first | decide | exact ⟨Nat.zero_le _, Nat.zero_le _⟩) ?_
          refine go_iast1 G_129 (by omega) (by omega) (at_of tX10_lays 2 8 rfl) ?_
          refine go_aload_n (at_of tX10_lays 2 9 rfl) rfl ?_
          refine go_dup (at_of tX10_lays 2 10 rfl) rfl ?_
          refine go_getf fl_X10_303 rfl G_109 (at_of tX10_lays 2 11 rfl) ?_
          rw [M1_ne (by omega), k28c]
          refine go_iconst (at_of tX10_lays 2 12 rfl) (by unfold in32; omega) ?_
          refine go_iadd (at_of tX10_lays 2 13 rfl) (by unfold in32; omega) ?_
          refine go_put1 fp_X10_303 rfl (Or.inl rfl) G_109 (Or.inl rfl) (at_of tX10_lays 2 14 rfl) ?_
          refine go_iload_n (at_of tX10_lays 2 15 rfl) rfl ?_
          refine go_iconst (at_of tX10_lays 3 0 rfl) (by unfold in32; omega) ?_
          refine go_iadd (at_of tX10_lays 3 1 rfl) (by unfold in32; omega) ?_
          refine go_istore_n (at_of tX10_lays 3 2 rfl) rfl rfl ?_
          refine go_iinc (at_of tX10_lays 3 3 rfl) rfl (by unfold in32; omega) rfl rfl ?_
          refine go_goto (tgt := 9) (at_of tX10_lays 3 4 rfl) (by decide) ?_
          exact z2 _ _ _ _ _ _
        · skip
          refine go_iload_n (at_of tX10_lays 0 7 rfl) rfl ?_
          refine go_aload_n (at_of tX10_lays 0 8 rfl) rfl ?_
          refine go_cV (hm) lk_X10_110 rfl G_109 (at_of tX10_lays 0 9 rfl) rfl (by decide) rfl (Nat.le_of_ble_eq_true rfl) rfl (by first | decide | exact ⟨Nat.zero_le _, Nat.zero_le _⟩) ?_
          refine go_icmp_gt (tgt := 93) (at_of tX10_lays 0 10 rfl) (by decide) (fun h14 => ?_) (fun h14 => ?_)
          · exfalso; omega
          refine go_iload_n (at_of tX10_lays 0 11 rfl) rfl ?_
          refine go_aload_n (at_of tX10_lays 0 12 rfl) rfl ?_
          refine go_cV (hm) lk_X10_110 rfl G_109 (at_of tX10_lays 0 13 rfl) rfl (by decide) rfl (Nat.le_of_ble_eq_true rfl) rfl (by first | decide | exact ⟨Nat.zero_le _, Nat.zero_le _⟩) ?_
          refine go_icmp_ge (tgt := 44) (at_of tX10_lays 0 14 rfl) (by decide) (fun h22 => ?_) (fun h22 => ?_)
          · exfalso; omega
          refine go_aload_n (at_of tX10_lays 0 15 rfl) rfl ?_
          refine go_iload_n (at_of tX10_lays 1 0 rfl) rfl ?_
          refine go_cV (hsn) lk_X10_114 rfl G_109 (at_of tX10_lays 1 1 rfl) rfl (by decide) rfl (Nat.le_of_ble_eq_true rfl) rfl (by first | decide | exact ⟨Nat.zero_le _, Nat.zero_le _⟩) ?_
          refine go_if_eq (tgt := 87) (at_of tX10_lays 1 2 rfl) (by decide) (fun h30 => ?_) (fun h30 => ?_)
          · exfalso; exact bI_0.mp h30 h3
          refine go_aload_n (at_of tX10_lays 1 3 rfl) rfl ?_
          refine go_iload_n (at_of tX10_lays 1 4 rfl) rfl ?_
          refine go_cV (hen) lk_X10_118 rfl G_109 (at_of tX10_lays 1 5 rfl) rfl (by decide) rfl (Nat.le_of_ble_eq_true rfl) rfl (by first | decide | exact ⟨Nat.zero_le _, Nat.zero_le _⟩) ?_
          refine go_if_ne (tgt := 44) (at_of tX10_lays 1 6 rfl) (by decide) (fun h38 => ?_) (fun h38 => ?_)
          rotate_left
          · exfalso; exact bI_0.mp h38 h47
          refine go_aload_n (at_of tX10_lays 1 8 rfl) rfl ?_
          refine go_iload_n (at_of tX10_lays 1 9 rfl) rfl ?_
          refine go_iload_n (at_of tX10_lays 1 10 rfl) rfl ?_
          refine go_cV (y1) lk_X10_306 rfl G_109 (at_of tX10_lays 1 11 rfl) rfl (by decide) rfl (Nat.le_of_ble_eq_true rfl) rfl (by first | decide | exact ⟨Nat.zero_le _, Nat.zero_le _⟩) ?_
          refine go_aload_n (at_of tX10_lays 1 12 rfl) rfl ?_
          refine go_getr (q := 128) fl_X10_80 rfl G_109 (by first | exact (hS _ _ rfl).trans rfl | exact (hS1 _ _ rfl).trans rfl | exact (hS2 _ _ rfl).trans rfl | exact (hS3 _ _ rfl).trans rfl | exact (hS4 _ _ rfl).trans rfl) (at_of tX10_lays 1 13 rfl) ?_
          refine go_aload_n (at_of tX10_lays 1 14 rfl) rfl ?_
          refine go_getf fl_X10_303 rfl G_109 (at_of tX10_lays 1 15 rfl) ?_
          rw [k28]
          refine go_iload_n (at_of tX10_lays 2 0 rfl) rfl ?_
          refine go_iast1 G_128 (by omega) (by omega) (at_of tX10_lays 2 1 rfl) ?_
          refine go_aload_n (at_of tX10_lays 2 2 rfl) rfl ?_
          refine go_getr (q := 129) fl_X10_83 rfl G_109 (by first | exact (hS _ _ rfl).trans rfl | exact (hS1 _ _ rfl).trans rfl | exact (hS2 _ _ rfl).trans rfl | exact (hS3 _ _ rfl).trans rfl | exact (hS4 _ _ rfl).trans rfl) (at_of tX10_lays 2 3 rfl) ?_
          refine go_aload_n (at_of tX10_lays 2 4 rfl) rfl ?_
          refine go_getf fl_X10_303 rfl G_109 (at_of tX10_lays 2 5 rfl) ?_
          rw [k28b]
          refine go_aload_n (at_of tX10_lays 2 6 rfl) rfl ?_
          refine go_cV (x1) lk_X10_310 rfl G_109 (at_of tX10_lays 2 7 rfl) rfl (by decide) rfl (Nat.le_of_ble_eq_true rfl) rfl (by first | decide | exact ⟨Nat.zero_le _, Nat.zero_le _⟩) ?_
          refine go_iast1 G_129 (by omega) (by omega) (at_of tX10_lays 2 8 rfl) ?_
          refine go_aload_n (at_of tX10_lays 2 9 rfl) rfl ?_
          refine go_dup (at_of tX10_lays 2 10 rfl) rfl ?_
          refine go_getf fl_X10_303 rfl G_109 (at_of tX10_lays 2 11 rfl) ?_
          rw [M1_ne (by omega), k28c]
          refine go_iconst (at_of tX10_lays 2 12 rfl) (by unfold in32; omega) ?_
          refine go_iadd (at_of tX10_lays 2 13 rfl) (by unfold in32; omega) ?_
          refine go_put1 fp_X10_303 rfl (Or.inl rfl) G_109 (Or.inl rfl) (at_of tX10_lays 2 14 rfl) ?_
          refine go_iload_n (at_of tX10_lays 2 15 rfl) rfl ?_
          refine go_iconst (at_of tX10_lays 3 0 rfl) (by unfold in32; omega) ?_
          refine go_iadd (at_of tX10_lays 3 1 rfl) (by unfold in32; omega) ?_
          refine go_istore_n (at_of tX10_lays 3 2 rfl) rfl rfl ?_
          refine go_iinc (at_of tX10_lays 3 3 rfl) rfl (by unfold in32; omega) rfl rfl ?_
          refine go_goto (tgt := 9) (at_of tX10_lays 3 4 rfl) (by decide) ?_
          exact z2 _ _ _ _ _ _
      · rw [ind_f hse] at n1
        rw [if_neg hse] at n2
        have hn : u ≠ R.2.1 := fun q => hse ((send_iff h0 (by omega)).mpr ⟨by rw [q]; exact e3, by rw [q]; exact e4⟩)
        have hI2 : LyI R Q w σ0 σ (u + 1) := by
          refine ⟨hI.1, by rw [n1]; exact hI.2.1.trans (Int.add_zero _).symm, fun q a b => hI.2.2.1 q a (by omega), fun v a b c d => hI.2.2.2 v a (by rw [n2] at b; exact b) c d⟩
        obtain ⟨σ', z1, z2⟩ := ih (u + 1) _ (by omega) (by omega) hI2
        refine ⟨σ', z1, fun b v3 v4 v5 v6 v7 out K => ?_⟩
        have z2 := fun b v3 v4 v5 v6 v7 => z2 b v3 v4 v5 v6 v7 out K
        rw [n2] at z2
        by_cases hs : R.1 3 u = -1
        · have h47 : R.1 0 u ≠ 47 := fun q => hse ((send_iff h0 (by omega)).mpr ⟨hs, q⟩)
          refine go_iload_n (at_of tX10_lays 0 7 rfl) rfl ?_
          refine go_aload_n (at_of tX10_lays 0 8 rfl) rfl ?_
          refine go_cV (hm) lk_X10_110 rfl G_109 (at_of tX10_lays 0 9 rfl) rfl (by decide) rfl (Nat.le_of_ble_eq_true rfl) rfl (by first | decide | exact ⟨Nat.zero_le _, Nat.zero_le _⟩) ?_
          refine go_icmp_gt (tgt := 93) (at_of tX10_lays 0 10 rfl) (by decide) (fun h14 => ?_) (fun h14 => ?_)
          · exfalso; omega
          refine go_iload_n (at_of tX10_lays 0 11 rfl) rfl ?_
          refine go_aload_n (at_of tX10_lays 0 12 rfl) rfl ?_
          refine go_cV (hm) lk_X10_110 rfl G_109 (at_of tX10_lays 0 13 rfl) rfl (by decide) rfl (Nat.le_of_ble_eq_true rfl) rfl (by first | decide | exact ⟨Nat.zero_le _, Nat.zero_le _⟩) ?_
          refine go_icmp_ge (tgt := 44) (at_of tX10_lays 0 14 rfl) (by decide) (fun h22 => ?_) (fun h22 => ?_)
          · exfalso; omega
          refine go_aload_n (at_of tX10_lays 0 15 rfl) rfl ?_
          refine go_iload_n (at_of tX10_lays 1 0 rfl) rfl ?_
          refine go_cV (hsn) lk_X10_114 rfl G_109 (at_of tX10_lays 1 1 rfl) rfl (by decide) rfl (Nat.le_of_ble_eq_true rfl) rfl (by first | decide | exact ⟨Nat.zero_le _, Nat.zero_le _⟩) ?_
          refine go_if_eq (tgt := 87) (at_of tX10_lays 1 2 rfl) (by decide) (fun h30 => ?_) (fun h30 => ?_)
          · exfalso; exact bI_0.mp h30 hs
          refine go_aload_n (at_of tX10_lays 1 3 rfl) rfl ?_
          refine go_iload_n (at_of tX10_lays 1 4 rfl) rfl ?_
          refine go_cV (hen) lk_X10_118 rfl G_109 (at_of tX10_lays 1 5 rfl) rfl (by decide) rfl (Nat.le_of_ble_eq_true rfl) rfl (by first | decide | exact ⟨Nat.zero_le _, Nat.zero_le _⟩) ?_
          refine go_if_ne (tgt := 44) (at_of tX10_lays 1 6 rfl) (by decide) (fun h38 => ?_) (fun h38 => ?_)
          · exfalso; exact h38 (bI_f h47)
          refine go_goto (tgt := 87) (at_of tX10_lays 1 7 rfl) (by decide) ?_
          refine go_iinc (at_of tX10_lays 3 3 rfl) rfl (by unfold in32; omega) rfl rfl ?_
          refine go_goto (tgt := 9) (at_of tX10_lays 3 4 rfl) (by decide) ?_
          exact z2 _ _ _ _ _ _
        · skip
          refine go_iload_n (at_of tX10_lays 0 7 rfl) rfl ?_
          refine go_aload_n (at_of tX10_lays 0 8 rfl) rfl ?_
          refine go_cV (hm) lk_X10_110 rfl G_109 (at_of tX10_lays 0 9 rfl) rfl (by decide) rfl (Nat.le_of_ble_eq_true rfl) rfl (by first | decide | exact ⟨Nat.zero_le _, Nat.zero_le _⟩) ?_
          refine go_icmp_gt (tgt := 93) (at_of tX10_lays 0 10 rfl) (by decide) (fun h14 => ?_) (fun h14 => ?_)
          · exfalso; omega
          refine go_iload_n (at_of tX10_lays 0 11 rfl) rfl ?_
          refine go_aload_n (at_of tX10_lays 0 12 rfl) rfl ?_
          refine go_cV (hm) lk_X10_110 rfl G_109 (at_of tX10_lays 0 13 rfl) rfl (by decide) rfl (Nat.le_of_ble_eq_true rfl) rfl (by first | decide | exact ⟨Nat.zero_le _, Nat.zero_le _⟩) ?_
          refine go_icmp_ge (tgt := 44) (at_of tX10_lays 0 14 rfl) (by decide) (fun h22 => ?_) (fun h22 => ?_)
          · exfalso; omega
          refine go_aload_n (at_of tX10_lays 0 15 rfl) rfl ?_
          refine go_iload_n (at_of tX10_lays 1 0 rfl) rfl ?_
          refine go_cV (hsn) lk_X10_114 rfl G_109 (at_of tX10_lays 1 1 rfl) rfl (by decide) rfl (Nat.le_of_ble_eq_true rfl) rfl (by first | decide | exact ⟨Nat.zero_le _, Nat.zero_le _⟩) ?_
          refine go_if_eq (tgt := 87) (at_of tX10_lays 1 2 rfl) (by decide) (fun h30 => ?_) (fun h30 => ?_)
          rotate_left
          · exfalso; exact h30 (bI_f hs)
          refine go_iinc (at_of tX10_lays 3 3 rfl) rfl (by unfold in32; omega) rfl rfl ?_
          refine go_goto (tgt := 9) (at_of tX10_lays 3 4 rfl) (by decide) ?_
          exact z2 _ _ _ _ _ _
  have I0 : LyI R Q w σ0 (P1 σ0 109 28 0) 0 := by
    refine ⟨⟨rfl, fun a j q => ?_⟩, P1_eq, fun q a b => ?_, fun v a b => ?_⟩
    · by_cases ha : a = 109
      · exact P1_nj (by omega)
      · exact P1_ne ha
    · have : enN R 0 = 0 := rfl
      omega
    · have : stI R 0 = 0 := rfl
      omega
  exact key (R.2.1 + 1).toNat 0 _ (Int.le_refl _) (by omega) I0
end Mod17
