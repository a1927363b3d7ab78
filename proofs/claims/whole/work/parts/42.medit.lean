/-! The reference: an edit begun; changes asked and made; rows opened and closed. -/
section Mod3
variable {σ : St}
theorem m_edits (hS : Str σ.2.1) {A : PastD} (hM : PastM σ A) : ∃ σ', Con 1 mX10_edits 0 0 [vA 109] σ (vT 8 0, σ') ∧ PastM σ' (begA A) ∧ FrE σ σ' ∧ (∀ j, σ'.1 110 j = σ.1 110 j) ∧ σ'.1 109 0 = σ.1 109 0 := by
  obtain ⟨a, b, c, d, e, f⟩ := id hM
  -- what follows once there is room
  have tail : ∀ (σ1 : St) (u : Int), Str σ1.2.1 → σ1.2 = σ.2 → (∀ x j : Nat, x ≠ 111 → ¬ (x = 109 ∧ j = 4) → σ1.1 x j = σ.1 x j) → σ1.1 109 4 = u → 0 ≤ u → u ≤ 5 →
      ∃ σ', (∀ x j : Nat, x ≠ 111 → ¬ (x = 109 ∧ (j = 4 ∨ j = 5)) → σ'.1 x j = σ.1 x j) ∧ σ'.2 = σ.2 ∧ σ'.1 109 4 = u + 1 ∧ σ'.1 109 5 = 0 ∧ (∀ x : Int, 0 ≤ x → x < 3225 → σ'.1 111 (3225 * u + x).toNat = σ.1 110 x.toNat) ∧ (∀ x : Int, 0 ≤ x → x < 3225 * u → σ'.1 111 x.toNat = σ1.1 111 x.toNat) ∧
      ∀ (b : Nat × Nat) (v1 : MV), Go (fun _ => 0) 1 mX10_edits b 49 [vA 109, v1] [] σ1 (vT 8 0, σ') := by
    intro σ1 u hS1 z2 z1 z4 z5 z6
    obtain ⟨σ2, hσ2⟩ : ∃ σ2, σ2 = cpS σ1 110 0 111 u 3225 := ⟨_, rfl⟩
    have n2 : ∀ x j : Nat, x ≠ 111 → σ2.1 x j = σ1.1 x j := fun x j q => by rw [hσ2]; exact cpS_ne q
    have hS2 : Str σ2.2.1 := by rw [hσ2]; exact hS1
    have r4 : σ2.1 109 4 = u := (n2 _ _ (by omega)).trans z4
    refine ⟨P1 (P1 σ2 109 4 (u + 1)) 109 5 0, fun x j q q' => ?_, ?_, ?_, P1_eq, fun x x0 x1 => ?_, fun x x0 x1 => ?_, fun b v1 => ?_⟩
    · by_cases hx : x = 109
      · rw [P1_nj (by omega), P1_nj (by omega), n2 _ _ q, z1 _ _ q (by omega)]
      · rw [P1_ne hx, P1_ne hx, n2 _ _ q, z1 _ _ q (by omega)]
    · show σ2.2 = σ.2; rw [hσ2]; exact z2
    · rw [P1_nj (by omega), P1_eq]
    · have := cpS_in (σ := σ1) (a0 := 110) (a1 := 111) (fs := 0) (ts := u) (t := 3225) (x := x) z5 ⟨x0, x1⟩
      rw [P1_ne (by omega), P1_ne (by omega), hσ2, this, z1 _ _ (by omega) (by omega), show 3225 * 0 + x = x by omega]
    · have := cpS_out (σ := σ1) (a0 := 110) (a1 := 111) (fs := 0) (ts := u) (t := 3225) (x := x) x0 (Or.inl x1)
      rw [P1_ne (by omega), P1_ne (by omega), hσ2, this]
    · skip
      refine go_aload_n (at_of tX10_edits 1 11 rfl) rfl ?_
      refine go_aload_n (at_of tX10_edits 1 12 rfl) rfl ?_
      refine go_getr (q := 110) fl_X10_7 rfl G_109 ((hS1 _ _ rfl).trans rfl) (at_of tX10_edits 1 13 rfl) ?_
      refine go_iconst (at_of tX10_edits 1 14 rfl) (by unfold in32; omega) ?_
      refine go_aload_n (at_of tX10_edits 1 15 rfl) rfl ?_
      refine go_getr (q := 111) fl_X10_13 rfl G_109 ((hS1 _ _ rfl).trans rfl) (at_of tX10_edits 2 0 rfl) ?_
      refine go_aload_n (at_of tX10_edits 2 1 rfl) rfl ?_
      refine go_getf fl_X10_131 rfl G_109 (at_of tX10_edits 2 2 rfl) ?_
      rw [z4]
      refine go_cV (m_copies G_110 G_111 (by omega) (by omega) (by omega)) lk_X10_134 rfl G_109 (at_of tX10_edits 2 3 rfl) rfl (by decide) rfl (Nat.le_of_ble_eq_true rfl) rfl (by first | decide | exact ⟨Nat.zero_le _, Nat.zero_le _⟩) ?_
      rw [← hσ2]
      refine go_aload_n (at_of tX10_edits 2 4 rfl) rfl ?_
      refine go_dup (at_of tX10_edits 2 5 rfl) rfl ?_
      refine go_getf fl_X10_131 rfl G_109 (at_of tX10_edits 2 6 rfl) ?_
      rw [r4]
      refine go_iconst (at_of tX10_edits 2 7 rfl) (by unfold in32; omega) ?_
      refine go_iadd (at_of tX10_edits 2 8 rfl) (by unfold in32; omega) ?_
      refine go_put1 fp_X10_131 rfl (Or.inl rfl) G_109 (Or.inl rfl) (at_of tX10_edits 2 9 rfl) ?_
      refine go_aload_n (at_of tX10_edits 2 10 rfl) rfl ?_
      refine go_iconst (at_of tX10_edits 2 11 rfl) (by unfold in32; omega) ?_
      refine go_put1 fp_X10_138 rfl (Or.inl rfl) G_109 (Or.inl rfl) (at_of tX10_edits 2 12 rfl) ?_
      exact go_retv (at_of tX10_edits 2 13 rfl) rfl
  by_cases h6 : A.2.1 = 6
  · -- the first is let go
    have key := loop_up (α := Unit) (Rep := fun σ' _ s => (σ'.2 = σ.2 ∧ ∀ x j : Nat, x ≠ 111 → σ'.1 x j = σ.1 x j) ∧ 1 ≤ s ∧ (∀ j : Int, 0 ≤ j → j < s - 1 → ∀ x : Int, 0 ≤ x → x < 3225 → σ'.1 111 (3225 * j + x).toNat = σ.1 111 (3225 * (j + 1) + x).toNat) ∧
        (∀ j : Int, s - 1 ≤ j → j < 6 → ∀ x : Int, 0 ≤ x → x < 3225 → σ'.1 111 (3225 * j + x).toNat = σ.1 111 (3225 * j + x).toNat)) (f := fun _ _ => ()) (hi := 6)
      (G := fun b _ s σ out => Go (fun _ => 0) 1 mX10_edits b 11 [vA 109, vI s] [] σ out) (fun σ1 _ s hh hlo => ?_) 5 σ () 1 ⟨⟨rfl, fun _ _ _ => rfl⟩, by omega, fun j q0 q1 => by omega, fun j _ _ x _ _ => rfl⟩ (by omega)
    · obtain ⟨σ1, ⟨⟨i0, i1⟩, i2, i3, -⟩, i4⟩ := key
      have r4 : σ1.1 109 4 = 6 := by rw [i1 _ _ (by omega), a, h6]; rfl
      have hS1 : Str σ1.2.1 := by rw [i0]; exact hS
      obtain ⟨σ2, t1, t2, t3, t4, t5, t6, t7⟩ := tail (P1 σ1 109 4 5) 5 hS1 i0 (fun x j q q' => by
        by_cases hx : x = 109
        · rw [P1_nj (by omega)]; exact i1 x j q
        · rw [P1_ne hx]; exact i1 x j q) P1_eq (by omega) (by omega)
      have eB : begA A = (fun j => if j < 6 then A.1 (j + 1) else A.1 6, 6, 0) := if_pos h6
      rw [eB]
      refine ⟨σ2, ?_, ⟨by rw [t3]; rfl, t4, by show 6 + 0 ≤ 6; omega, ?_, fun j hj => ?_, fun j hj => absurd hj (Nat.not_lt_zero j)⟩, ⟨t2, fun x j q => t1 x j (by omega) (by omega)⟩, fun j => t1 _ _ (by omega) (by omega), t1 _ _ (by omega) (by omega)⟩
      · skip
        refine con_of_go mfX10_edits.1 trivial (Nat.le_of_ble_eq_true rfl) rfl (by decide) ?_
        show Go _ _ _ _ 0 [vA _, vT 9 0] [] _ _
        refine go_aload_n (at_of tX10_edits 0 0 rfl) rfl ?_
        refine go_getf fl_X10_131 rfl G_109 (at_of tX10_edits 0 1 rfl) ?_
        refine go_bipush (at_of tX10_edits 0 2 rfl) (by decide) ?_
        refine go_icmp_ne (tgt := 49) (at_of tX10_edits 0 3 rfl) (by decide) (fun h6 => ?_) (fun h6 => ?_)
        · exfalso; omega
        refine go_iconst (at_of tX10_edits 0 4 rfl) (by unfold in32; omega) ?_
        refine go_istore_n (at_of tX10_edits 0 5 rfl) rfl rfl ?_
        refine i4 _ _ (fun b => ?_)
        refine go_iload_n (at_of tX10_edits 0 6 rfl) rfl ?_
        refine go_bipush (at_of tX10_edits 0 7 rfl) (by decide) ?_
        refine go_icmp_ge (tgt := 39) (at_of tX10_edits 0 8 rfl) (by decide) (fun h14 => ?_) (fun h14 => ?_)
        rotate_left
        · exfalso; omega
        refine go_aload_n (at_of tX10_edits 1 5 rfl) rfl ?_
        refine go_dup (at_of tX10_edits 1 6 rfl) rfl ?_
        refine go_getf fl_X10_131 rfl G_109 (at_of tX10_edits 1 7 rfl) ?_
        rw [r4]
        refine go_iconst (at_of tX10_edits 1 8 rfl) (by unfold in32; omega) ?_
        refine go_isub (at_of tX10_edits 1 9 rfl) (by unfold in32; omega) ?_
        refine go_put1 fp_X10_131 rfl (Or.inl rfl) G_109 (Or.inl rfl) (at_of tX10_edits 1 10 rfl) ?_
        exact t7 _ _
      · show RepN _ (if 6 < 6 then A.1 (6 + 1) else A.1 6)
        rw [if_neg (by omega), ← h6]
        exact d.congr (fun x x0 x1 => t1 _ _ (by omega) (by omega))
      · have hj : j < 6 := hj
        show RepN _ (if j < 6 then A.1 (j + 1) else A.1 6)
        rw [if_pos hj]
        by_cases e5 : j = 5
        · rw [e5, show 5 + 1 = A.2.1 by omega]
          exact d.congr (fun x x0 x1 => t5 x x0 x1)
        · refine (e (j + 1) (by omega)).congr (fun x x0 x1 => ?_)
          unfold cA
          rw [t6 _ (by omega) (by omega), P1_ne (by omega), i3 j (by omega) (by omega) x x0 x1, show ((j + 1 : Nat) : Int) = (j : Int) + 1 by omega]
    · obtain ⟨⟨i0, i1⟩, i2, i3, i4⟩ := hh
      have hS1 : Str σ1.2.1 := by rw [i0]; exact hS
      refine ⟨cpS σ1 111 s 111 (s - 1) 3225, ⟨⟨i0, fun x j q => by rw [cpS_ne q]; exact i1 x j q⟩, by omega, fun j q0 q1 x x0 x1 => ?_, fun j q0 q1 x x0 x1 => ?_⟩, fun b out K => ?_⟩
      · by_cases ej : j = s - 1
        · have := cpS_in (σ := σ1) (a0 := 111) (a1 := 111) (fs := s) (ts := s - 1) (t := 3225) (x := x) (by omega) ⟨x0, x1⟩
          rw [ej, this, show s - 1 + 1 = s by omega]
          exact i4 s (by omega) hlo x x0 x1
        · have := cpS_out (σ := σ1) (a0 := 111) (a1 := 111) (fs := s) (ts := s - 1) (t := 3225) (x := 3225 * j + x) (by omega) (by omega)
          rw [this]; exact i3 j q0 (by omega) x x0 x1
      · have := cpS_out (σ := σ1) (a0 := 111) (a1 := 111) (fs := s) (ts := s - 1) (t := 3225) (x := 3225 * j + x) (by omega) (by omega)
        rw [this]; exact i4 j (by omega) q1 x x0 x1
      · skip
        refine go_iload_n (at_of tX10_edits 0 6 rfl) rfl ?_
        refine go_bipush (at_of tX10_edits 0 7 rfl) (by decide) ?_
        refine go_icmp_ge (tgt := 39) (at_of tX10_edits 0 8 rfl) (by decide) (fun h14 => ?_) (fun h14 => ?_)
        · exfalso; omega
        refine go_aload_n (at_of tX10_edits 0 9 rfl) rfl ?_
        refine go_aload_n (at_of tX10_edits 0 10 rfl) rfl ?_
        refine go_getr (q := 111) fl_X10_13 rfl G_109 ((hS1 _ _ rfl).trans rfl) (at_of tX10_edits 0 11 rfl) ?_
        refine go_iload_n (at_of tX10_edits 0 12 rfl) rfl ?_
        refine go_aload_n (at_of tX10_edits 0 13 rfl) rfl ?_
        refine go_getr (q := 111) fl_X10_13 rfl G_109 ((hS1 _ _ rfl).trans rfl) (at_of tX10_edits 0 14 rfl) ?_
        refine go_iload_n (at_of tX10_edits 0 15 rfl) rfl ?_
        refine go_iconst (at_of tX10_edits 1 0 rfl) (by unfold in32; omega) ?_
        refine go_isub (at_of tX10_edits 1 1 rfl) (by unfold in32; omega) ?_
        refine go_cV (m_copies G_111 G_111 (by omega) (by omega) (by omega)) lk_X10_134 rfl G_109 (at_of tX10_edits 1 2 rfl) rfl (by decide) rfl (Nat.le_of_ble_eq_true rfl) rfl (by first | decide | exact ⟨Nat.zero_le _, Nat.zero_le _⟩) ?_
        refine go_iinc (at_of tX10_edits 1 3 rfl) rfl (by unfold in32; omega) rfl rfl ?_
        refine go_goto (tgt := 11) (at_of tX10_edits 1 4 rfl) (by decide) ?_
        exact K _
  · obtain ⟨σ2, t1, t2, t3, t4, t5, t6, t7⟩ := tail σ A.2.1 hS rfl (fun _ _ _ _ => rfl) a (by omega) (by omega)
    have eB : begA A = (fun j => if j = A.2.1 + 1 then A.1 A.2.1 else A.1 j, A.2.1 + 1, 0) := if_neg h6
    rw [eB]
    refine ⟨σ2, ?_, ⟨by rw [t3]; show _ = ((A.2.1 + 1 : Nat) : Int); omega, t4, by show A.2.1 + 1 + 0 ≤ 6; omega, ?_, fun j hj => ?_, fun j hj => absurd hj (Nat.not_lt_zero j)⟩, ⟨t2, fun x j q => t1 x j (by omega) (by omega)⟩, fun j => t1 _ _ (by omega) (by omega), t1 _ _ (by omega) (by omega)⟩
    · skip
      refine con_of_go mfX10_edits.1 trivial (Nat.le_of_ble_eq_true rfl) rfl (by decide) ?_
      show Go _ _ _ _ 0 [vA _, vT 9 0] [] _ _
      refine go_aload_n (at_of tX10_edits 0 0 rfl) rfl ?_
      refine go_getf fl_X10_131 rfl G_109 (at_of tX10_edits 0 1 rfl) ?_
      refine go_bipush (at_of tX10_edits 0 2 rfl) (by decide) ?_
      refine go_icmp_ne (tgt := 49) (at_of tX10_edits 0 3 rfl) (by decide) (fun h6 => ?_) (fun h6 => ?_)
      rotate_left
      · exfalso; omega
      exact t7 _ _
    · show RepN _ (if A.2.1 + 1 = A.2.1 + 1 then A.1 A.2.1 else A.1 (A.2.1 + 1))
      rw [if_pos rfl]
      exact d.congr (fun x x0 x1 => t1 _ _ (by omega) (by omega))
    · have hj : j < A.2.1 + 1 := hj
      show RepN _ (if j = A.2.1 + 1 then A.1 A.2.1 else A.1 j)
      rw [if_neg (by omega)]
      by_cases ej : j = A.2.1
      · rw [ej]; exact d.congr (fun x x0 x1 => t5 x x0 x1)
      · refine (e j (by omega)).congr (fun x x0 x1 => ?_)
        unfold cA
        rw [t6 _ (by omega) (by omega)]
theorem m_waits (hS : Str σ.2.1) {D : PapD} (hN : RepN (cN σ) D) (hE : LastE D.1) (hSg : SgW D.1) (hMk : MkB D.1 D.2.1) {c : Int} (hc : c = -1 ∨ (0 ≤ c ∧ c < D.2.1.1)) : Con 0 mX10_waits 0 0 [vA 109, vI c] σ (vI (bI (c ≠ -1 ∧ D.2.1.2.2.2 c = 119)), σ) := by
  obtain ⟨e1, e2, e3, e4⟩ := id hE
  obtain ⟨b1, b2, b3, b4⟩ := id hN.2.2.2
  have hl := hN.2.1.2
  by_cases h : c = -1
  · rw [bI_f (fun q => q.1 h)]
    refine con_of_go mfX10_waits.1 (Or.inl rfl) (Nat.le_of_ble_eq_true rfl) rfl (by decide) ?_
    show Go _ _ _ _ 0 [vA _, vI _] [] _ _
    refine go_iload_n (at_of tX10_waits 0 0 rfl) rfl ?_
    refine go_iconst (at_of tX10_waits 0 1 rfl) (by unfold in32; omega) ?_
    refine go_icmp_eq (tgt := 24) (at_of tX10_waits 0 2 rfl) (by decide) (fun h2 => ?_) (fun h2 => ?_)
    rotate_left
    · exfalso; omega
    refine go_iconst (at_of tX10_waits 0 13 rfl) (by unfold in32; omega) ?_
    first | exact go_reti (at_of tX10_waits 0 14 rfl) rfl | exact go_reti (at_of tX10_waits 0 14 rfl) (le_i (by omega)) | exact go_reti (at_of tX10_waits 0 14 rfl) (le_i (by first | exact bI_t (by omega) | exact bI_f (by omega)))
  · have z : σ.1 110 (3073 + c).toNat = D.2.1.2.2.2 c := (hl c (by omega) (by omega)).2.1
    by_cases hw : D.2.1.2.2.2 c = 119
    · rw [bI_t ⟨h, hw⟩]
      refine con_of_go mfX10_waits.1 (Or.inr rfl) (Nat.le_of_ble_eq_true rfl) rfl (by decide) ?_
      show Go _ _ _ _ 0 [vA _, vI _] [] _ _
      refine go_iload_n (at_of tX10_waits 0 0 rfl) rfl ?_
      refine go_iconst (at_of tX10_waits 0 1 rfl) (by unfold in32; omega) ?_
      refine go_icmp_eq (tgt := 24) (at_of tX10_waits 0 2 rfl) (by decide) (fun h2 => ?_) (fun h2 => ?_)
      · exfalso; omega
      refine go_aload_n (at_of tX10_waits 0 3 rfl) rfl ?_
      refine go_getr (q := 110) fl_X10_7 rfl G_109 ((hS _ _ rfl).trans rfl) (at_of tX10_waits 0 4 rfl) ?_
      refine go_sipush (at_of tX10_waits 0 5 rfl) (by decide) ?_
      refine go_iload_n (at_of tX10_waits 0 6 rfl) rfl ?_
      refine go_iadd (at_of tX10_waits 0 7 rfl) (by unfold in32; omega) ?_
      refine go_iald G_110 (by omega) (by omega) (at_of tX10_waits 0 8 rfl) ?_
      refine go_bipush (at_of tX10_waits 0 9 rfl) (by decide) ?_
      refine go_icmp_ne (tgt := 24) (at_of tX10_waits 0 10 rfl) (by decide) (fun h17 => ?_) (fun h17 => ?_)
      · exfalso; omega
      refine go_iconst (at_of tX10_waits 0 11 rfl) (by unfold in32; omega) ?_
      refine go_goto (tgt := 25) (at_of tX10_waits 0 12 rfl) (by decide) ?_
      first | exact go_reti (at_of tX10_waits 0 14 rfl) rfl | exact go_reti (at_of tX10_waits 0 14 rfl) (le_i (by omega)) | exact go_reti (at_of tX10_waits 0 14 rfl) (le_i (by first | exact bI_t (by omega) | exact bI_f (by omega)))
    · rw [bI_f (fun q => hw q.2)]
      refine con_of_go mfX10_waits.1 (Or.inl rfl) (Nat.le_of_ble_eq_true rfl) rfl (by decide) ?_
      show Go _ _ _ _ 0 [vA _, vI _] [] _ _
      refine go_iload_n (at_of tX10_waits 0 0 rfl) rfl ?_
      refine go_iconst (at_of tX10_waits 0 1 rfl) (by unfold in32; omega) ?_
      refine go_icmp_eq (tgt := 24) (at_of tX10_waits 0 2 rfl) (by decide) (fun h2 => ?_) (fun h2 => ?_)
      · exfalso; omega
      refine go_aload_n (at_of tX10_waits 0 3 rfl) rfl ?_
      refine go_getr (q := 110) fl_X10_7 rfl G_109 ((hS _ _ rfl).trans rfl) (at_of tX10_waits 0 4 rfl) ?_
      refine go_sipush (at_of tX10_waits 0 5 rfl) (by decide) ?_
      refine go_iload_n (at_of tX10_waits 0 6 rfl) rfl ?_
      refine go_iadd (at_of tX10_waits 0 7 rfl) (by unfold in32; omega) ?_
      refine go_iald G_110 (by omega) (by omega) (at_of tX10_waits 0 8 rfl) ?_
      refine go_bipush (at_of tX10_waits 0 9 rfl) (by decide) ?_
      refine go_icmp_ne (tgt := 24) (at_of tX10_waits 0 10 rfl) (by decide) (fun h17 => ?_) (fun h17 => ?_)
      rotate_left
      · exfalso; omega
      refine go_iconst (at_of tX10_waits 0 13 rfl) (by unfold in32; omega) ?_
      first | exact go_reti (at_of tX10_waits 0 14 rfl) rfl | exact go_reti (at_of tX10_waits 0 14 rfl) (le_i (by omega)) | exact go_reti (at_of tX10_waits 0 14 rfl) (le_i (by first | exact bI_t (by omega) | exact bI_f (by omega)))
theorem m_changeAhead (hS : Str σ.2.1) {D : PapD} (hN : RepN (cN σ) D) (hE : LastE D.1) (hSg : SgW D.1) (hMk : MkB D.1 D.2.1) {u a : Int} (hu : 0 ≤ u ∧ u ≤ D.1.2.1) : Con 1 mX10_changeAhead 0 0 [vA 109, vI u, vI a] σ (vI (chAhD D a u), σ) := by
  obtain ⟨e1, e2, e3, e4⟩ := id hE
  obtain ⟨b1, b2, b3, b4⟩ := id hN.2.2.2
  have hl := hN.2.1.2
  unfold chAhD waitsD
  by_cases h0 : u = 0
  · rw [if_neg (fun q => by omega)]
    refine con_of_go mfX10_changeAhead.1 trivial (Nat.le_of_ble_eq_true rfl) rfl (by decide) ?_
    show Go _ _ _ _ 0 [vA _, vI _, vI _, vT 9 0] [] _ _
    refine go_iload_n (at_of tX10_changeAhead 0 0 rfl) rfl ?_
    refine go_if_ne (tgt := 8) (at_of tX10_changeAhead 0 1 rfl) (by decide) (fun h1 => ?_) (fun h1 => ?_)
    · exfalso; omega
    refine go_iconst (at_of tX10_changeAhead 0 2 rfl) (by unfold in32; omega) ?_
    refine go_goto (tgt := 16) (at_of tX10_changeAhead 0 3 rfl) (by decide) ?_
    refine go_istore_n (at_of tX10_changeAhead 0 10 rfl) rfl rfl ?_
    refine go_aload_n (at_of tX10_changeAhead 0 11 rfl) rfl ?_
    refine go_iload_n (at_of tX10_changeAhead 0 12 rfl) rfl ?_
    refine go_cV (m_waits hS hN hE hSg hMk (Or.inl rfl)) lk_X10_144 rfl G_109 (at_of tX10_changeAhead 0 13 rfl) rfl (by decide) rfl (Nat.le_of_ble_eq_true rfl) rfl (by first | decide | exact ⟨Nat.zero_le _, Nat.zero_le _⟩) ?_
    refine go_if_eq (tgt := 43) (at_of tX10_changeAhead 0 14 rfl) (by decide) (fun h22 => ?_) (fun h22 => ?_)
    rotate_left
    · exfalso; exact (bI_1.mp h22).1 rfl
    refine go_iconst (at_of tX10_changeAhead 1 9 rfl) (by unfold in32; omega) ?_
    first | exact go_reti (at_of tX10_changeAhead 1 10 rfl) rfl | exact go_reti (at_of tX10_changeAhead 1 10 rfl) (le_i (by omega)) | exact go_reti (at_of tX10_changeAhead 1 10 rfl) (le_i (by first | exact bI_t (by omega) | exact bI_f (by omega)))
  · have hmk := hMk (u - 1) (by omega) (by omega)
    by_cases hw : (D.1.1 2 (u - 1)) ≠ -1 ∧ D.2.1.2.2.2 (D.1.1 2 (u - 1)) = 119
    · have z : σ.1 110 (3013 + (D.1.1 2 (u - 1))).toNat = D.2.1.2.2.1 (D.1.1 2 (u - 1)) := (hl (D.1.1 2 (u - 1)) (by omega) (by omega)).1
      by_cases ha : D.2.1.2.2.1 (D.1.1 2 (u - 1)) = a
      · rw [if_pos ⟨by omega, decide_eq_true ⟨by omega, by omega, hw.2, ha⟩⟩]
        refine con_of_go mfX10_changeAhead.1 trivial (Nat.le_of_ble_eq_true rfl) rfl (by decide) ?_
        show Go _ _ _ _ 0 [vA _, vI _, vI _, vT 9 0] [] _ _
        refine go_iload_n (at_of tX10_changeAhead 0 0 rfl) rfl ?_
        refine go_if_ne (tgt := 8) (at_of tX10_changeAhead 0 1 rfl) (by decide) (fun h1 => ?_) (fun h1 => ?_)
        rotate_left
        · exfalso; omega
        refine go_aload_n (at_of tX10_changeAhead 0 4 rfl) rfl ?_
        refine go_iload_n (at_of tX10_changeAhead 0 5 rfl) rfl ?_
        refine go_iconst (at_of tX10_changeAhead 0 6 rfl) (by unfold in32; omega) ?_
        refine go_isub (at_of tX10_changeAhead 0 7 rfl) (by unfold in32; omega) ?_
        refine go_iconst (at_of tX10_changeAhead 0 8 rfl) (by unfold in32; omega) ?_
        refine go_cV (m_at1 hS hN.1 (by omega)) lk_X10_106 rfl G_109 (at_of tX10_changeAhead 0 9 rfl) rfl (by decide) rfl (Nat.le_of_ble_eq_true rfl) rfl (by first | decide | exact ⟨Nat.zero_le _, Nat.zero_le _⟩) ?_
        refine go_istore_n (at_of tX10_changeAhead 0 10 rfl) rfl rfl ?_
        refine go_aload_n (at_of tX10_changeAhead 0 11 rfl) rfl ?_
        refine go_iload_n (at_of tX10_changeAhead 0 12 rfl) rfl ?_
        refine go_cV (m_waits hS hN hE hSg hMk hmk) lk_X10_144 rfl G_109 (at_of tX10_changeAhead 0 13 rfl) rfl (by decide) rfl (Nat.le_of_ble_eq_true rfl) rfl (by first | decide | exact ⟨Nat.zero_le _, Nat.zero_le _⟩) ?_
        refine go_if_eq (tgt := 43) (at_of tX10_changeAhead 0 14 rfl) (by decide) (fun h22 => ?_) (fun h22 => ?_)
        · exfalso; exact bI_0.mp h22 hw
        refine go_aload_n (at_of tX10_changeAhead 0 15 rfl) rfl ?_
        refine go_getr (q := 110) fl_X10_7 rfl G_109 ((hS _ _ rfl).trans rfl) (at_of tX10_changeAhead 1 0 rfl) ?_
        refine go_sipush (at_of tX10_changeAhead 1 1 rfl) (by decide) ?_
        refine go_iload_n (at_of tX10_changeAhead 1 2 rfl) rfl ?_
        refine go_iadd (at_of tX10_changeAhead 1 3 rfl) (by unfold in32; omega) ?_
        refine go_iald G_110 (by omega) (by omega) (at_of tX10_changeAhead 1 4 rfl) ?_
        refine go_iload_n (at_of tX10_changeAhead 1 5 rfl) rfl ?_
        refine go_icmp_ne (tgt := 43) (at_of tX10_changeAhead 1 6 rfl) (by decide) (fun h36 => ?_) (fun h36 => ?_)
        · exfalso; omega
        refine go_iload_n (at_of tX10_changeAhead 1 7 rfl) rfl ?_
        refine go_goto (tgt := 44) (at_of tX10_changeAhead 1 8 rfl) (by decide) ?_
        first | exact go_reti (at_of tX10_changeAhead 1 10 rfl) rfl | exact go_reti (at_of tX10_changeAhead 1 10 rfl) (le_i (by omega)) | exact go_reti (at_of tX10_changeAhead 1 10 rfl) (le_i (by first | exact bI_t (by omega) | exact bI_f (by omega)))
      · rw [if_neg (fun q => ha (of_decide_eq_true q.2).2.2.2)]
        refine con_of_go mfX10_changeAhead.1 trivial (Nat.le_of_ble_eq_true rfl) rfl (by decide) ?_
        show Go _ _ _ _ 0 [vA _, vI _, vI _, vT 9 0] [] _ _
        refine go_iload_n (at_of tX10_changeAhead 0 0 rfl) rfl ?_
        refine go_if_ne (tgt := 8) (at_of tX10_changeAhead 0 1 rfl) (by decide) (fun h1 => ?_) (fun h1 => ?_)
        rotate_left
        · exfalso; omega
        refine go_aload_n (at_of tX10_changeAhead 0 4 rfl) rfl ?_
        refine go_iload_n (at_of tX10_changeAhead 0 5 rfl) rfl ?_
        refine go_iconst (at_of tX10_changeAhead 0 6 rfl) (by unfold in32; omega) ?_
        refine go_isub (at_of tX10_changeAhead 0 7 rfl) (by unfold in32; omega) ?_
        refine go_iconst (at_of tX10_changeAhead 0 8 rfl) (by unfold in32; omega) ?_
        refine go_cV (m_at1 hS hN.1 (by omega)) lk_X10_106 rfl G_109 (at_of tX10_changeAhead 0 9 rfl) rfl (by decide) rfl (Nat.le_of_ble_eq_true rfl) rfl (by first | decide | exact ⟨Nat.zero_le _, Nat.zero_le _⟩) ?_
        refine go_istore_n (at_of tX10_changeAhead 0 10 rfl) rfl rfl ?_
        refine go_aload_n (at_of tX10_changeAhead 0 11 rfl) rfl ?_
        refine go_iload_n (at_of tX10_changeAhead 0 12 rfl) rfl ?_
        refine go_cV (m_waits hS hN hE hSg hMk hmk) lk_X10_144 rfl G_109 (at_of tX10_changeAhead 0 13 rfl) rfl (by decide) rfl (Nat.le_of_ble_eq_true rfl) rfl (by first | decide | exact ⟨Nat.zero_le _, Nat.zero_le _⟩) ?_
        refine go_if_eq (tgt := 43) (at_of tX10_changeAhead 0 14 rfl) (by decide) (fun h22 => ?_) (fun h22 => ?_)
        · exfalso; exact bI_0.mp h22 hw
        refine go_aload_n (at_of tX10_changeAhead 0 15 rfl) rfl ?_
        refine go_getr (q := 110) fl_X10_7 rfl G_109 ((hS _ _ rfl).trans rfl) (at_of tX10_changeAhead 1 0 rfl) ?_
        refine go_sipush (at_of tX10_changeAhead 1 1 rfl) (by decide) ?_
        refine go_iload_n (at_of tX10_changeAhead 1 2 rfl) rfl ?_
        refine go_iadd (at_of tX10_changeAhead 1 3 rfl) (by unfold in32; omega) ?_
        refine go_iald G_110 (by omega) (by omega) (at_of tX10_changeAhead 1 4 rfl) ?_
        refine go_iload_n (at_of tX10_changeAhead 1 5 rfl) rfl ?_
        refine go_icmp_ne (tgt := 43) (at_of tX10_changeAhead 1 6 rfl) (by decide) (fun h36 => ?_) (fun h36 => ?_)
        rotate_left
        · exfalso; omega
        refine go_iconst (at_of tX10_changeAhead 1 9 rfl) (by unfold in32; omega) ?_
        first | exact go_reti (at_of tX10_changeAhead 1 10 rfl) rfl | exact go_reti (at_of tX10_changeAhead 1 10 rfl) (le_i (by omega)) | exact go_reti (at_of tX10_changeAhead 1 10 rfl) (le_i (by first | exact bI_t (by omega) | exact bI_f (by omega)))
    · rw [if_neg (fun q => hw ⟨by have := (of_decide_eq_true q.2).1; omega, (of_decide_eq_true q.2).2.2.1⟩)]
      refine con_of_go mfX10_changeAhead.1 trivial (Nat.le_of_ble_eq_true rfl) rfl (by decide) ?_
      show Go _ _ _ _ 0 [vA _, vI _, vI _, vT 9 0] [] _ _
      refine go_iload_n (at_of tX10_changeAhead 0 0 rfl) rfl ?_
      refine go_if_ne (tgt := 8) (at_of tX10_changeAhead 0 1 rfl) (by decide) (fun h1 => ?_) (fun h1 => ?_)
      rotate_left
      · exfalso; omega
      refine go_aload_n (at_of tX10_changeAhead 0 4 rfl) rfl ?_
      refine go_iload_n (at_of tX10_changeAhead 0 5 rfl) rfl ?_
      refine go_iconst (at_of tX10_changeAhead 0 6 rfl) (by unfold in32; omega) ?_
      refine go_isub (at_of tX10_changeAhead 0 7 rfl) (by unfold in32; omega) ?_
      refine go_iconst (at_of tX10_changeAhead 0 8 rfl) (by unfold in32; omega) ?_
      refine go_cV (m_at1 hS hN.1 (by omega)) lk_X10_106 rfl G_109 (at_of tX10_changeAhead 0 9 rfl) rfl (by decide) rfl (Nat.le_of_ble_eq_true rfl) rfl (by first | decide | exact ⟨Nat.zero_le _, Nat.zero_le _⟩) ?_
      refine go_istore_n (at_of tX10_changeAhead 0 10 rfl) rfl rfl ?_
      refine go_aload_n (at_of tX10_changeAhead 0 11 rfl) rfl ?_
      refine go_iload_n (at_of tX10_changeAhead 0 12 rfl) rfl ?_
      refine go_cV (m_waits hS hN hE hSg hMk hmk) lk_X10_144 rfl G_109 (at_of tX10_changeAhead 0 13 rfl) rfl (by decide) rfl (Nat.le_of_ble_eq_true rfl) rfl (by first | decide | exact ⟨Nat.zero_le _, Nat.zero_le _⟩) ?_
      refine go_if_eq (tgt := 43) (at_of tX10_changeAhead 0 14 rfl) (by decide) (fun h22 => ?_) (fun h22 => ?_)
      rotate_left
      · exfalso; exact hw (bI_1.mp h22)
      refine go_iconst (at_of tX10_changeAhead 1 9 rfl) (by unfold in32; omega) ?_
      first | exact go_reti (at_of tX10_changeAhead 1 10 rfl) rfl | exact go_reti (at_of tX10_changeAhead 1 10 rfl) (le_i (by omega)) | exact go_reti (at_of tX10_changeAhead 1 10 rfl) (le_i (by first | exact bI_t (by omega) | exact bI_f (by omega)))
theorem m_isOwn (hS : Str σ.2.1) {D : PapD} (hN : RepN (cN σ) D) (hE : LastE D.1) (hSg : SgW D.1) (hMk : MkB D.1 D.2.1) {u a : Int} (hu : 0 ≤ u ∧ u ≤ D.1.2.1) : Con 1 mX10_isOwn 0 0 [vA 109, vI u, vI a] σ (vI (bI (waitsD D.2.1 (D.1.1 2 u) a = true)), σ) := by
  obtain ⟨e1, e2, e3, e4⟩ := id hE
  obtain ⟨b1, b2, b3, b4⟩ := id hN.2.2.2
  have hl := hN.2.1.2
  unfold waitsD
  have hmk := hMk u (by omega) (by omega)
  by_cases hw : (D.1.1 2 u) ≠ -1 ∧ D.2.1.2.2.2 (D.1.1 2 u) = 119
  · have z : σ.1 110 (3013 + (D.1.1 2 u)).toNat = D.2.1.2.2.1 (D.1.1 2 u) := (hl (D.1.1 2 u) (by omega) (by omega)).1
    by_cases ha : D.2.1.2.2.1 (D.1.1 2 u) = a
    · rw [bI_t (decide_eq_true ⟨by omega, by omega, hw.2, ha⟩)]
      refine con_of_go mfX10_isOwn.1 (Or.inr rfl) (Nat.le_of_ble_eq_true rfl) rfl (by decide) ?_
      show Go _ _ _ _ 0 [vA _, vI _, vI _, vT 9 0] [] _ _
      refine go_aload_n (at_of tX10_isOwn 0 0 rfl) rfl ?_
      refine go_iload_n (at_of tX10_isOwn 0 1 rfl) rfl ?_
      refine go_iconst (at_of tX10_isOwn 0 2 rfl) (by unfold in32; omega) ?_
      refine go_cV (m_at1 hS hN.1 (by omega)) lk_X10_106 rfl G_109 (at_of tX10_isOwn 0 3 rfl) rfl (by decide) rfl (Nat.le_of_ble_eq_true rfl) rfl (by first | decide | exact ⟨Nat.zero_le _, Nat.zero_le _⟩) ?_
      refine go_istore_n (at_of tX10_isOwn 0 4 rfl) rfl rfl ?_
      refine go_aload_n (at_of tX10_isOwn 0 5 rfl) rfl ?_
      refine go_iload_n (at_of tX10_isOwn 0 6 rfl) rfl ?_
      refine go_cV (m_waits hS hN hE hSg hMk hmk) lk_X10_144 rfl G_109 (at_of tX10_isOwn 0 7 rfl) rfl (by decide) rfl (Nat.le_of_ble_eq_true rfl) rfl (by first | decide | exact ⟨Nat.zero_le _, Nat.zero_le _⟩) ?_
      refine go_if_eq (tgt := 33) (at_of tX10_isOwn 0 8 rfl) (by decide) (fun h12 => ?_) (fun h12 => ?_)
      · exfalso; exact bI_0.mp h12 hw
      refine go_aload_n (at_of tX10_isOwn 0 9 rfl) rfl ?_
      refine go_getr (q := 110) fl_X10_7 rfl G_109 ((hS _ _ rfl).trans rfl) (at_of tX10_isOwn 0 10 rfl) ?_
      refine go_sipush (at_of tX10_isOwn 0 11 rfl) (by decide) ?_
      refine go_iload_n (at_of tX10_isOwn 0 12 rfl) rfl ?_
      refine go_iadd (at_of tX10_isOwn 0 13 rfl) (by unfold in32; omega) ?_
      refine go_iald G_110 (by omega) (by omega) (at_of tX10_isOwn 0 14 rfl) ?_
      refine go_iload_n (at_of tX10_isOwn 0 15 rfl) rfl ?_
      refine go_icmp_ne (tgt := 33) (at_of tX10_isOwn 1 0 rfl) (by decide) (fun h26 => ?_) (fun h26 => ?_)
      · exfalso; omega
      refine go_iconst (at_of tX10_isOwn 1 1 rfl) (by unfold in32; omega) ?_
      refine go_goto (tgt := 34) (at_of tX10_isOwn 1 2 rfl) (by decide) ?_
      first | exact go_reti (at_of tX10_isOwn 1 4 rfl) rfl | exact go_reti (at_of tX10_isOwn 1 4 rfl) (le_i (by omega)) | exact go_reti (at_of tX10_isOwn 1 4 rfl) (le_i (by first | exact bI_t (by omega) | exact bI_f (by omega)))
    · rw [bI_f (fun q => ha (of_decide_eq_true q).2.2.2)]
      refine con_of_go mfX10_isOwn.1 (Or.inl rfl) (Nat.le_of_ble_eq_true rfl) rfl (by decide) ?_
      show Go _ _ _ _ 0 [vA _, vI _, vI _, vT 9 0] [] _ _
      refine go_aload_n (at_of tX10_isOwn 0 0 rfl) rfl ?_
      refine go_iload_n (at_of tX10_isOwn 0 1 rfl) rfl ?_
      refine go_iconst (at_of tX10_isOwn 0 2 rfl) (by unfold in32; omega) ?_
      refine go_cV (m_at1 hS hN.1 (by omega)) lk_X10_106 rfl G_109 (at_of tX10_isOwn 0 3 rfl) rfl (by decide) rfl (Nat.le_of_ble_eq_true rfl) rfl (by first | decide | exact ⟨Nat.zero_le _, Nat.zero_le _⟩) ?_
      refine go_istore_n (at_of tX10_isOwn 0 4 rfl) rfl rfl ?_
      refine go_aload_n (at_of tX10_isOwn 0 5 rfl) rfl ?_
      refine go_iload_n (at_of tX10_isOwn 0 6 rfl) rfl ?_
      refine go_cV (m_waits hS hN hE hSg hMk hmk) lk_X10_144 rfl G_109 (at_of tX10_isOwn 0 7 rfl) rfl (by decide) rfl (Nat.le_of_ble_eq_true rfl) rfl (by first | decide | exact ⟨Nat.zero_le _, Nat.zero_le _⟩) ?_
      refine go_if_eq (tgt := 33) (at_of tX10_isOwn 0 8 rfl) (by decide) (fun h12 => ?_) (fun h12 => ?_)
      · exfalso; exact bI_0.mp h12 hw
      refine go_aload_n (at_of tX10_isOwn 0 9 rfl) rfl ?_
      refine go_getr (q := 110) fl_X10_7 rfl G_109 ((hS _ _ rfl).trans rfl) (at_of tX10_isOwn 0 10 rfl) ?_
      refine go_sipush (at_of tX10_isOwn 0 11 rfl) (by decide) ?_
      refine go_iload_n (at_of tX10_isOwn 0 12 rfl) rfl ?_
      refine go_iadd (at_of tX10_isOwn 0 13 rfl) (by unfold in32; omega) ?_
      refine go_iald G_110 (by omega) (by omega) (at_of tX10_isOwn 0 14 rfl) ?_
      refine go_iload_n (at_of tX10_isOwn 0 15 rfl) rfl ?_
      refine go_icmp_ne (tgt := 33) (at_of tX10_isOwn 1 0 rfl) (by decide) (fun h26 => ?_) (fun h26 => ?_)
      rotate_left
      · exfalso; omega
      refine go_iconst (at_of tX10_isOwn 1 3 rfl) (by unfold in32; omega) ?_
      first | exact go_reti (at_of tX10_isOwn 1 4 rfl) rfl | exact go_reti (at_of tX10_isOwn 1 4 rfl) (le_i (by omega)) | exact go_reti (at_of tX10_isOwn 1 4 rfl) (le_i (by first | exact bI_t (by omega) | exact bI_f (by omega)))
  · rw [bI_f (fun q => hw ⟨by have := (of_decide_eq_true q).1; omega, (of_decide_eq_true q).2.2.1⟩)]
    refine con_of_go mfX10_isOwn.1 (Or.inl rfl) (Nat.le_of_ble_eq_true rfl) rfl (by decide) ?_
    show Go _ _ _ _ 0 [vA _, vI _, vI _, vT 9 0] [] _ _
    refine go_aload_n (at_of tX10_isOwn 0 0 rfl) rfl ?_
    refine go_iload_n (at_of tX10_isOwn 0 1 rfl) rfl ?_
    refine go_iconst (at_of tX10_isOwn 0 2 rfl) (by unfold in32; omega) ?_
    refine go_cV (m_at1 hS hN.1 (by omega)) lk_X10_106 rfl G_109 (at_of tX10_isOwn 0 3 rfl) rfl (by decide) rfl (Nat.le_of_ble_eq_true rfl) rfl (by first | decide | exact ⟨Nat.zero_le _, Nat.zero_le _⟩) ?_
    refine go_istore_n (at_of tX10_isOwn 0 4 rfl) rfl rfl ?_
    refine go_aload_n (at_of tX10_isOwn 0 5 rfl) rfl ?_
    refine go_iload_n (at_of tX10_isOwn 0 6 rfl) rfl ?_
    refine go_cV (m_waits hS hN hE hSg hMk hmk) lk_X10_144 rfl G_109 (at_of tX10_isOwn 0 7 rfl) rfl (by decide) rfl (Nat.le_of_ble_eq_true rfl) rfl (by first | decide | exact ⟨Nat.zero_le _, Nat.zero_le _⟩) ?_
    refine go_if_eq (tgt := 33) (at_of tX10_isOwn 0 8 rfl) (by decide) (fun h12 => ?_) (fun h12 => ?_)
    rotate_left
    · exfalso; exact hw (bI_1.mp h12)
    refine go_iconst (at_of tX10_isOwn 1 3 rfl) (by unfold in32; omega) ?_
    first | exact go_reti (at_of tX10_isOwn 1 4 rfl) rfl | exact go_reti (at_of tX10_isOwn 1 4 rfl) (le_i (by omega)) | exact go_reti (at_of tX10_isOwn 1 4 rfl) (le_i (by first | exact bI_t (by omega) | exact bI_f (by omega)))
theorem m_isGuarded (hS : Str σ.2.1) {D : PapD} (hN : RepN (cN σ) D) (hE : LastE D.1) (hSg : SgW D.1) (hMk : MkB D.1 D.2.1) {u : Int} (hu : 0 ≤ u ∧ u ≤ D.1.2.1) : Con 3 mX10_isGuarded 0 0 [vA 109, vI u] σ (vI (bI (D.1.1 10 (endFr D.1.1 D.1.2.1 u) = 1)), σ) := by
  obtain ⟨e1, e2, e3, e4⟩ := id hE
  obtain ⟨b1, b2, b3, b4⟩ := id hN.2.2.2
  have hl := hN.2.1.2
  obtain ⟨v1, v2, v3, v4⟩ := endFr_end hE hu.1 hu.2
  refine con_of_go mfX10_isGuarded.1 bI_01 (Nat.le_of_ble_eq_true rfl) rfl (by decide) ?_
  show Go _ _ _ _ 0 [vA _, vI _] [] _ _
  refine go_aload_n (at_of tX10_isGuarded 0 0 rfl) rfl ?_
  refine go_aload_n (at_of tX10_isGuarded 0 1 rfl) rfl ?_
  refine go_iload_n (at_of tX10_isGuarded 0 2 rfl) rfl ?_
  refine go_cV (m_endOf hS hN.1 hE hSg (by omega)) lk_X10_147 rfl G_109 (at_of tX10_isGuarded 0 3 rfl) rfl (by decide) rfl (Nat.le_of_ble_eq_true rfl) rfl (by first | decide | exact ⟨Nat.zero_le _, Nat.zero_le _⟩) ?_
  refine go_bipush (at_of tX10_isGuarded 0 4 rfl) (by decide) ?_
  refine go_cV (m_at7 hS hN.1 (by omega) v4) lk_X10_106 rfl G_109 (at_of tX10_isGuarded 0 5 rfl) rfl (by decide) rfl (Nat.le_of_ble_eq_true rfl) rfl (by first | decide | exact ⟨Nat.zero_le _, Nat.zero_le _⟩) ?_
  refine go_iconst (at_of tX10_isGuarded 0 6 rfl) (by unfold in32; omega) ?_
  refine go_icmp_ne (tgt := 19) (at_of tX10_isGuarded 0 7 rfl) (by decide) (fun h12 => ?_) (fun h12 => ?_)
  · first
    | exfalso; omega
    | refine go_iconst (at_of tX10_isGuarded 0 10 rfl) (by unfold in32; omega) ?_
      first | exact go_reti (at_of tX10_isGuarded 0 11 rfl) rfl | exact go_reti (at_of tX10_isGuarded 0 11 rfl) (le_i (by omega)) | exact go_reti (at_of tX10_isGuarded 0 11 rfl) (le_i (by first | exact bI_t (by omega) | exact bI_f (by omega)))
  · first
    | exfalso; omega
    | refine go_iconst (at_of tX10_isGuarded 0 8 rfl) (by unfold in32; omega) ?_
      refine go_goto (tgt := 20) (at_of tX10_isGuarded 0 9 rfl) (by decide) ?_
      first | exact go_reti (at_of tX10_isGuarded 0 11 rfl) rfl | exact go_reti (at_of tX10_isGuarded 0 11 rfl) (le_i (by omega)) | exact go_reti (at_of tX10_isGuarded 0 11 rfl) (le_i (by first | exact bI_t (by omega) | exact bI_f (by omega)))
/-- what stands against writing -/
def wfE (D : PapD) (tr : Bool) (a p : Int) (fine full : Bool) : Int :=
  if ¬ ((0 ≤ a ∧ a ≤ 3) ∧ 0 ≤ p ∧ p ≤ plOf D.1.1 D.1.2.1 D.1.2.1) then 1 else if fine = false then 2
  else if full = true ∨ D.1.2.1 = 200 ∨ (tr = true ∧ chAhD D a (ixOf D.1.1 D.1.2.1 p) = -1 ∧ D.2.1.1 = 60) then 3 else if D.1.1 10 (endFr D.1.1 D.1.2.1 (ixOf D.1.1 D.1.2.1 p)) = 1 then 4 else 0
theorem m_writeFault (hS : Str σ.2.1) {D : PapD} (hN : RepN (cN σ) D) (hE : LastE D.1) (hSg : SgW D.1) (hMk : MkB D.1 D.2.1) {tr fine full : Bool} (htr : σ.1 109 6 = bI (tr = true)) {a p : Int} : Con 4 mX10_writeFault 0 0 [vA 109, vI a, vI p, vI (bI (fine = true)), vI (bI (full = true))] σ (vI (wfE D tr a p fine full), σ) := by
  obtain ⟨e1, e2, e3, e4⟩ := id hE
  obtain ⟨b1, b2, b3, b4⟩ := id hN.2.2.2
  have hl := hN.2.1.2
  unfold wfE
  by_cases ha : 0 ≤ a ∧ a ≤ 3
  · by_cases hp : 0 ≤ p ∧ p ≤ plOf D.1.1 D.1.2.1 D.1.2.1
    · rw [if_neg (fun q => q ⟨ha, hp⟩)]
      cases fine with
      | false =>
        rw [if_pos rfl]
        refine con_of_go mfX10_writeFault.1 trivial (Nat.le_of_ble_eq_true rfl) rfl (by decide) ?_
        show Go _ _ _ _ 0 [vA _, vI _, vI _, vI _, vI _, vT 9 0, vT 9 0, vT 9 0] [] _ _
        refine go_iload_n (at_of tX10_writeFault 0 0 rfl) rfl ?_
        refine go_cS (m_isAuthor) lk_X10_151 rfl (at_of tX10_writeFault 0 1 rfl) rfl (by decide) rfl (Nat.le_of_ble_eq_true rfl) rfl (by first | decide | exact ⟨Nat.zero_le _, Nat.zero_le _⟩) ?_
        refine go_if_eq (tgt := 15) (at_of tX10_writeFault 0 2 rfl) (by decide) (fun h4 => ?_) (fun h4 => ?_)
        · exfalso; exact bI_0.mp h4 ha
        refine go_aload_n (at_of tX10_writeFault 0 3 rfl) rfl ?_
        refine go_iload_n (at_of tX10_writeFault 0 4 rfl) rfl ?_
        refine go_cV (m_isPlace hS hN.1 hE hSg) lk_X10_154 rfl G_109 (at_of tX10_writeFault 0 5 rfl) rfl (by decide) rfl (Nat.le_of_ble_eq_true rfl) rfl (by first | decide | exact ⟨Nat.zero_le _, Nat.zero_le _⟩) ?_
        refine go_if_ne (tgt := 17) (at_of tX10_writeFault 0 6 rfl) (by decide) (fun h12 => ?_) (fun h12 => ?_)
        rotate_left
        · exfalso; exact bI_0.mp h12 hp
        refine go_iload_n (at_of tX10_writeFault 0 9 rfl) rfl ?_
        refine go_if_ne (tgt := 23) (at_of tX10_writeFault 0 10 rfl) (by decide) (fun h18 => ?_) (fun h18 => ?_)
        · exfalso; exact h18 rfl
        refine go_iconst (at_of tX10_writeFault 0 11 rfl) (by unfold in32; omega) ?_
        first | exact go_reti (at_of tX10_writeFault 0 12 rfl) rfl | exact go_reti (at_of tX10_writeFault 0 12 rfl) (le_i (by omega)) | exact go_reti (at_of tX10_writeFault 0 12 rfl) (le_i (by first | exact bI_t (by omega) | exact bI_f (by omega)))
      | true =>
        rw [if_neg (by decide)]
        obtain ⟨u1, u2, u3, u4⟩ := place_ix hE hp.1 hp.2
        have hcc : σ.1 110 (3011 : Int).toNat = D.2.1.1 := hN.2.1.1
        obtain ⟨ca, hca⟩ : ∃ ca, ca = chAhD D a (ixOf D.1.1 D.1.2.1 p) := ⟨_, rfl⟩
        rw [← hca]
        obtain ⟨gd, hgd⟩ : ∃ gd, gd = D.1.1 10 (endFr D.1.1 D.1.2.1 (ixOf D.1.1 D.1.2.1 p)) := ⟨_, rfl⟩
        have mca := m_changeAhead hS hN hE hSg hMk (u := ixOf D.1.1 D.1.2.1 p) (a := a) ⟨u1, u2⟩
        have mgd := m_isGuarded hS hN hE hSg hMk (u := ixOf D.1.1 D.1.2.1 p) ⟨u1, u2⟩
        rw [← hca] at mca
        rw [← hgd] at mgd ⊢
        cases full with
        | true =>
          rw [if_pos (Or.inl rfl)]
          cases tr with
          | true =>
            by_cases h5 : ca = -1
            · skip
              refine con_of_go mfX10_writeFault.1 trivial (Nat.le_of_ble_eq_true rfl) rfl (by decide) ?_
              show Go _ _ _ _ 0 [vA _, vI _, vI _, vI _, vI _, vT 9 0, vT 9 0, vT 9 0] [] _ _
              refine go_iload_n (at_of tX10_writeFault 0 0 rfl) rfl ?_
              refine go_cS (m_isAuthor) lk_X10_151 rfl (at_of tX10_writeFault 0 1 rfl) rfl (by decide) rfl (Nat.le_of_ble_eq_true rfl) rfl (by first | decide | exact ⟨Nat.zero_le _, Nat.zero_le _⟩) ?_
              refine go_if_eq (tgt := 15) (at_of tX10_writeFault 0 2 rfl) (by decide) (fun h4 => ?_) (fun h4 => ?_)
              · exfalso; exact bI_0.mp h4 ha
              refine go_aload_n (at_of tX10_writeFault 0 3 rfl) rfl ?_
              refine go_iload_n (at_of tX10_writeFault 0 4 rfl) rfl ?_
              refine go_cV (m_isPlace hS hN.1 hE hSg) lk_X10_154 rfl G_109 (at_of tX10_writeFault 0 5 rfl) rfl (by decide) rfl (Nat.le_of_ble_eq_true rfl) rfl (by first | decide | exact ⟨Nat.zero_le _, Nat.zero_le _⟩) ?_
              refine go_if_ne (tgt := 17) (at_of tX10_writeFault 0 6 rfl) (by decide) (fun h12 => ?_) (fun h12 => ?_)
              rotate_left
              · exfalso; exact bI_0.mp h12 hp
              refine go_iload_n (at_of tX10_writeFault 0 9 rfl) rfl ?_
              refine go_if_ne (tgt := 23) (at_of tX10_writeFault 0 10 rfl) (by decide) (fun h18 => ?_) (fun h18 => ?_)
              rotate_left
              · exfalso; exact absurd h18 (by decide)
              refine go_aload_n (at_of tX10_writeFault 0 13 rfl) rfl ?_
              refine go_iload_n (at_of tX10_writeFault 0 14 rfl) rfl ?_
              refine go_cV (m_unitOf hS hN.1 hE hSg (by omega) (by omega)) lk_X10_157 rfl G_109 (at_of tX10_writeFault 0 15 rfl) rfl (by decide) rfl (Nat.le_of_ble_eq_true rfl) rfl (by first | decide | exact ⟨Nat.zero_le _, Nat.zero_le _⟩) ?_
              refine go_istore (at_of tX10_writeFault 1 0 rfl) rfl rfl ?_
              refine go_aload_n (at_of tX10_writeFault 1 1 rfl) rfl ?_
              refine go_getf fl_X10_19 rfl G_109 (at_of tX10_writeFault 1 2 rfl) ?_
              refine go_if_eq (tgt := 52) (at_of tX10_writeFault 1 3 rfl) (by decide) (fun h34 => ?_) (fun h34 => ?_)
              · exfalso; rw [htr] at h34; exact absurd h34 (by decide)
              refine go_aload_n (at_of tX10_writeFault 1 4 rfl) rfl ?_
              refine go_iload (at_of tX10_writeFault 1 5 rfl) rfl rfl ?_
              refine go_iload_n (at_of tX10_writeFault 1 6 rfl) rfl ?_
              refine go_cV (mca) lk_X10_160 rfl G_109 (at_of tX10_writeFault 1 7 rfl) rfl (by decide) rfl (Nat.le_of_ble_eq_true rfl) rfl (by first | decide | exact ⟨Nat.zero_le _, Nat.zero_le _⟩) ?_
              refine go_iconst (at_of tX10_writeFault 1 8 rfl) (by unfold in32; omega) ?_
              refine go_icmp_ne (tgt := 52) (at_of tX10_writeFault 1 9 rfl) (by decide) (fun h45 => ?_) (fun h45 => ?_)
              · exfalso; omega
              refine go_iconst (at_of tX10_writeFault 1 10 rfl) (by unfold in32; omega) ?_
              refine go_goto (tgt := 53) (at_of tX10_writeFault 1 11 rfl) (by decide) ?_
              refine go_istore (at_of tX10_writeFault 1 13 rfl) rfl rfl ?_
              refine go_iload (at_of tX10_writeFault 1 14 rfl) rfl rfl ?_
              refine go_if_ne (tgt := 88) (at_of tX10_writeFault 1 15 rfl) (by decide) (fun h57 => ?_) (fun h57 => ?_)
              rotate_left
              · exfalso; exact absurd h57 (by decide)
              refine go_iconst (at_of tX10_writeFault 2 12 rfl) (by unfold in32; omega) ?_
              refine go_goto (tgt := 93) (at_of tX10_writeFault 2 13 rfl) (by decide) ?_
              refine go_istore (at_of tX10_writeFault 2 15 rfl) rfl rfl ?_
              refine go_iload (at_of tX10_writeFault 3 0 rfl) rfl rfl ?_
              refine go_if_eq (tgt := 104) (at_of tX10_writeFault 3 1 rfl) (by decide) (fun h97 => ?_) (fun h97 => ?_)
              · exfalso; omega
              refine go_iconst (at_of tX10_writeFault 3 2 rfl) (by unfold in32; omega) ?_
              refine go_goto (tgt := 118) (at_of tX10_writeFault 3 3 rfl) (by decide) ?_
              first | exact go_reti (at_of tX10_writeFault 3 11 rfl) rfl | exact go_reti (at_of tX10_writeFault 3 11 rfl) (le_i (by omega)) | exact go_reti (at_of tX10_writeFault 3 11 rfl) (le_i (by first | exact bI_t (by omega) | exact bI_f (by omega)))
            · skip
              refine con_of_go mfX10_writeFault.1 trivial (Nat.le_of_ble_eq_true rfl) rfl (by decide) ?_
              show Go _ _ _ _ 0 [vA _, vI _, vI _, vI _, vI _, vT 9 0, vT 9 0, vT 9 0] [] _ _
              refine go_iload_n (at_of tX10_writeFault 0 0 rfl) rfl ?_
              refine go_cS (m_isAuthor) lk_X10_151 rfl (at_of tX10_writeFault 0 1 rfl) rfl (by decide) rfl (Nat.le_of_ble_eq_true rfl) rfl (by first | decide | exact ⟨Nat.zero_le _, Nat.zero_le _⟩) ?_
              refine go_if_eq (tgt := 15) (at_of tX10_writeFault 0 2 rfl) (by decide) (fun h4 => ?_) (fun h4 => ?_)
              · exfalso; exact bI_0.mp h4 ha
              refine go_aload_n (at_of tX10_writeFault 0 3 rfl) rfl ?_
              refine go_iload_n (at_of tX10_writeFault 0 4 rfl) rfl ?_
              refine go_cV (m_isPlace hS hN.1 hE hSg) lk_X10_154 rfl G_109 (at_of tX10_writeFault 0 5 rfl) rfl (by decide) rfl (Nat.le_of_ble_eq_true rfl) rfl (by first | decide | exact ⟨Nat.zero_le _, Nat.zero_le _⟩) ?_
              refine go_if_ne (tgt := 17) (at_of tX10_writeFault 0 6 rfl) (by decide) (fun h12 => ?_) (fun h12 => ?_)
              rotate_left
              · exfalso; exact bI_0.mp h12 hp
              refine go_iload_n (at_of tX10_writeFault 0 9 rfl) rfl ?_
              refine go_if_ne (tgt := 23) (at_of tX10_writeFault 0 10 rfl) (by decide) (fun h18 => ?_) (fun h18 => ?_)
              rotate_left
              · exfalso; exact absurd h18 (by decide)
              refine go_aload_n (at_of tX10_writeFault 0 13 rfl) rfl ?_
              refine go_iload_n (at_of tX10_writeFault 0 14 rfl) rfl ?_
              refine go_cV (m_unitOf hS hN.1 hE hSg (by omega) (by omega)) lk_X10_157 rfl G_109 (at_of tX10_writeFault 0 15 rfl) rfl (by decide) rfl (Nat.le_of_ble_eq_true rfl) rfl (by first | decide | exact ⟨Nat.zero_le _, Nat.zero_le _⟩) ?_
              refine go_istore (at_of tX10_writeFault 1 0 rfl) rfl rfl ?_
              refine go_aload_n (at_of tX10_writeFault 1 1 rfl) rfl ?_
              refine go_getf fl_X10_19 rfl G_109 (at_of tX10_writeFault 1 2 rfl) ?_
              refine go_if_eq (tgt := 52) (at_of tX10_writeFault 1 3 rfl) (by decide) (fun h34 => ?_) (fun h34 => ?_)
              · exfalso; rw [htr] at h34; exact absurd h34 (by decide)
              refine go_aload_n (at_of tX10_writeFault 1 4 rfl) rfl ?_
              refine go_iload (at_of tX10_writeFault 1 5 rfl) rfl rfl ?_
              refine go_iload_n (at_of tX10_writeFault 1 6 rfl) rfl ?_
              refine go_cV (mca) lk_X10_160 rfl G_109 (at_of tX10_writeFault 1 7 rfl) rfl (by decide) rfl (Nat.le_of_ble_eq_true rfl) rfl (by first | decide | exact ⟨Nat.zero_le _, Nat.zero_le _⟩) ?_
              refine go_iconst (at_of tX10_writeFault 1 8 rfl) (by unfold in32; omega) ?_
              refine go_icmp_ne (tgt := 52) (at_of tX10_writeFault 1 9 rfl) (by decide) (fun h45 => ?_) (fun h45 => ?_)
              rotate_left
              · exfalso; omega
              refine go_iconst (at_of tX10_writeFault 1 12 rfl) (by unfold in32; omega) ?_
              refine go_istore (at_of tX10_writeFault 1 13 rfl) rfl rfl ?_
              refine go_iload (at_of tX10_writeFault 1 14 rfl) rfl rfl ?_
              refine go_if_ne (tgt := 88) (at_of tX10_writeFault 1 15 rfl) (by decide) (fun h57 => ?_) (fun h57 => ?_)
              rotate_left
              · exfalso; exact absurd h57 (by decide)
              refine go_iconst (at_of tX10_writeFault 2 12 rfl) (by unfold in32; omega) ?_
              refine go_goto (tgt := 93) (at_of tX10_writeFault 2 13 rfl) (by decide) ?_
              refine go_istore (at_of tX10_writeFault 2 15 rfl) rfl rfl ?_
              refine go_iload (at_of tX10_writeFault 3 0 rfl) rfl rfl ?_
              refine go_if_eq (tgt := 104) (at_of tX10_writeFault 3 1 rfl) (by decide) (fun h97 => ?_) (fun h97 => ?_)
              · exfalso; omega
              refine go_iconst (at_of tX10_writeFault 3 2 rfl) (by unfold in32; omega) ?_
              refine go_goto (tgt := 118) (at_of tX10_writeFault 3 3 rfl) (by decide) ?_
              first | exact go_reti (at_of tX10_writeFault 3 11 rfl) rfl | exact go_reti (at_of tX10_writeFault 3 11 rfl) (le_i (by omega)) | exact go_reti (at_of tX10_writeFault 3 11 rfl) (le_i (by first | exact bI_t (by omega) | exact bI_f (by omega)))
          | false =>
            refine con_of_go mfX10_writeFault.1 trivial (Nat.le_of_ble_eq_true rfl) rfl (by decide) ?_
            show Go _ _ _ _ 0 [vA _, vI _, vI _, vI _, vI _, vT 9 0, vT 9 0, vT 9 0] [] _ _
            refine go_iload_n (at_of tX10_writeFault 0 0 rfl) rfl ?_
            refine go_cS (m_isAuthor) lk_X10_151 rfl (at_of tX10_writeFault 0 1 rfl) rfl (by decide) rfl (Nat.le_of_ble_eq_true rfl) rfl (by first | decide | exact ⟨Nat.zero_le _, Nat.zero_le _⟩) ?_
            refine go_if_eq (tgt := 15) (at_of tX10_writeFault 0 2 rfl) (by decide) (fun h4 => ?_) (fun h4 => ?_)
            · exfalso; exact bI_0.mp h4 ha
            refine go_aload_n (at_of tX10_writeFault 0 3 rfl) rfl ?_
            refine go_iload_n (at_of tX10_writeFault 0 4 rfl) rfl ?_
            refine go_cV (m_isPlace hS hN.1 hE hSg) lk_X10_154 rfl G_109 (at_of tX10_writeFault 0 5 rfl) rfl (by decide) rfl (Nat.le_of_ble_eq_true rfl) rfl (by first | decide | exact ⟨Nat.zero_le _, Nat.zero_le _⟩) ?_
            refine go_if_ne (tgt := 17) (at_of tX10_writeFault 0 6 rfl) (by decide) (fun h12 => ?_) (fun h12 => ?_)
            rotate_left
            · exfalso; exact bI_0.mp h12 hp
            refine go_iload_n (at_of tX10_writeFault 0 9 rfl) rfl ?_
            refine go_if_ne (tgt := 23) (at_of tX10_writeFault 0 10 rfl) (by decide) (fun h18 => ?_) (fun h18 => ?_)
            rotate_left
            · exfalso; exact absurd h18 (by decide)
            refine go_aload_n (at_of tX10_writeFault 0 13 rfl) rfl ?_
            refine go_iload_n (at_of tX10_writeFault 0 14 rfl) rfl ?_
            refine go_cV (m_unitOf hS hN.1 hE hSg (by omega) (by omega)) lk_X10_157 rfl G_109 (at_of tX10_writeFault 0 15 rfl) rfl (by decide) rfl (Nat.le_of_ble_eq_true rfl) rfl (by first | decide | exact ⟨Nat.zero_le _, Nat.zero_le _⟩) ?_
            refine go_istore (at_of tX10_writeFault 1 0 rfl) rfl rfl ?_
            refine go_aload_n (at_of tX10_writeFault 1 1 rfl) rfl ?_
            refine go_getf fl_X10_19 rfl G_109 (at_of tX10_writeFault 1 2 rfl) ?_
            refine go_if_eq (tgt := 52) (at_of tX10_writeFault 1 3 rfl) (by decide) (fun h34 => ?_) (fun h34 => ?_)
            rotate_left
            · exfalso; rw [htr] at h34; exact h34 (by decide)
            refine go_iconst (at_of tX10_writeFault 1 12 rfl) (by unfold in32; omega) ?_
            refine go_istore (at_of tX10_writeFault 1 13 rfl) rfl rfl ?_
            refine go_iload (at_of tX10_writeFault 1 14 rfl) rfl rfl ?_
            refine go_if_ne (tgt := 88) (at_of tX10_writeFault 1 15 rfl) (by decide) (fun h57 => ?_) (fun h57 => ?_)
            rotate_left
            · exfalso; exact absurd h57 (by decide)
            refine go_iconst (at_of tX10_writeFault 2 12 rfl) (by unfold in32; omega) ?_
            refine go_goto (tgt := 93) (at_of tX10_writeFault 2 13 rfl) (by decide) ?_
            refine go_istore (at_of tX10_writeFault 2 15 rfl) rfl rfl ?_
            refine go_iload (at_of tX10_writeFault 3 0 rfl) rfl rfl ?_
            refine go_if_eq (tgt := 104) (at_of tX10_writeFault 3 1 rfl) (by decide) (fun h97 => ?_) (fun h97 => ?_)
            · exfalso; omega
            refine go_iconst (at_of tX10_writeFault 3 2 rfl) (by unfold in32; omega) ?_
            refine go_goto (tgt := 118) (at_of tX10_writeFault 3 3 rfl) (by decide) ?_
            first | exact go_reti (at_of tX10_writeFault 3 11 rfl) rfl | exact go_reti (at_of tX10_writeFault 3 11 rfl) (le_i (by omega)) | exact go_reti (at_of tX10_writeFault 3 11 rfl) (le_i (by first | exact bI_t (by omega) | exact bI_f (by omega)))
        | false =>
          by_cases h200 : D.1.2.1 = 200
          · rw [if_pos (Or.inr (Or.inl h200))]
            cases tr with
            | true =>
              by_cases h5 : ca = -1
              · skip
                refine con_of_go mfX10_writeFault.1 trivial (Nat.le_of_ble_eq_true rfl) rfl (by decide) ?_
                show Go _ _ _ _ 0 [vA _, vI _, vI _, vI _, vI _, vT 9 0, vT 9 0, vT 9 0] [] _ _
                refine go_iload_n (at_of tX10_writeFault 0 0 rfl) rfl ?_
                refine go_cS (m_isAuthor) lk_X10_151 rfl (at_of tX10_writeFault 0 1 rfl) rfl (by decide) rfl (Nat.le_of_ble_eq_true rfl) rfl (by first | decide | exact ⟨Nat.zero_le _, Nat.zero_le _⟩) ?_
                refine go_if_eq (tgt := 15) (at_of tX10_writeFault 0 2 rfl) (by decide) (fun h4 => ?_) (fun h4 => ?_)
                · exfalso; exact bI_0.mp h4 ha
                refine go_aload_n (at_of tX10_writeFault 0 3 rfl) rfl ?_
                refine go_iload_n (at_of tX10_writeFault 0 4 rfl) rfl ?_
                refine go_cV (m_isPlace hS hN.1 hE hSg) lk_X10_154 rfl G_109 (at_of tX10_writeFault 0 5 rfl) rfl (by decide) rfl (Nat.le_of_ble_eq_true rfl) rfl (by first | decide | exact ⟨Nat.zero_le _, Nat.zero_le _⟩) ?_
                refine go_if_ne (tgt := 17) (at_of tX10_writeFault 0 6 rfl) (by decide) (fun h12 => ?_) (fun h12 => ?_)
                rotate_left
                · exfalso; exact bI_0.mp h12 hp
                refine go_iload_n (at_of tX10_writeFault 0 9 rfl) rfl ?_
                refine go_if_ne (tgt := 23) (at_of tX10_writeFault 0 10 rfl) (by decide) (fun h18 => ?_) (fun h18 => ?_)
                rotate_left
                · exfalso; exact absurd h18 (by decide)
                refine go_aload_n (at_of tX10_writeFault 0 13 rfl) rfl ?_
                refine go_iload_n (at_of tX10_writeFault 0 14 rfl) rfl ?_
                refine go_cV (m_unitOf hS hN.1 hE hSg (by omega) (by omega)) lk_X10_157 rfl G_109 (at_of tX10_writeFault 0 15 rfl) rfl (by decide) rfl (Nat.le_of_ble_eq_true rfl) rfl (by first | decide | exact ⟨Nat.zero_le _, Nat.zero_le _⟩) ?_
                refine go_istore (at_of tX10_writeFault 1 0 rfl) rfl rfl ?_
                refine go_aload_n (at_of tX10_writeFault 1 1 rfl) rfl ?_
                refine go_getf fl_X10_19 rfl G_109 (at_of tX10_writeFault 1 2 rfl) ?_
                refine go_if_eq (tgt := 52) (at_of tX10_writeFault 1 3 rfl) (by decide) (fun h34 => ?_) (fun h34 => ?_)
                · exfalso; rw [htr] at h34; exact absurd h34 (by decide)
                refine go_aload_n (at_of tX10_writeFault 1 4 rfl) rfl ?_
                refine go_iload (at_of tX10_writeFault 1 5 rfl) rfl rfl ?_
                refine go_iload_n (at_of tX10_writeFault 1 6 rfl) rfl ?_
                refine go_cV (mca) lk_X10_160 rfl G_109 (at_of tX10_writeFault 1 7 rfl) rfl (by decide) rfl (Nat.le_of_ble_eq_true rfl) rfl (by first | decide | exact ⟨Nat.zero_le _, Nat.zero_le _⟩) ?_
                refine go_iconst (at_of tX10_writeFault 1 8 rfl) (by unfold in32; omega) ?_
                refine go_icmp_ne (tgt := 52) (at_of tX10_writeFault 1 9 rfl) (by decide) (fun h45 => ?_) (fun h45 => ?_)
                · exfalso; omega
                refine go_iconst (at_of tX10_writeFault 1 10 rfl) (by unfold in32; omega) ?_
                refine go_goto (tgt := 53) (at_of tX10_writeFault 1 11 rfl) (by decide) ?_
                refine go_istore (at_of tX10_writeFault 1 13 rfl) rfl rfl ?_
                refine go_iload (at_of tX10_writeFault 1 14 rfl) rfl rfl ?_
                refine go_if_ne (tgt := 88) (at_of tX10_writeFault 1 15 rfl) (by decide) (fun h57 => ?_) (fun h57 => ?_)
                · exfalso; exact h57 (by decide)
                refine go_aload_n (at_of tX10_writeFault 2 0 rfl) rfl ?_
                refine go_cV (m_many hS hN.1) lk_X10_110 rfl G_109 (at_of tX10_writeFault 2 1 rfl) rfl (by decide) rfl (Nat.le_of_ble_eq_true rfl) rfl (by first | decide | exact ⟨Nat.zero_le _, Nat.zero_le _⟩) ?_
                refine go_sipush (at_of tX10_writeFault 2 2 rfl) (by decide) ?_
                refine go_icmp_eq (tgt := 88) (at_of tX10_writeFault 2 3 rfl) (by decide) (fun h67 => ?_) (fun h67 => ?_)
                rotate_left
                · exfalso; omega
                refine go_iconst (at_of tX10_writeFault 2 12 rfl) (by unfold in32; omega) ?_
                refine go_goto (tgt := 93) (at_of tX10_writeFault 2 13 rfl) (by decide) ?_
                refine go_istore (at_of tX10_writeFault 2 15 rfl) rfl rfl ?_
                refine go_iload (at_of tX10_writeFault 3 0 rfl) rfl rfl ?_
                refine go_if_eq (tgt := 104) (at_of tX10_writeFault 3 1 rfl) (by decide) (fun h97 => ?_) (fun h97 => ?_)
                · exfalso; omega
                refine go_iconst (at_of tX10_writeFault 3 2 rfl) (by unfold in32; omega) ?_
                refine go_goto (tgt := 118) (at_of tX10_writeFault 3 3 rfl) (by decide) ?_
                first | exact go_reti (at_of tX10_writeFault 3 11 rfl) rfl | exact go_reti (at_of tX10_writeFault 3 11 rfl) (le_i (by omega)) | exact go_reti (at_of tX10_writeFault 3 11 rfl) (le_i (by first | exact bI_t (by omega) | exact bI_f (by omega)))
              · skip
                refine con_of_go mfX10_writeFault.1 trivial (Nat.le_of_ble_eq_true rfl) rfl (by decide) ?_
                show Go _ _ _ _ 0 [vA _, vI _, vI _, vI _, vI _, vT 9 0, vT 9 0, vT 9 0] [] _ _
                refine go_iload_n (at_of tX10_writeFault 0 0 rfl) rfl ?_
                refine go_cS (m_isAuthor) lk_X10_151 rfl (at_of tX10_writeFault 0 1 rfl) rfl (by decide) rfl (Nat.le_of_ble_eq_true rfl) rfl (by first | decide | exact ⟨Nat.zero_le _, Nat.zero_le _⟩) ?_
                refine go_if_eq (tgt := 15) (at_of tX10_writeFault 0 2 rfl) (by decide) (fun h4 => ?_) (fun h4 => ?_)
                · exfalso; exact bI_0.mp h4 ha
                refine go_aload_n (at_of tX10_writeFault 0 3 rfl) rfl ?_
                refine go_iload_n (at_of tX10_writeFault 0 4 rfl) rfl ?_
                refine go_cV (m_isPlace hS hN.1 hE hSg) lk_X10_154 rfl G_109 (at_of tX10_writeFault 0 5 rfl) rfl (by decide) rfl (Nat.le_of_ble_eq_true rfl) rfl (by first | decide | exact ⟨Nat.zero_le _, Nat.zero_le _⟩) ?_
                refine go_if_ne (tgt := 17) (at_of tX10_writeFault 0 6 rfl) (by decide) (fun h12 => ?_) (fun h12 => ?_)
                rotate_left
                · exfalso; exact bI_0.mp h12 hp
                refine go_iload_n (at_of tX10_writeFault 0 9 rfl) rfl ?_
                refine go_if_ne (tgt := 23) (at_of tX10_writeFault 0 10 rfl) (by decide) (fun h18 => ?_) (fun h18 => ?_)
                rotate_left
                · exfalso; exact absurd h18 (by decide)
                refine go_aload_n (at_of tX10_writeFault 0 13 rfl) rfl ?_
                refine go_iload_n (at_of tX10_writeFault 0 14 rfl) rfl ?_
                refine go_cV (m_unitOf hS hN.1 hE hSg (by omega) (by omega)) lk_X10_157 rfl G_109 (at_of tX10_writeFault 0 15 rfl) rfl (by decide) rfl (Nat.le_of_ble_eq_true rfl) rfl (by first | decide | exact ⟨Nat.zero_le _, Nat.zero_le _⟩) ?_
                refine go_istore (at_of tX10_writeFault 1 0 rfl) rfl rfl ?_
                refine go_aload_n (at_of tX10_writeFault 1 1 rfl) rfl ?_
                refine go_getf fl_X10_19 rfl G_109 (at_of tX10_writeFault 1 2 rfl) ?_
                refine go_if_eq (tgt := 52) (at_of tX10_writeFault 1 3 rfl) (by decide) (fun h34 => ?_) (fun h34 => ?_)
                · exfalso; rw [htr] at h34; exact absurd h34 (by decide)
                refine go_aload_n (at_of tX10_writeFault 1 4 rfl) rfl ?_
                refine go_iload (at_of tX10_writeFault 1 5 rfl) rfl rfl ?_
                refine go_iload_n (at_of tX10_writeFault 1 6 rfl) rfl ?_
                refine go_cV (mca) lk_X10_160 rfl G_109 (at_of tX10_writeFault 1 7 rfl) rfl (by decide) rfl (Nat.le_of_ble_eq_true rfl) rfl (by first | decide | exact ⟨Nat.zero_le _, Nat.zero_le _⟩) ?_
                refine go_iconst (at_of tX10_writeFault 1 8 rfl) (by unfold in32; omega) ?_
                refine go_icmp_ne (tgt := 52) (at_of tX10_writeFault 1 9 rfl) (by decide) (fun h45 => ?_) (fun h45 => ?_)
                rotate_left
                · exfalso; omega
                refine go_iconst (at_of tX10_writeFault 1 12 rfl) (by unfold in32; omega) ?_
                refine go_istore (at_of tX10_writeFault 1 13 rfl) rfl rfl ?_
                refine go_iload (at_of tX10_writeFault 1 14 rfl) rfl rfl ?_
                refine go_if_ne (tgt := 88) (at_of tX10_writeFault 1 15 rfl) (by decide) (fun h57 => ?_) (fun h57 => ?_)
                · exfalso; exact h57 (by decide)
                refine go_aload_n (at_of tX10_writeFault 2 0 rfl) rfl ?_
                refine go_cV (m_many hS hN.1) lk_X10_110 rfl G_109 (at_of tX10_writeFault 2 1 rfl) rfl (by decide) rfl (Nat.le_of_ble_eq_true rfl) rfl (by first | decide | exact ⟨Nat.zero_le _, Nat.zero_le _⟩) ?_
                refine go_sipush (at_of tX10_writeFault 2 2 rfl) (by decide) ?_
                refine go_icmp_eq (tgt := 88) (at_of tX10_writeFault 2 3 rfl) (by decide) (fun h67 => ?_) (fun h67 => ?_)
                rotate_left
                · exfalso; omega
                refine go_iconst (at_of tX10_writeFault 2 12 rfl) (by unfold in32; omega) ?_
                refine go_goto (tgt := 93) (at_of tX10_writeFault 2 13 rfl) (by decide) ?_
                refine go_istore (at_of tX10_writeFault 2 15 rfl) rfl rfl ?_
                refine go_iload (at_of tX10_writeFault 3 0 rfl) rfl rfl ?_
                refine go_if_eq (tgt := 104) (at_of tX10_writeFault 3 1 rfl) (by decide) (fun h97 => ?_) (fun h97 => ?_)
                · exfalso; omega
                refine go_iconst (at_of tX10_writeFault 3 2 rfl) (by unfold in32; omega) ?_
                refine go_goto (tgt := 118) (at_of tX10_writeFault 3 3 rfl) (by decide) ?_
                first | exact go_reti (at_of tX10_writeFault 3 11 rfl) rfl | exact go_reti (at_of tX10_writeFault 3 11 rfl) (le_i (by omega)) | exact go_reti (at_of tX10_writeFault 3 11 rfl) (le_i (by first | exact bI_t (by omega) | exact bI_f (by omega)))
            | false =>
              refine con_of_go mfX10_writeFault.1 trivial (Nat.le_of_ble_eq_true rfl) rfl (by decide) ?_
              show Go _ _ _ _ 0 [vA _, vI _, vI _, vI _, vI _, vT 9 0, vT 9 0, vT 9 0] [] _ _
              refine go_iload_n (at_of tX10_writeFault 0 0 rfl) rfl ?_
              refine go_cS (m_isAuthor) lk_X10_151 rfl (at_of tX10_writeFault 0 1 rfl) rfl (by decide) rfl (Nat.le_of_ble_eq_true rfl) rfl (by first | decide | exact ⟨Nat.zero_le _, Nat.zero_le _⟩) ?_
              refine go_if_eq (tgt := 15) (at_of tX10_writeFault 0 2 rfl) (by decide) (fun h4 => ?_) (fun h4 => ?_)
              · exfalso; exact bI_0.mp h4 ha
              refine go_aload_n (at_of tX10_writeFault 0 3 rfl) rfl ?_
              refine go_iload_n (at_of tX10_writeFault 0 4 rfl) rfl ?_
              refine go_cV (m_isPlace hS hN.1 hE hSg) lk_X10_154 rfl G_109 (at_of tX10_writeFault 0 5 rfl) rfl (by decide) rfl (Nat.le_of_ble_eq_true rfl) rfl (by first | decide | exact ⟨Nat.zero_le _, Nat.zero_le _⟩) ?_
              refine go_if_ne (tgt := 17) (at_of tX10_writeFault 0 6 rfl) (by decide) (fun h12 => ?_) (fun h12 => ?_)
              rotate_left
              · exfalso; exact bI_0.mp h12 hp
              refine go_iload_n (at_of tX10_writeFault 0 9 rfl) rfl ?_
              refine go_if_ne (tgt := 23) (at_of tX10_writeFault 0 10 rfl) (by decide) (fun h18 => ?_) (fun h18 => ?_)
              rotate_left
              · exfalso; exact absurd h18 (by decide)
              refine go_aload_n (at_of tX10_writeFault 0 13 rfl) rfl ?_
              refine go_iload_n (at_of tX10_writeFault 0 14 rfl) rfl ?_
              refine go_cV (m_unitOf hS hN.1 hE hSg (by omega) (by omega)) lk_X10_157 rfl G_109 (at_of tX10_writeFault 0 15 rfl) rfl (by decide) rfl (Nat.le_of_ble_eq_true rfl) rfl (by first | decide | exact ⟨Nat.zero_le _, Nat.zero_le _⟩) ?_
              refine go_istore (at_of tX10_writeFault 1 0 rfl) rfl rfl ?_
              refine go_aload_n (at_of tX10_writeFault 1 1 rfl) rfl ?_
              refine go_getf fl_X10_19 rfl G_109 (at_of tX10_writeFault 1 2 rfl) ?_
              refine go_if_eq (tgt := 52) (at_of tX10_writeFault 1 3 rfl) (by decide) (fun h34 => ?_) (fun h34 => ?_)
              rotate_left
              · exfalso; rw [htr] at h34; exact h34 (by decide)
              refine go_iconst (at_of tX10_writeFault 1 12 rfl) (by unfold in32; omega) ?_
              refine go_istore (at_of tX10_writeFault 1 13 rfl) rfl rfl ?_
              refine go_iload (at_of tX10_writeFault 1 14 rfl) rfl rfl ?_
              refine go_if_ne (tgt := 88) (at_of tX10_writeFault 1 15 rfl) (by decide) (fun h57 => ?_) (fun h57 => ?_)
              · exfalso; exact h57 (by decide)
              refine go_aload_n (at_of tX10_writeFault 2 0 rfl) rfl ?_
              refine go_cV (m_many hS hN.1) lk_X10_110 rfl G_109 (at_of tX10_writeFault 2 1 rfl) rfl (by decide) rfl (Nat.le_of_ble_eq_true rfl) rfl (by first | decide | exact ⟨Nat.zero_le _, Nat.zero_le _⟩) ?_
              refine go_sipush (at_of tX10_writeFault 2 2 rfl) (by decide) ?_
              refine go_icmp_eq (tgt := 88) (at_of tX10_writeFault 2 3 rfl) (by decide) (fun h67 => ?_) (fun h67 => ?_)
              rotate_left
              · exfalso; omega
              refine go_iconst (at_of tX10_writeFault 2 12 rfl) (by unfold in32; omega) ?_
              refine go_goto (tgt := 93) (at_of tX10_writeFault 2 13 rfl) (by decide) ?_
              refine go_istore (at_of tX10_writeFault 2 15 rfl) rfl rfl ?_
              refine go_iload (at_of tX10_writeFault 3 0 rfl) rfl rfl ?_
              refine go_if_eq (tgt := 104) (at_of tX10_writeFault 3 1 rfl) (by decide) (fun h97 => ?_) (fun h97 => ?_)
              · exfalso; omega
              refine go_iconst (at_of tX10_writeFault 3 2 rfl) (by unfold in32; omega) ?_
              refine go_goto (tgt := 118) (at_of tX10_writeFault 3 3 rfl) (by decide) ?_
              first | exact go_reti (at_of tX10_writeFault 3 11 rfl) rfl | exact go_reti (at_of tX10_writeFault 3 11 rfl) (le_i (by omega)) | exact go_reti (at_of tX10_writeFault 3 11 rfl) (le_i (by first | exact bI_t (by omega) | exact bI_f (by omega)))
          · cases tr with
            | true =>
              by_cases h5 : ca = -1
              · by_cases h60 : D.2.1.1 = 60
                · rw [if_pos (Or.inr (Or.inr ⟨rfl, h5, h60⟩))]
                  refine con_of_go mfX10_writeFault.1 trivial (Nat.le_of_ble_eq_true rfl) rfl (by decide) ?_
                  show Go _ _ _ _ 0 [vA _, vI _, vI _, vI _, vI _, vT 9 0, vT 9 0, vT 9 0] [] _ _
                  refine go_iload_n (at_of tX10_writeFault 0 0 rfl) rfl ?_
                  refine go_cS (m_isAuthor) lk_X10_151 rfl (at_of tX10_writeFault 0 1 rfl) rfl (by decide) rfl (Nat.le_of_ble_eq_true rfl) rfl (by first | decide | exact ⟨Nat.zero_le _, Nat.zero_le _⟩) ?_
                  refine go_if_eq (tgt := 15) (at_of tX10_writeFault 0 2 rfl) (by decide) (fun h4 => ?_) (fun h4 => ?_)
                  · exfalso; exact bI_0.mp h4 ha
                  refine go_aload_n (at_of tX10_writeFault 0 3 rfl) rfl ?_
                  refine go_iload_n (at_of tX10_writeFault 0 4 rfl) rfl ?_
                  refine go_cV (m_isPlace hS hN.1 hE hSg) lk_X10_154 rfl G_109 (at_of tX10_writeFault 0 5 rfl) rfl (by decide) rfl (Nat.le_of_ble_eq_true rfl) rfl (by first | decide | exact ⟨Nat.zero_le _, Nat.zero_le _⟩) ?_
                  refine go_if_ne (tgt := 17) (at_of tX10_writeFault 0 6 rfl) (by decide) (fun h12 => ?_) (fun h12 => ?_)
                  rotate_left
                  · exfalso; exact bI_0.mp h12 hp
                  refine go_iload_n (at_of tX10_writeFault 0 9 rfl) rfl ?_
                  refine go_if_ne (tgt := 23) (at_of tX10_writeFault 0 10 rfl) (by decide) (fun h18 => ?_) (fun h18 => ?_)
                  rotate_left
                  · exfalso; exact absurd h18 (by decide)
                  refine go_aload_n (at_of tX10_writeFault 0 13 rfl) rfl ?_
                  refine go_iload_n (at_of tX10_writeFault 0 14 rfl) rfl ?_
                  refine go_cV (m_unitOf hS hN.1 hE hSg (by omega) (by omega)) lk_X10_157 rfl G_109 (at_of tX10_writeFault 0 15 rfl) rfl (by decide) rfl (Nat.le_of_ble_eq_true rfl) rfl (by first | decide | exact ⟨Nat.zero_le _, Nat.zero_le _⟩) ?_
                  refine go_istore (at_of tX10_writeFault 1 0 rfl) rfl rfl ?_
                  refine go_aload_n (at_of tX10_writeFault 1 1 rfl) rfl ?_
                  refine go_getf fl_X10_19 rfl G_109 (at_of tX10_writeFault 1 2 rfl) ?_
                  refine go_if_eq (tgt := 52) (at_of tX10_writeFault 1 3 rfl) (by decide) (fun h34 => ?_) (fun h34 => ?_)
                  · exfalso; rw [htr] at h34; exact absurd h34 (by decide)
                  refine go_aload_n (at_of tX10_writeFault 1 4 rfl) rfl ?_
                  refine go_iload (at_of tX10_writeFault 1 5 rfl) rfl rfl ?_
                  refine go_iload_n (at_of tX10_writeFault 1 6 rfl) rfl ?_
                  refine go_cV (mca) lk_X10_160 rfl G_109 (at_of tX10_writeFault 1 7 rfl) rfl (by decide) rfl (Nat.le_of_ble_eq_true rfl) rfl (by first | decide | exact ⟨Nat.zero_le _, Nat.zero_le _⟩) ?_
                  refine go_iconst (at_of tX10_writeFault 1 8 rfl) (by unfold in32; omega) ?_
                  refine go_icmp_ne (tgt := 52) (at_of tX10_writeFault 1 9 rfl) (by decide) (fun h45 => ?_) (fun h45 => ?_)
                  · exfalso; omega
                  refine go_iconst (at_of tX10_writeFault 1 10 rfl) (by unfold in32; omega) ?_
                  refine go_goto (tgt := 53) (at_of tX10_writeFault 1 11 rfl) (by decide) ?_
                  refine go_istore (at_of tX10_writeFault 1 13 rfl) rfl rfl ?_
                  refine go_iload (at_of tX10_writeFault 1 14 rfl) rfl rfl ?_
                  refine go_if_ne (tgt := 88) (at_of tX10_writeFault 1 15 rfl) (by decide) (fun h57 => ?_) (fun h57 => ?_)
                  · exfalso; exact h57 (by decide)
                  refine go_aload_n (at_of tX10_writeFault 2 0 rfl) rfl ?_
                  refine go_cV (m_many hS hN.1) lk_X10_110 rfl G_109 (at_of tX10_writeFault 2 1 rfl) rfl (by decide) rfl (Nat.le_of_ble_eq_true rfl) rfl (by first | decide | exact ⟨Nat.zero_le _, Nat.zero_le _⟩) ?_
                  refine go_sipush (at_of tX10_writeFault 2 2 rfl) (by decide) ?_
                  refine go_icmp_eq (tgt := 88) (at_of tX10_writeFault 2 3 rfl) (by decide) (fun h67 => ?_) (fun h67 => ?_)
                  · exfalso; omega
                  refine go_iload (at_of tX10_writeFault 2 4 rfl) rfl rfl ?_
                  refine go_if_eq (tgt := 92) (at_of tX10_writeFault 2 5 rfl) (by decide) (fun h72 => ?_) (fun h72 => ?_)
                  · exfalso; omega
                  refine go_aload_n (at_of tX10_writeFault 2 6 rfl) rfl ?_
                  refine go_getr (q := 110) fl_X10_7 rfl G_109 ((hS _ _ rfl).trans rfl) (at_of tX10_writeFault 2 7 rfl) ?_
                  refine go_sipush (at_of tX10_writeFault 2 8 rfl) (by decide) ?_
                  refine go_iald G_110 (by omega) (by omega) (at_of tX10_writeFault 2 9 rfl) ?_
                  refine go_bipush (at_of tX10_writeFault 2 10 rfl) (by decide) ?_
                  refine go_icmp_ne (tgt := 92) (at_of tX10_writeFault 2 11 rfl) (by decide) (fun h85 => ?_) (fun h85 => ?_)
                  · exfalso; omega
                  refine go_iconst (at_of tX10_writeFault 2 12 rfl) (by unfold in32; omega) ?_
                  refine go_goto (tgt := 93) (at_of tX10_writeFault 2 13 rfl) (by decide) ?_
                  refine go_istore (at_of tX10_writeFault 2 15 rfl) rfl rfl ?_
                  refine go_iload (at_of tX10_writeFault 3 0 rfl) rfl rfl ?_
                  refine go_if_eq (tgt := 104) (at_of tX10_writeFault 3 1 rfl) (by decide) (fun h97 => ?_) (fun h97 => ?_)
                  · exfalso; omega
                  refine go_iconst (at_of tX10_writeFault 3 2 rfl) (by unfold in32; omega) ?_
                  refine go_goto (tgt := 118) (at_of tX10_writeFault 3 3 rfl) (by decide) ?_
                  first | exact go_reti (at_of tX10_writeFault 3 11 rfl) rfl | exact go_reti (at_of tX10_writeFault 3 11 rfl) (le_i (by omega)) | exact go_reti (at_of tX10_writeFault 3 11 rfl) (le_i (by first | exact bI_t (by omega) | exact bI_f (by omega)))
                · rw [if_neg (fun q => by rcases q with q | q | q; exact absurd q (by decide); exact h200 q; exact h60 q.2.2)]
                  by_cases h1 : gd = 1
                  · rw [if_pos h1]
                    refine con_of_go mfX10_writeFault.1 trivial (Nat.le_of_ble_eq_true rfl) rfl (by decide) ?_
                    show Go _ _ _ _ 0 [vA _, vI _, vI _, vI _, vI _, vT 9 0, vT 9 0, vT 9 0] [] _ _
                    refine go_iload_n (at_of tX10_writeFault 0 0 rfl) rfl ?_
                    refine go_cS (m_isAuthor) lk_X10_151 rfl (at_of tX10_writeFault 0 1 rfl) rfl (by decide) rfl (Nat.le_of_ble_eq_true rfl) rfl (by first | decide | exact ⟨Nat.zero_le _, Nat.zero_le _⟩) ?_
                    refine go_if_eq (tgt := 15) (at_of tX10_writeFault 0 2 rfl) (by decide) (fun h4 => ?_) (fun h4 => ?_)
                    · exfalso; exact bI_0.mp h4 ha
                    refine go_aload_n (at_of tX10_writeFault 0 3 rfl) rfl ?_
                    refine go_iload_n (at_of tX10_writeFault 0 4 rfl) rfl ?_
                    refine go_cV (m_isPlace hS hN.1 hE hSg) lk_X10_154 rfl G_109 (at_of tX10_writeFault 0 5 rfl) rfl (by decide) rfl (Nat.le_of_ble_eq_true rfl) rfl (by first | decide | exact ⟨Nat.zero_le _, Nat.zero_le _⟩) ?_
                    refine go_if_ne (tgt := 17) (at_of tX10_writeFault 0 6 rfl) (by decide) (fun h12 => ?_) (fun h12 => ?_)
                    rotate_left
                    · exfalso; exact bI_0.mp h12 hp
                    refine go_iload_n (at_of tX10_writeFault 0 9 rfl) rfl ?_
                    refine go_if_ne (tgt := 23) (at_of tX10_writeFault 0 10 rfl) (by decide) (fun h18 => ?_) (fun h18 => ?_)
                    rotate_left
                    · exfalso; exact absurd h18 (by decide)
                    refine go_aload_n (at_of tX10_writeFault 0 13 rfl) rfl ?_
                    refine go_iload_n (at_of tX10_writeFault 0 14 rfl) rfl ?_
                    refine go_cV (m_unitOf hS hN.1 hE hSg (by omega) (by omega)) lk_X10_157 rfl G_109 (at_of tX10_writeFault 0 15 rfl) rfl (by decide) rfl (Nat.le_of_ble_eq_true rfl) rfl (by first | decide | exact ⟨Nat.zero_le _, Nat.zero_le _⟩) ?_
                    refine go_istore (at_of tX10_writeFault 1 0 rfl) rfl rfl ?_
                    refine go_aload_n (at_of tX10_writeFault 1 1 rfl) rfl ?_
                    refine go_getf fl_X10_19 rfl G_109 (at_of tX10_writeFault 1 2 rfl) ?_
                    refine go_if_eq (tgt := 52) (at_of tX10_writeFault 1 3 rfl) (by decide) (fun h34 => ?_) (fun h34 => ?_)
                    · exfalso; rw [htr] at h34; exact absurd h34 (by decide)
                    refine go_aload_n (at_of tX10_writeFault 1 4 rfl) rfl ?_
                    refine go_iload (at_of tX10_writeFault 1 5 rfl) rfl rfl ?_
                    refine go_iload_n (at_of tX10_writeFault 1 6 rfl) rfl ?_
                    refine go_cV (mca) lk_X10_160 rfl G_109 (at_of tX10_writeFault 1 7 rfl) rfl (by decide) rfl (Nat.le_of_ble_eq_true rfl) rfl (by first | decide | exact ⟨Nat.zero_le _, Nat.zero_le _⟩) ?_
                    refine go_iconst (at_of tX10_writeFault 1 8 rfl) (by unfold in32; omega) ?_
                    refine go_icmp_ne (tgt := 52) (at_of tX10_writeFault 1 9 rfl) (by decide) (fun h45 => ?_) (fun h45 => ?_)
                    · exfalso; omega
                    refine go_iconst (at_of tX10_writeFault 1 10 rfl) (by unfold in32; omega) ?_
                    refine go_goto (tgt := 53) (at_of tX10_writeFault 1 11 rfl) (by decide) ?_
                    refine go_istore (at_of tX10_writeFault 1 13 rfl) rfl rfl ?_
                    refine go_iload (at_of tX10_writeFault 1 14 rfl) rfl rfl ?_
                    refine go_if_ne (tgt := 88) (at_of tX10_writeFault 1 15 rfl) (by decide) (fun h57 => ?_) (fun h57 => ?_)
                    · exfalso; exact h57 (by decide)
                    refine go_aload_n (at_of tX10_writeFault 2 0 rfl) rfl ?_
                    refine go_cV (m_many hS hN.1) lk_X10_110 rfl G_109 (at_of tX10_writeFault 2 1 rfl) rfl (by decide) rfl (Nat.le_of_ble_eq_true rfl) rfl (by first | decide | exact ⟨Nat.zero_le _, Nat.zero_le _⟩) ?_
                    refine go_sipush (at_of tX10_writeFault 2 2 rfl) (by decide) ?_
                    refine go_icmp_eq (tgt := 88) (at_of tX10_writeFault 2 3 rfl) (by decide) (fun h67 => ?_) (fun h67 => ?_)
                    · exfalso; omega
                    refine go_iload (at_of tX10_writeFault 2 4 rfl) rfl rfl ?_
                    refine go_if_eq (tgt := 92) (at_of tX10_writeFault 2 5 rfl) (by decide) (fun h72 => ?_) (fun h72 => ?_)
                    · exfalso; omega
                    refine go_aload_n (at_of tX10_writeFault 2 6 rfl) rfl ?_
                    refine go_getr (q := 110) fl_X10_7 rfl G_109 ((hS _ _ rfl).trans rfl) (at_of tX10_writeFault 2 7 rfl) ?_
                    refine go_sipush (at_of tX10_writeFault 2 8 rfl) (by decide) ?_
                    refine go_iald G_110 (by omega) (by omega) (at_of tX10_writeFault 2 9 rfl) ?_
                    refine go_bipush (at_of tX10_writeFault 2 10 rfl) (by decide) ?_
                    refine go_icmp_ne (tgt := 92) (at_of tX10_writeFault 2 11 rfl) (by decide) (fun h85 => ?_) (fun h85 => ?_)
                    rotate_left
                    · exfalso; omega
                    refine go_iconst (at_of tX10_writeFault 2 14 rfl) (by unfold in32; omega) ?_
                    refine go_istore (at_of tX10_writeFault 2 15 rfl) rfl rfl ?_
                    refine go_iload (at_of tX10_writeFault 3 0 rfl) rfl rfl ?_
                    refine go_if_eq (tgt := 104) (at_of tX10_writeFault 3 1 rfl) (by decide) (fun h97 => ?_) (fun h97 => ?_)
                    rotate_left
                    · exfalso; omega
                    refine go_aload_n (at_of tX10_writeFault 3 4 rfl) rfl ?_
                    refine go_iload (at_of tX10_writeFault 3 5 rfl) rfl rfl ?_
                    refine go_cV (mgd) lk_X10_163 rfl G_109 (at_of tX10_writeFault 3 6 rfl) rfl (by decide) rfl (Nat.le_of_ble_eq_true rfl) rfl (by first | decide | exact ⟨Nat.zero_le _, Nat.zero_le _⟩) ?_
                    refine go_if_eq (tgt := 117) (at_of tX10_writeFault 3 7 rfl) (by decide) (fun h110 => ?_) (fun h110 => ?_)
                    · exfalso; exact bI_0.mp h110 h1
                    refine go_iconst (at_of tX10_writeFault 3 8 rfl) (by unfold in32; omega) ?_
                    refine go_goto (tgt := 118) (at_of tX10_writeFault 3 9 rfl) (by decide) ?_
                    first | exact go_reti (at_of tX10_writeFault 3 11 rfl) rfl | exact go_reti (at_of tX10_writeFault 3 11 rfl) (le_i (by omega)) | exact go_reti (at_of tX10_writeFault 3 11 rfl) (le_i (by first | exact bI_t (by omega) | exact bI_f (by omega)))
                  · rw [if_neg h1]
                    refine con_of_go mfX10_writeFault.1 trivial (Nat.le_of_ble_eq_true rfl) rfl (by decide) ?_
                    show Go _ _ _ _ 0 [vA _, vI _, vI _, vI _, vI _, vT 9 0, vT 9 0, vT 9 0] [] _ _
                    refine go_iload_n (at_of tX10_writeFault 0 0 rfl) rfl ?_
                    refine go_cS (m_isAuthor) lk_X10_151 rfl (at_of tX10_writeFault 0 1 rfl) rfl (by decide) rfl (Nat.le_of_ble_eq_true rfl) rfl (by first | decide | exact ⟨Nat.zero_le _, Nat.zero_le _⟩) ?_
                    refine go_if_eq (tgt := 15) (at_of tX10_writeFault 0 2 rfl) (by decide) (fun h4 => ?_) (fun h4 => ?_)
                    · exfalso; exact bI_0.mp h4 ha
                    refine go_aload_n (at_of tX10_writeFault 0 3 rfl) rfl ?_
                    refine go_iload_n (at_of tX10_writeFault 0 4 rfl) rfl ?_
                    refine go_cV (m_isPlace hS hN.1 hE hSg) lk_X10_154 rfl G_109 (at_of tX10_writeFault 0 5 rfl) rfl (by decide) rfl (Nat.le_of_ble_eq_true rfl) rfl (by first | decide | exact ⟨Nat.zero_le _, Nat.zero_le _⟩) ?_
                    refine go_if_ne (tgt := 17) (at_of tX10_writeFault 0 6 rfl) (by decide) (fun h12 => ?_) (fun h12 => ?_)
                    rotate_left
                    · exfalso; exact bI_0.mp h12 hp
                    refine go_iload_n (at_of tX10_writeFault 0 9 rfl) rfl ?_
                    refine go_if_ne (tgt := 23) (at_of tX10_writeFault 0 10 rfl) (by decide) (fun h18 => ?_) (fun h18 => ?_)
                    rotate_left
                    · exfalso; exact absurd h18 (by decide)
                    refine go_aload_n (at_of tX10_writeFault 0 13 rfl) rfl ?_
                    refine go_iload_n (at_of tX10_writeFault 0 14 rfl) rfl ?_
                    refine go_cV (m_unitOf hS hN.1 hE hSg (by omega) (by omega)) lk_X10_157 rfl G_109 (at_of tX10_writeFault 0 15 rfl) rfl (by decide) rfl (Nat.le_of_ble_eq_true rfl) rfl (by first | decide | exact ⟨Nat.zero_le _, Nat.zero_le _⟩) ?_
                    refine go_istore (at_of tX10_writeFault 1 0 rfl) rfl rfl ?_
                    refine go_aload_n (at_of tX10_writeFault 1 1 rfl) rfl ?_
                    refine go_getf fl_X10_19 rfl G_109 (at_of tX10_writeFault 1 2 rfl) ?_
                    refine go_if_eq (tgt := 52) (at_of tX10_writeFault 1 3 rfl) (by decide) (fun h34 => ?_) (fun h34 => ?_)
                    · exfalso; rw [htr] at h34; exact absurd h34 (by decide)
                    refine go_aload_n (at_of tX10_writeFault 1 4 rfl) rfl ?_
                    refine go_iload (at_of tX10_writeFault 1 5 rfl) rfl rfl ?_
                    refine go_iload_n (at_of tX10_writeFault 1 6 rfl) rfl ?_
                    refine go_cV (mca) lk_X10_160 rfl G_109 (at_of tX10_writeFault 1 7 rfl) rfl (by decide) rfl (Nat.le_of_ble_eq_true rfl) rfl (by first | decide | exact ⟨Nat.zero_le _, Nat.zero_le _⟩) ?_
                    refine go_iconst (at_of tX10_writeFault 1 8 rfl) (by unfold in32; omega) ?_
                    refine go_icmp_ne (tgt := 52) (at_of tX10_writeFault 1 9 rfl) (by decide) (fun h45 => ?_) (fun h45 => ?_)
                    · exfalso; omega
                    refine go_iconst (at_of tX10_writeFault 1 10 rfl) (by unfold in32; omega) ?_
                    refine go_goto (tgt := 53) (at_of tX10_writeFault 1 11 rfl) (by decide) ?_
                    refine go_istore (at_of tX10_writeFault 1 13 rfl) rfl rfl ?_
                    refine go_iload (at_of tX10_writeFault 1 14 rfl) rfl rfl ?_
                    refine go_if_ne (tgt := 88) (at_of tX10_writeFault 1 15 rfl) (by decide) (fun h57 => ?_) (fun h57 => ?_)
                    · exfalso; exact h57 (by decide)
                    refine go_aload_n (at_of tX10_writeFault 2 0 rfl) rfl ?_
                    refine go_cV (m_many hS hN.1) lk_X10_110 rfl G_109 (at_of tX10_writeFault 2 1 rfl) rfl (by decide) rfl (Nat.le_of_ble_eq_true rfl) rfl (by first | decide | exact ⟨Nat.zero_le _, Nat.zero_le _⟩) ?_
                    refine go_sipush (at_of tX10_writeFault 2 2 rfl) (by decide) ?_
                    refine go_icmp_eq (tgt := 88) (at_of tX10_writeFault 2 3 rfl) (by decide) (fun h67 => ?_) (fun h67 => ?_)
                    · exfalso; omega
                    refine go_iload (at_of tX10_writeFault 2 4 rfl) rfl rfl ?_
                    refine go_if_eq (tgt := 92) (at_of tX10_writeFault 2 5 rfl) (by decide) (fun h72 => ?_) (fun h72 => ?_)
                    · exfalso; omega
                    refine go_aload_n (at_of tX10_writeFault 2 6 rfl) rfl ?_
                    refine go_getr (q := 110) fl_X10_7 rfl G_109 ((hS _ _ rfl).trans rfl) (at_of tX10_writeFault 2 7 rfl) ?_
                    refine go_sipush (at_of tX10_writeFault 2 8 rfl) (by decide) ?_
                    refine go_iald G_110 (by omega) (by omega) (at_of tX10_writeFault 2 9 rfl) ?_
                    refine go_bipush (at_of tX10_writeFault 2 10 rfl) (by decide) ?_
                    refine go_icmp_ne (tgt := 92) (at_of tX10_writeFault 2 11 rfl) (by decide) (fun h85 => ?_) (fun h85 => ?_)
                    rotate_left
                    · exfalso; omega
                    refine go_iconst (at_of tX10_writeFault 2 14 rfl) (by unfold in32; omega) ?_
                    refine go_istore (at_of tX10_writeFault 2 15 rfl) rfl rfl ?_
                    refine go_iload (at_of tX10_writeFault 3 0 rfl) rfl rfl ?_
                    refine go_if_eq (tgt := 104) (at_of tX10_writeFault 3 1 rfl) (by decide) (fun h97 => ?_) (fun h97 => ?_)
                    rotate_left
                    · exfalso; omega
                    refine go_aload_n (at_of tX10_writeFault 3 4 rfl) rfl ?_
                    refine go_iload (at_of tX10_writeFault 3 5 rfl) rfl rfl ?_
                    refine go_cV (mgd) lk_X10_163 rfl G_109 (at_of tX10_writeFault 3 6 rfl) rfl (by decide) rfl (Nat.le_of_ble_eq_true rfl) rfl (by first | decide | exact ⟨Nat.zero_le _, Nat.zero_le _⟩) ?_
                    refine go_if_eq (tgt := 117) (at_of tX10_writeFault 3 7 rfl) (by decide) (fun h110 => ?_) (fun h110 => ?_)
                    rotate_left
                    · exfalso; exact h1 (bI_1.mp h110)
                    refine go_iconst (at_of tX10_writeFault 3 10 rfl) (by unfold in32; omega) ?_
                    first | exact go_reti (at_of tX10_writeFault 3 11 rfl) rfl | exact go_reti (at_of tX10_writeFault 3 11 rfl) (le_i (by omega)) | exact go_reti (at_of tX10_writeFault 3 11 rfl) (le_i (by first | exact bI_t (by omega) | exact bI_f (by omega)))
              · rw [if_neg (fun q => by rcases q with q | q | q; exact absurd q (by decide); exact h200 q; exact h5 q.2.1)]
                by_cases h1 : gd = 1
                · rw [if_pos h1]
                  refine con_of_go mfX10_writeFault.1 trivial (Nat.le_of_ble_eq_true rfl) rfl (by decide) ?_
                  show Go _ _ _ _ 0 [vA _, vI _, vI _, vI _, vI _, vT 9 0, vT 9 0, vT 9 0] [] _ _
                  refine go_iload_n (at_of tX10_writeFault 0 0 rfl) rfl ?_
                  refine go_cS (m_isAuthor) lk_X10_151 rfl (at_of tX10_writeFault 0 1 rfl) rfl (by decide) rfl (Nat.le_of_ble_eq_true rfl) rfl (by first | decide | exact ⟨Nat.zero_le _, Nat.zero_le _⟩) ?_
                  refine go_if_eq (tgt := 15) (at_of tX10_writeFault 0 2 rfl) (by decide) (fun h4 => ?_) (fun h4 => ?_)
                  · exfalso; exact bI_0.mp h4 ha
                  refine go_aload_n (at_of tX10_writeFault 0 3 rfl) rfl ?_
                  refine go_iload_n (at_of tX10_writeFault 0 4 rfl) rfl ?_
                  refine go_cV (m_isPlace hS hN.1 hE hSg) lk_X10_154 rfl G_109 (at_of tX10_writeFault 0 5 rfl) rfl (by decide) rfl (Nat.le_of_ble_eq_true rfl) rfl (by first | decide | exact ⟨Nat.zero_le _, Nat.zero_le _⟩) ?_
                  refine go_if_ne (tgt := 17) (at_of tX10_writeFault 0 6 rfl) (by decide) (fun h12 => ?_) (fun h12 => ?_)
                  rotate_left
                  · exfalso; exact bI_0.mp h12 hp
                  refine go_iload_n (at_of tX10_writeFault 0 9 rfl) rfl ?_
                  refine go_if_ne (tgt := 23) (at_of tX10_writeFault 0 10 rfl) (by decide) (fun h18 => ?_) (fun h18 => ?_)
                  rotate_left
                  · exfalso; exact absurd h18 (by decide)
                  refine go_aload_n (at_of tX10_writeFault 0 13 rfl) rfl ?_
                  refine go_iload_n (at_of tX10_writeFault 0 14 rfl) rfl ?_
                  refine go_cV (m_unitOf hS hN.1 hE hSg (by omega) (by omega)) lk_X10_157 rfl G_109 (at_of tX10_writeFault 0 15 rfl) rfl (by decide) rfl (Nat.le_of_ble_eq_true rfl) rfl (by first | decide | exact ⟨Nat.zero_le _, Nat.zero_le _⟩) ?_
                  refine go_istore (at_of tX10_writeFault 1 0 rfl) rfl rfl ?_
                  refine go_aload_n (at_of tX10_writeFault 1 1 rfl) rfl ?_
                  refine go_getf fl_X10_19 rfl G_109 (at_of tX10_writeFault 1 2 rfl) ?_
                  refine go_if_eq (tgt := 52) (at_of tX10_writeFault 1 3 rfl) (by decide) (fun h34 => ?_) (fun h34 => ?_)
                  · exfalso; rw [htr] at h34; exact absurd h34 (by decide)
                  refine go_aload_n (at_of tX10_writeFault 1 4 rfl) rfl ?_
                  refine go_iload (at_of tX10_writeFault 1 5 rfl) rfl rfl ?_
                  refine go_iload_n (at_of tX10_writeFault 1 6 rfl) rfl ?_
                  refine go_cV (mca) lk_X10_160 rfl G_109 (at_of tX10_writeFault 1 7 rfl) rfl (by decide) rfl (Nat.le_of_ble_eq_true rfl) rfl (by first | decide | exact ⟨Nat.zero_le _, Nat.zero_le _⟩) ?_
                  refine go_iconst (at_of tX10_writeFault 1 8 rfl) (by unfold in32; omega) ?_
                  refine go_icmp_ne (tgt := 52) (at_of tX10_writeFault 1 9 rfl) (by decide) (fun h45 => ?_) (fun h45 => ?_)
                  rotate_left
                  · exfalso; omega
                  refine go_iconst (at_of tX10_writeFault 1 12 rfl) (by unfold in32; omega) ?_
                  refine go_istore (at_of tX10_writeFault 1 13 rfl) rfl rfl ?_
                  refine go_iload (at_of tX10_writeFault 1 14 rfl) rfl rfl ?_
                  refine go_if_ne (tgt := 88) (at_of tX10_writeFault 1 15 rfl) (by decide) (fun h57 => ?_) (fun h57 => ?_)
                  · exfalso; exact h57 (by decide)
                  refine go_aload_n (at_of tX10_writeFault 2 0 rfl) rfl ?_
                  refine go_cV (m_many hS hN.1) lk_X10_110 rfl G_109 (at_of tX10_writeFault 2 1 rfl) rfl (by decide) rfl (Nat.le_of_ble_eq_true rfl) rfl (by first | decide | exact ⟨Nat.zero_le _, Nat.zero_le _⟩) ?_
                  refine go_sipush (at_of tX10_writeFault 2 2 rfl) (by decide) ?_
                  refine go_icmp_eq (tgt := 88) (at_of tX10_writeFault 2 3 rfl) (by decide) (fun h67 => ?_) (fun h67 => ?_)
                  · exfalso; omega
                  refine go_iload (at_of tX10_writeFault 2 4 rfl) rfl rfl ?_
                  refine go_if_eq (tgt := 92) (at_of tX10_writeFault 2 5 rfl) (by decide) (fun h72 => ?_) (fun h72 => ?_)
                  rotate_left
                  · exfalso; omega
                  refine go_iconst (at_of tX10_writeFault 2 14 rfl) (by unfold in32; omega) ?_
                  refine go_istore (at_of tX10_writeFault 2 15 rfl) rfl rfl ?_
                  refine go_iload (at_of tX10_writeFault 3 0 rfl) rfl rfl ?_
                  refine go_if_eq (tgt := 104) (at_of tX10_writeFault 3 1 rfl) (by decide) (fun h97 => ?_) (fun h97 => ?_)
                  rotate_left
                  · exfalso; omega
                  refine go_aload_n (at_of tX10_writeFault 3 4 rfl) rfl ?_
                  refine go_iload (at_of tX10_writeFault 3 5 rfl) rfl rfl ?_
                  refine go_cV (mgd) lk_X10_163 rfl G_109 (at_of tX10_writeFault 3 6 rfl) rfl (by decide) rfl (Nat.le_of_ble_eq_true rfl) rfl (by first | decide | exact ⟨Nat.zero_le _, Nat.zero_le _⟩) ?_
                  refine go_if_eq (tgt := 117) (at_of tX10_writeFault 3 7 rfl) (by decide) (fun h110 => ?_) (fun h110 => ?_)
                  · exfalso; exact bI_0.mp h110 h1
                  refine go_iconst (at_of tX10_writeFault 3 8 rfl) (by unfold in32; omega) ?_
                  refine go_goto (tgt := 118) (at_of tX10_writeFault 3 9 rfl) (by decide) ?_
                  first | exact go_reti (at_of tX10_writeFault 3 11 rfl) rfl | exact go_reti (at_of tX10_writeFault 3 11 rfl) (le_i (by omega)) | exact go_reti (at_of tX10_writeFault 3 11 rfl) (le_i (by first | exact bI_t (by omega) | exact bI_f (by omega)))
                · rw [if_neg h1]
                  refine con_of_go mfX10_writeFault.1 trivial (Nat.le_of_ble_eq_true rfl) rfl (by decide) ?_
                  show Go _ _ _ _ 0 [vA _, vI _, vI _, vI _, vI _, vT 9 0, vT 9 0, vT 9 0] [] _ _
                  refine go_iload_n (at_of tX10_writeFault 0 0 rfl) rfl ?_
                  refine go_cS (m_isAuthor) lk_X10_151 rfl (at_of tX10_writeFault 0 1 rfl) rfl (by decide) rfl (Nat.le_of_ble_eq_true rfl) rfl (by first | decide | exact ⟨Nat.zero_le _, Nat.zero_le _⟩) ?_
                  refine go_if_eq (tgt := 15) (at_of tX10_writeFault 0 2 rfl) (by decide) (fun h4 => ?_) (fun h4 => ?_)
                  · exfalso; exact bI_0.mp h4 ha
                  refine go_aload_n (at_of tX10_writeFault 0 3 rfl) rfl ?_
                  refine go_iload_n (at_of tX10_writeFault 0 4 rfl) rfl ?_
                  refine go_cV (m_isPlace hS hN.1 hE hSg) lk_X10_154 rfl G_109 (at_of tX10_writeFault 0 5 rfl) rfl (by decide) rfl (Nat.le_of_ble_eq_true rfl) rfl (by first | decide | exact ⟨Nat.zero_le _, Nat.zero_le _⟩) ?_
                  refine go_if_ne (tgt := 17) (at_of tX10_writeFault 0 6 rfl) (by decide) (fun h12 => ?_) (fun h12 => ?_)
                  rotate_left
                  · exfalso; exact bI_0.mp h12 hp
                  refine go_iload_n (at_of tX10_writeFault 0 9 rfl) rfl ?_
                  refine go_if_ne (tgt := 23) (at_of tX10_writeFault 0 10 rfl) (by decide) (fun h18 => ?_) (fun h18 => ?_)
                  rotate_left
                  · exfalso; exact absurd h18 (by decide)
                  refine go_aload_n (at_of tX10_writeFault 0 13 rfl) rfl ?_
                  refine go_iload_n (at_of tX10_writeFault 0 14 rfl) rfl ?_
                  refine go_cV (m_unitOf hS hN.1 hE hSg (by omega) (by omega)) lk_X10_157 rfl G_109 (at_of tX10_writeFault 0 15 rfl) rfl (by decide) rfl (Nat.le_of_ble_eq_true rfl) rfl (by first | decide | exact ⟨Nat.zero_le _, Nat.zero_le _⟩) ?_
                  refine go_istore (at_of tX10_writeFault 1 0 rfl) rfl rfl ?_
                  refine go_aload_n (at_of tX10_writeFault 1 1 rfl) rfl ?_
                  refine go_getf fl_X10_19 rfl G_109 (at_of tX10_writeFault 1 2 rfl) ?_
                  refine go_if_eq (tgt := 52) (at_of tX10_writeFault 1 3 rfl) (by decide) (fun h34 => ?_) (fun h34 => ?_)
                  · exfalso; rw [htr] at h34; exact absurd h34 (by decide)
                  refine go_aload_n (at_of tX10_writeFault 1 4 rfl) rfl ?_
                  refine go_iload (at_of tX10_writeFault 1 5 rfl) rfl rfl ?_
                  refine go_iload_n (at_of tX10_writeFault 1 6 rfl) rfl ?_
                  refine go_cV (mca) lk_X10_160 rfl G_109 (at_of tX10_writeFault 1 7 rfl) rfl (by decide) rfl (Nat.le_of_ble_eq_true rfl) rfl (by first | decide | exact ⟨Nat.zero_le _, Nat.zero_le _⟩) ?_
                  refine go_iconst (at_of tX10_writeFault 1 8 rfl) (by unfold in32; omega) ?_
                  refine go_icmp_ne (tgt := 52) (at_of tX10_writeFault 1 9 rfl) (by decide) (fun h45 => ?_) (fun h45 => ?_)
                  rotate_left
                  · exfalso; omega
                  refine go_iconst (at_of tX10_writeFault 1 12 rfl) (by unfold in32; omega) ?_
                  refine go_istore (at_of tX10_writeFault 1 13 rfl) rfl rfl ?_
                  refine go_iload (at_of tX10_writeFault 1 14 rfl) rfl rfl ?_
                  refine go_if_ne (tgt := 88) (at_of tX10_writeFault 1 15 rfl) (by decide) (fun h57 => ?_) (fun h57 => ?_)
                  · exfalso; exact h57 (by decide)
                  refine go_aload_n (at_of tX10_writeFault 2 0 rfl) rfl ?_
                  refine go_cV (m_many hS hN.1) lk_X10_110 rfl G_109 (at_of tX10_writeFault 2 1 rfl) rfl (by decide) rfl (Nat.le_of_ble_eq_true rfl) rfl (by first | decide | exact ⟨Nat.zero_le _, Nat.zero_le _⟩) ?_
                  refine go_sipush (at_of tX10_writeFault 2 2 rfl) (by decide) ?_
                  refine go_icmp_eq (tgt := 88) (at_of tX10_writeFault 2 3 rfl) (by decide) (fun h67 => ?_) (fun h67 => ?_)
                  · exfalso; omega
                  refine go_iload (at_of tX10_writeFault 2 4 rfl) rfl rfl ?_
                  refine go_if_eq (tgt := 92) (at_of tX10_writeFault 2 5 rfl) (by decide) (fun h72 => ?_) (fun h72 => ?_)
                  rotate_left
                  · exfalso; omega
                  refine go_iconst (at_of tX10_writeFault 2 14 rfl) (by unfold in32; omega) ?_
                  refine go_istore (at_of tX10_writeFault 2 15 rfl) rfl rfl ?_
                  refine go_iload (at_of tX10_writeFault 3 0 rfl) rfl rfl ?_
                  refine go_if_eq (tgt := 104) (at_of tX10_writeFault 3 1 rfl) (by decide) (fun h97 => ?_) (fun h97 => ?_)
                  rotate_left
                  · exfalso; omega
                  refine go_aload_n (at_of tX10_writeFault 3 4 rfl) rfl ?_
                  refine go_iload (at_of tX10_writeFault 3 5 rfl) rfl rfl ?_
                  refine go_cV (mgd) lk_X10_163 rfl G_109 (at_of tX10_writeFault 3 6 rfl) rfl (by decide) rfl (Nat.le_of_ble_eq_true rfl) rfl (by first | decide | exact ⟨Nat.zero_le _, Nat.zero_le _⟩) ?_
                  refine go_if_eq (tgt := 117) (at_of tX10_writeFault 3 7 rfl) (by decide) (fun h110 => ?_) (fun h110 => ?_)
                  rotate_left
                  · exfalso; exact h1 (bI_1.mp h110)
                  refine go_iconst (at_of tX10_writeFault 3 10 rfl) (by unfold in32; omega) ?_
                  first | exact go_reti (at_of tX10_writeFault 3 11 rfl) rfl | exact go_reti (at_of tX10_writeFault 3 11 rfl) (le_i (by omega)) | exact go_reti (at_of tX10_writeFault 3 11 rfl) (le_i (by first | exact bI_t (by omega) | exact bI_f (by omega)))
            | false =>
              rw [if_neg (fun q => by rcases q with q | q | q; exact absurd q (by decide); exact h200 q; exact absurd q.1 (by decide))]
              by_cases h1 : gd = 1
              · rw [if_pos h1]
                refine con_of_go mfX10_writeFault.1 trivial (Nat.le_of_ble_eq_true rfl) rfl (by decide) ?_
                show Go _ _ _ _ 0 [vA _, vI _, vI _, vI _, vI _, vT 9 0, vT 9 0, vT 9 0] [] _ _
                refine go_iload_n (at_of tX10_writeFault 0 0 rfl) rfl ?_
                refine go_cS (m_isAuthor) lk_X10_151 rfl (at_of tX10_writeFault 0 1 rfl) rfl (by decide) rfl (Nat.le_of_ble_eq_true rfl) rfl (by first | decide | exact ⟨Nat.zero_le _, Nat.zero_le _⟩) ?_
                refine go_if_eq (tgt := 15) (at_of tX10_writeFault 0 2 rfl) (by decide) (fun h4 => ?_) (fun h4 => ?_)
                · exfalso; exact bI_0.mp h4 ha
                refine go_aload_n (at_of tX10_writeFault 0 3 rfl) rfl ?_
                refine go_iload_n (at_of tX10_writeFault 0 4 rfl) rfl ?_
                refine go_cV (m_isPlace hS hN.1 hE hSg) lk_X10_154 rfl G_109 (at_of tX10_writeFault 0 5 rfl) rfl (by decide) rfl (Nat.le_of_ble_eq_true rfl) rfl (by first | decide | exact ⟨Nat.zero_le _, Nat.zero_le _⟩) ?_
                refine go_if_ne (tgt := 17) (at_of tX10_writeFault 0 6 rfl) (by decide) (fun h12 => ?_) (fun h12 => ?_)
                rotate_left
                · exfalso; exact bI_0.mp h12 hp
                refine go_iload_n (at_of tX10_writeFault 0 9 rfl) rfl ?_
                refine go_if_ne (tgt := 23) (at_of tX10_writeFault 0 10 rfl) (by decide) (fun h18 => ?_) (fun h18 => ?_)
                rotate_left
                · exfalso; exact absurd h18 (by decide)
                refine go_aload_n (at_of tX10_writeFault 0 13 rfl) rfl ?_
                refine go_iload_n (at_of tX10_writeFault 0 14 rfl) rfl ?_
                refine go_cV (m_unitOf hS hN.1 hE hSg (by omega) (by omega)) lk_X10_157 rfl G_109 (at_of tX10_writeFault 0 15 rfl) rfl (by decide) rfl (Nat.le_of_ble_eq_true rfl) rfl (by first | decide | exact ⟨Nat.zero_le _, Nat.zero_le _⟩) ?_
                refine go_istore (at_of tX10_writeFault 1 0 rfl) rfl rfl ?_
                refine go_aload_n (at_of tX10_writeFault 1 1 rfl) rfl ?_
                refine go_getf fl_X10_19 rfl G_109 (at_of tX10_writeFault 1 2 rfl) ?_
                refine go_if_eq (tgt := 52) (at_of tX10_writeFault 1 3 rfl) (by decide) (fun h34 => ?_) (fun h34 => ?_)
                rotate_left
                · exfalso; rw [htr] at h34; exact h34 (by decide)
                refine go_iconst (at_of tX10_writeFault 1 12 rfl) (by unfold in32; omega) ?_
                refine go_istore (at_of tX10_writeFault 1 13 rfl) rfl rfl ?_
                refine go_iload (at_of tX10_writeFault 1 14 rfl) rfl rfl ?_
                refine go_if_ne (tgt := 88) (at_of tX10_writeFault 1 15 rfl) (by decide) (fun h57 => ?_) (fun h57 => ?_)
                · exfalso; exact h57 (by decide)
                refine go_aload_n (at_of tX10_writeFault 2 0 rfl) rfl ?_
                refine go_cV (m_many hS hN.1) lk_X10_110 rfl G_109 (at_of tX10_writeFault 2 1 rfl) rfl (by decide) rfl (Nat.le_of_ble_eq_true rfl) rfl (by first | decide | exact ⟨Nat.zero_le _, Nat.zero_le _⟩) ?_
                refine go_sipush (at_of tX10_writeFault 2 2 rfl) (by decide) ?_
                refine go_icmp_eq (tgt := 88) (at_of tX10_writeFault 2 3 rfl) (by decide) (fun h67 => ?_) (fun h67 => ?_)
                · exfalso; omega
                refine go_iload (at_of tX10_writeFault 2 4 rfl) rfl rfl ?_
                refine go_if_eq (tgt := 92) (at_of tX10_writeFault 2 5 rfl) (by decide) (fun h72 => ?_) (fun h72 => ?_)
                rotate_left
                · exfalso; omega
                refine go_iconst (at_of tX10_writeFault 2 14 rfl) (by unfold in32; omega) ?_
                refine go_istore (at_of tX10_writeFault 2 15 rfl) rfl rfl ?_
                refine go_iload (at_of tX10_writeFault 3 0 rfl) rfl rfl ?_
                refine go_if_eq (tgt := 104) (at_of tX10_writeFault 3 1 rfl) (by decide) (fun h97 => ?_) (fun h97 => ?_)
                rotate_left
                · exfalso; omega
                refine go_aload_n (at_of tX10_writeFault 3 4 rfl) rfl ?_
                refine go_iload (at_of tX10_writeFault 3 5 rfl) rfl rfl ?_
                refine go_cV (mgd) lk_X10_163 rfl G_109 (at_of tX10_writeFault 3 6 rfl) rfl (by decide) rfl (Nat.le_of_ble_eq_true rfl) rfl (by first | decide | exact ⟨Nat.zero_le _, Nat.zero_le _⟩) ?_
                refine go_if_eq (tgt := 117) (at_of tX10_writeFault 3 7 rfl) (by decide) (fun h110 => ?_) (fun h110 => ?_)
                · exfalso; exact bI_0.mp h110 h1
                refine go_iconst (at_of tX10_writeFault 3 8 rfl) (by unfold in32; omega) ?_
                refine go_goto (tgt := 118) (at_of tX10_writeFault 3 9 rfl) (by decide) ?_
                first | exact go_reti (at_of tX10_writeFault 3 11 rfl) rfl | exact go_reti (at_of tX10_writeFault 3 11 rfl) (le_i (by omega)) | exact go_reti (at_of tX10_writeFault 3 11 rfl) (le_i (by first | exact bI_t (by omega) | exact bI_f (by omega)))
              · rw [if_neg h1]
                refine con_of_go mfX10_writeFault.1 trivial (Nat.le_of_ble_eq_true rfl) rfl (by decide) ?_
                show Go _ _ _ _ 0 [vA _, vI _, vI _, vI _, vI _, vT 9 0, vT 9 0, vT 9 0] [] _ _
                refine go_iload_n (at_of tX10_writeFault 0 0 rfl) rfl ?_
                refine go_cS (m_isAuthor) lk_X10_151 rfl (at_of tX10_writeFault 0 1 rfl) rfl (by decide) rfl (Nat.le_of_ble_eq_true rfl) rfl (by first | decide | exact ⟨Nat.zero_le _, Nat.zero_le _⟩) ?_
                refine go_if_eq (tgt := 15) (at_of tX10_writeFault 0 2 rfl) (by decide) (fun h4 => ?_) (fun h4 => ?_)
                · exfalso; exact bI_0.mp h4 ha
                refine go_aload_n (at_of tX10_writeFault 0 3 rfl) rfl ?_
                refine go_iload_n (at_of tX10_writeFault 0 4 rfl) rfl ?_
                refine go_cV (m_isPlace hS hN.1 hE hSg) lk_X10_154 rfl G_109 (at_of tX10_writeFault 0 5 rfl) rfl (by decide) rfl (Nat.le_of_ble_eq_true rfl) rfl (by first | decide | exact ⟨Nat.zero_le _, Nat.zero_le _⟩) ?_
                refine go_if_ne (tgt := 17) (at_of tX10_writeFault 0 6 rfl) (by decide) (fun h12 => ?_) (fun h12 => ?_)
                rotate_left
                · exfalso; exact bI_0.mp h12 hp
                refine go_iload_n (at_of tX10_writeFault 0 9 rfl) rfl ?_
                refine go_if_ne (tgt := 23) (at_of tX10_writeFault 0 10 rfl) (by decide) (fun h18 => ?_) (fun h18 => ?_)
                rotate_left
                · exfalso; exact absurd h18 (by decide)
                refine go_aload_n (at_of tX10_writeFault 0 13 rfl) rfl ?_
                refine go_iload_n (at_of tX10_writeFault 0 14 rfl) rfl ?_
                refine go_cV (m_unitOf hS hN.1 hE hSg (by omega) (by omega)) lk_X10_157 rfl G_109 (at_of tX10_writeFault 0 15 rfl) rfl (by decide) rfl (Nat.le_of_ble_eq_true rfl) rfl (by first | decide | exact ⟨Nat.zero_le _, Nat.zero_le _⟩) ?_
                refine go_istore (at_of tX10_writeFault 1 0 rfl) rfl rfl ?_
                refine go_aload_n (at_of tX10_writeFault 1 1 rfl) rfl ?_
                refine go_getf fl_X10_19 rfl G_109 (at_of tX10_writeFault 1 2 rfl) ?_
                refine go_if_eq (tgt := 52) (at_of tX10_writeFault 1 3 rfl) (by decide) (fun h34 => ?_) (fun h34 => ?_)
                rotate_left
                · exfalso; rw [htr] at h34; exact h34 (by decide)
                refine go_iconst (at_of tX10_writeFault 1 12 rfl) (by unfold in32; omega) ?_
                refine go_istore (at_of tX10_writeFault 1 13 rfl) rfl rfl ?_
                refine go_iload (at_of tX10_writeFault 1 14 rfl) rfl rfl ?_
                refine go_if_ne (tgt := 88) (at_of tX10_writeFault 1 15 rfl) (by decide) (fun h57 => ?_) (fun h57 => ?_)
                · exfalso; exact h57 (by decide)
                refine go_aload_n (at_of tX10_writeFault 2 0 rfl) rfl ?_
                refine go_cV (m_many hS hN.1) lk_X10_110 rfl G_109 (at_of tX10_writeFault 2 1 rfl) rfl (by decide) rfl (Nat.le_of_ble_eq_true rfl) rfl (by first | decide | exact ⟨Nat.zero_le _, Nat.zero_le _⟩) ?_
                refine go_sipush (at_of tX10_writeFault 2 2 rfl) (by decide) ?_
                refine go_icmp_eq (tgt := 88) (at_of tX10_writeFault 2 3 rfl) (by decide) (fun h67 => ?_) (fun h67 => ?_)
                · exfalso; omega
                refine go_iload (at_of tX10_writeFault 2 4 rfl) rfl rfl ?_
                refine go_if_eq (tgt := 92) (at_of tX10_writeFault 2 5 rfl) (by decide) (fun h72 => ?_) (fun h72 => ?_)
                rotate_left
                · exfalso; omega
                refine go_iconst (at_of tX10_writeFault 2 14 rfl) (by unfold in32; omega) ?_
                refine go_istore (at_of tX10_writeFault 2 15 rfl) rfl rfl ?_
                refine go_iload (at_of tX10_writeFault 3 0 rfl) rfl rfl ?_
                refine go_if_eq (tgt := 104) (at_of tX10_writeFault 3 1 rfl) (by decide) (fun h97 => ?_) (fun h97 => ?_)
                rotate_left
                · exfalso; omega
                refine go_aload_n (at_of tX10_writeFault 3 4 rfl) rfl ?_
                refine go_iload (at_of tX10_writeFault 3 5 rfl) rfl rfl ?_
                refine go_cV (mgd) lk_X10_163 rfl G_109 (at_of tX10_writeFault 3 6 rfl) rfl (by decide) rfl (Nat.le_of_ble_eq_true rfl) rfl (by first | decide | exact ⟨Nat.zero_le _, Nat.zero_le _⟩) ?_
                refine go_if_eq (tgt := 117) (at_of tX10_writeFault 3 7 rfl) (by decide) (fun h110 => ?_) (fun h110 => ?_)
                rotate_left
                · exfalso; exact h1 (bI_1.mp h110)
                refine go_iconst (at_of tX10_writeFault 3 10 rfl) (by unfold in32; omega) ?_
                first | exact go_reti (at_of tX10_writeFault 3 11 rfl) rfl | exact go_reti (at_of tX10_writeFault 3 11 rfl) (le_i (by omega)) | exact go_reti (at_of tX10_writeFault 3 11 rfl) (le_i (by first | exact bI_t (by omega) | exact bI_f (by omega)))
    · rw [if_pos (fun q => hp q.2)]
      refine con_of_go mfX10_writeFault.1 trivial (Nat.le_of_ble_eq_true rfl) rfl (by decide) ?_
      show Go _ _ _ _ 0 [vA _, vI _, vI _, vI _, vI _, vT 9 0, vT 9 0, vT 9 0] [] _ _
      refine go_iload_n (at_of tX10_writeFault 0 0 rfl) rfl ?_
      refine go_cS (m_isAuthor) lk_X10_151 rfl (at_of tX10_writeFault 0 1 rfl) rfl (by decide) rfl (Nat.le_of_ble_eq_true rfl) rfl (by first | decide | exact ⟨Nat.zero_le _, Nat.zero_le _⟩) ?_
      refine go_if_eq (tgt := 15) (at_of tX10_writeFault 0 2 rfl) (by decide) (fun h4 => ?_) (fun h4 => ?_)
      · exfalso; exact bI_0.mp h4 ha
      refine go_aload_n (at_of tX10_writeFault 0 3 rfl) rfl ?_
      refine go_iload_n (at_of tX10_writeFault 0 4 rfl) rfl ?_
      refine go_cV (m_isPlace hS hN.1 hE hSg) lk_X10_154 rfl G_109 (at_of tX10_writeFault 0 5 rfl) rfl (by decide) rfl (Nat.le_of_ble_eq_true rfl) rfl (by first | decide | exact ⟨Nat.zero_le _, Nat.zero_le _⟩) ?_
      refine go_if_ne (tgt := 17) (at_of tX10_writeFault 0 6 rfl) (by decide) (fun h12 => ?_) (fun h12 => ?_)
      · exfalso; exact hp (bI_1.mp h12)
      refine go_iconst (at_of tX10_writeFault 0 7 rfl) (by unfold in32; omega) ?_
      first | exact go_reti (at_of tX10_writeFault 0 8 rfl) rfl | exact go_reti (at_of tX10_writeFault 0 8 rfl) (le_i (by omega)) | exact go_reti (at_of tX10_writeFault 0 8 rfl) (le_i (by first | exact bI_t (by omega) | exact bI_f (by omega)))
  · rw [if_pos (fun q => ha q.1)]
    refine con_of_go mfX10_writeFault.1 trivial (Nat.le_of_ble_eq_true rfl) rfl (by decide) ?_
    show Go _ _ _ _ 0 [vA _, vI _, vI _, vI _, vI _, vT 9 0, vT 9 0, vT 9 0] [] _ _
    refine go_iload_n (at_of tX10_writeFault 0 0 rfl) rfl ?_
    refine go_cS (m_isAuthor) lk_X10_151 rfl (at_of tX10_writeFault 0 1 rfl) rfl (by decide) rfl (Nat.le_of_ble_eq_true rfl) rfl (by first | decide | exact ⟨Nat.zero_le _, Nat.zero_le _⟩) ?_
    refine go_if_eq (tgt := 15) (at_of tX10_writeFault 0 2 rfl) (by decide) (fun h4 => ?_) (fun h4 => ?_)
    rotate_left
    · exfalso; exact ha (bI_1.mp h4)
    refine go_iconst (at_of tX10_writeFault 0 7 rfl) (by unfold in32; omega) ?_
    first | exact go_reti (at_of tX10_writeFault 0 8 rfl) rfl | exact go_reti (at_of tX10_writeFault 0 8 rfl) (le_i (by omega)) | exact go_reti (at_of tX10_writeFault 0 8 rfl) (le_i (by first | exact bI_t (by omega) | exact bI_f (by omega)))
end Mod3
