/-! Papers, the past, what is small, and the office are made. -/
section Made2
variable {σ : St} {k : Nat}
theorem Zr.nxt (h : Zr σ) : Zr (nxt σ) := fun x j hx => h x j (Nat.le_of_succ_le hx)
theorem Zr.PR {a j q : Nat} (h : Zr σ) (ha : a < σ.2.2) : Zr (PR σ a j q) := fun x i hx => ⟨(h x i hx).1, by rw [PR_f, if_neg (by have : σ.2.2 ≤ x := hx; omega)]; exact (h x i hx).2⟩
theorem Zr.P1 {a j : Nat} {z : Int} (h : Zr σ) (ha : a < σ.2.2) : Zr (P1 σ a j z) := fun x i hx => ⟨by rw [P1_f, if_neg (by have : σ.2.2 ≤ x := hx; omega)]; exact (h x i hx).1, (h x i hx).2⟩
/-- the pointers of a paper -/
def SlP (P : Nat → Nat → Option Nat) (k : Nat) : Prop := (P (3 + 10 * k) 0 = some (4 + 10 * k) ∧ P (3 + 10 * k) 1 = some (8 + 10 * k) ∧ P (3 + 10 * k) 2 = some (12 + 10 * k)) ∧ (P (4 + 10 * k) 0 = some (5 + 10 * k) ∧ P (4 + 10 * k) 1 = some (6 + 10 * k) ∧ P (4 + 10 * k) 2 = some (7 + 10 * k)) ∧ P (8 + 10 * k) 0 = some (9 + 10 * k) ∧ P (8 + 10 * k) 1 = some (10 + 10 * k) ∧ P (8 + 10 * k) 2 = some (11 + 10 * k)
theorem SlP.of {P P' : Nat → Nat → Option Nat} (h : SlP P k) (hP : ∀ x j, 3 + 10 * k ≤ x → x < 13 + 10 * k → P' x j = P x j) : SlP P' k := by
  obtain ⟨⟨a, b, c⟩, ⟨d, e, f⟩, g, i, l⟩ := h
  exact ⟨⟨by rw [hP _ _ (by omega) (by omega)]; exact a, by rw [hP _ _ (by omega) (by omega)]; exact b, by rw [hP _ _ (by omega) (by omega)]; exact c⟩, ⟨by rw [hP _ _ (by omega) (by omega)]; exact d, by rw [hP _ _ (by omega) (by omega)]; exact e, by rw [hP _ _ (by omega) (by omega)]; exact f⟩, by rw [hP _ _ (by omega) (by omega)]; exact g, by rw [hP _ _ (by omega) (by omega)]; exact i, by rw [hP _ _ (by omega) (by omega)]; exact l⟩
theorem mk_paper (hk : k < 8) (hc : σ.2.2 = 4 + 10 * k) (hz : Zr σ) : ∃ σ', Con 1 mX4_init 9 2431 [vA (3 + 10 * k)] σ (vT 8 0, σ') ∧ Nw (3 + 10 * k) (13 + 10 * k) σ σ' ∧ SlP σ'.2.1 k ∧ RepP σ' k D0 := by
  obtain ⟨g1, g2, g3, g4, g5, g6, g7, g8, g9, g10⟩ := gamk k hk
  obtain ⟨σ1, c1, ⟨e1, f1, z1⟩, ⟨p1, p2, p3⟩, r1⟩ := mk_row (σ := nxt σ) hk (by show σ.2.2 + 1 = _; omega) hz.nxt (fun j => (hz _ j (by omega)).1)
  obtain ⟨σ2, c2, ⟨e2, f2, z2⟩, ⟨q1, q2, q3⟩, r2⟩ := mk_log (σ := (nxt (PR σ1 (3 + 10 * k) 0 (4 + 10 * k)))) hk (by show σ1.2.2 + 1 = _; omega) (z1.PR (by omega)).nxt
  have F1 : ∀ x j, x < 8 + 10 * k → (PR (nxt (PR σ2 (3 + 10 * k) 1 (8 + 10 * k))) (3 + 10 * k) 2 (12 + 10 * k)).1 x j = σ1.1 x j := fun x j hx => by rw [PR_1, nxt_1, PR_1, (f2 x j hx).1, nxt_1, PR_1]
  have F2 : ∀ x j, x < 8 + 10 * k → x ≠ 3 + 10 * k → (PR (nxt (PR σ2 (3 + 10 * k) 1 (8 + 10 * k))) (3 + 10 * k) 2 (12 + 10 * k)).2.1 x j = σ1.2.1 x j := fun x j hx hn => by rw [PR_f, if_neg (fun y => hn y.1), nxt_21, PR_f, if_neg (fun y => hn y.1), (f2 x j hx).2, nxt_21, PR_f, if_neg (fun y => hn y.1)]
  have F3 : ∀ x j, x ≠ 3 + 10 * k → (PR (nxt (PR σ2 (3 + 10 * k) 1 (8 + 10 * k))) (3 + 10 * k) 2 (12 + 10 * k)).2.1 x j = σ2.2.1 x j := fun x j hn => by rw [PR_f, if_neg (fun y => hn y.1), nxt_21, PR_f, if_neg (fun y => hn y.1)]
  refine ⟨(PR (nxt (PR σ2 (3 + 10 * k) 1 (8 + 10 * k))) (3 + 10 * k) 2 (12 + 10 * k)), ?_, ⟨?_, fun x j hx => ⟨?_, ?_⟩, fun x j hx => ⟨?_, ?_⟩⟩, ⟨⟨?_, ?_, ?_⟩, ⟨?_, ?_, ?_⟩, ?_, ?_, ?_⟩, ?_⟩
  · refine con_of_go mfX4_init.1 trivial (Nat.le_of_ble_eq_true rfl) rfl (by decide) ?_
    show Go _ _ _ _ 0 [vA _] [] _ _
    refine go_aload_n (at_of tX4_init 0 0 rfl) rfl ?_
    refine go_objInit (inL 78 (by decide +kernel) (by decide +kernel)) (at_of tX4_init 0 1 rfl) (Nat.le_of_ble_eq_true rfl) ?_
    refine go_aload_n (at_of tX4_init 0 2 rfl) rfl ?_
    refine go_newO (a := (4 + 10 * k)) (ci := 7) (by show σ.2.2 = _; omega) g2 (by decide) cl_X4_9 ins_7 ini_7 ⟨by decide, by decide⟩ (at_of tX4_init 0 3 rfl) ?_
    refine go_dup (at_of tX4_init 0 4 rfl) rfl ?_
    refine go_cI (c1) lk_X4_11 rfl (at_of tX4_init 0 5 rfl) rfl (by decide) rfl (Nat.le_of_ble_eq_true rfl) rfl ⟨by decide, by decide⟩ ?_
    refine go_putr fp_X4_12 rfl (Or.inr ⟨rfl, rfl, rfl⟩) g1 (at_of tX4_init 0 6 rfl) ?_
    refine go_aload_n (at_of tX4_init 0 7 rfl) rfl ?_
    refine go_newO (a := (8 + 10 * k)) (ci := 2) (by show σ1.2.2 = _; omega) g6 (by decide) cl_X4_18 ins_2 ini_2 ⟨by decide, by decide⟩ (at_of tX4_init 0 8 rfl) ?_
    refine go_dup (at_of tX4_init 0 9 rfl) rfl ?_
    refine go_cJ (c2) lk_X4_20 rfl (at_of tX4_init 0 10 rfl) rfl (by decide) rfl (Nat.le_of_ble_eq_true rfl) rfl ⟨by decide, by decide⟩ ?_
    refine go_putr fp_X4_21 rfl (Or.inr ⟨rfl, rfl, rfl⟩) g1 (at_of tX4_init 0 11 rfl) ?_
    refine go_aload_n (at_of tX4_init 0 12 rfl) rfl ?_
    refine go_bipush (at_of tX4_init 0 13 rfl) (by decide) ?_
    refine go_newI (a := (12 + 10 * k)) (n := 20) (by show σ2.2.2 = _; omega) g10 (by decide) (inL 98 (by decide +kernel) (by decide +kernel)) ⟨by decide, by decide⟩ (at_of tX4_init 0 14 rfl) ?_
    refine go_putr fp_X4_25 rfl (Or.inr ⟨rfl, rfl, rfl⟩) g1 (at_of tX4_init 0 15 rfl) ?_
    exact go_retv (at_of tX4_init 1 0 rfl) rfl
  · show σ2.2.2 + 1 = _
    omega
  · rw [F1 x j (by omega), (f1 x j (by omega)).1]; rfl
  · rw [F2 x j (by omega) (by omega), (f1 x j (by omega)).2]; rfl
  · have hx2 : σ2.2.2 + 1 ≤ x := hx
    exact (z2 x j (by omega)).1
  · have hx2 : σ2.2.2 + 1 ≤ x := hx
    rw [F3 x j (by omega)]
    exact (z2 x j (by omega)).2
  · rw [PR_f, if_neg (by omega), nxt_21, PR_f, if_neg (by omega), (f2 _ _ (by omega)).2, nxt_21, PR_f, if_pos (by omega)]
  · rw [PR_f, if_neg (by omega), nxt_21, PR_f, if_pos (by omega)]
  · rw [PR_f, if_pos (by omega)]
  · rw [F2 _ _ (by omega) (by omega)]; exact p1
  · rw [F2 _ _ (by omega) (by omega)]; exact p2
  · rw [F2 _ _ (by omega) (by omega)]; exact p3
  · rw [F3 _ _ (by omega)]; exact q1
  · rw [F3 _ _ (by omega)]; exact q2
  · rw [F3 _ _ (by omega)]; exact q3
  · exact ⟨r1.eqs (fun a h1 h2 j => F1 a j (by omega)), r2.eqs (fun a h1 h2 j => rfl), fun c c0 c1 => (z2 _ _ (by omega)).1⟩
def PaI (i : Nat) (σ τ : St) : Prop := τ.2.2 = 3 + 10 * i ∧ Zr τ ∧ (∀ x j, x < 1 → τ.1 x j = σ.1 x j ∧ τ.2.1 x j = σ.2.1 x j) ∧ (τ.2.1 1 0 = some 2 ∧ τ.1 1 1 = 0 ∧ τ.1 1 2 = 0) ∧ (∀ j, j < i → τ.2.1 2 j = some (3 + 10 * j) ∧ SlP τ.2.1 j) ∧ (0 < i → RepP τ 0 D0)
theorem pa_step {i q : Nat} {z : Int} {τ : St} (h : PaI i σ τ) (hi : i < 7) (hzi : z.toNat = i) (hq : q = 3 + 10 * i) : ∃ τ', Con 1 mX4_init 9 2431 [vA q] (nxt τ) (vT 8 0, τ') ∧ τ'.2.2 = 13 + 10 * i ∧ PaI (i + 1) σ (PR τ' 2 z.toNat q) ∧ (PR τ' 2 z.toNat q).2.1 1 0 = some 2 := by
  subst hq
  rw [hzi]
  obtain ⟨a, b, c, ⟨d1, d2, d3⟩, e, f⟩ := h
  obtain ⟨τ', k1, ⟨k2, k3, k4⟩, k5, k6⟩ := mk_paper (k := i) (σ := nxt τ) (by omega) (by show τ.2.2 + 1 = _; omega) b.nxt
  have l1 : ∀ x j, x < 3 + 10 * i → τ'.1 x j = τ.1 x j := fun x j hx => (k3 x j hx).1
  have l2 : ∀ x j, x < 3 + 10 * i → τ'.2.1 x j = τ.2.1 x j := fun x j hx => (k3 x j hx).2
  refine ⟨τ', k1, k2, ⟨by show τ'.2.2 = _; omega, k4.PR (by omega), fun x j hx => ⟨?_, ?_⟩, ⟨?_, ?_, ?_⟩, fun j hj => ⟨?_, ?_⟩, fun _ => ?_⟩, ?_⟩
  · rw [PR_1, l1 x j (by omega)]; exact (c x j hx).1
  · rw [PR_f, if_neg (by omega), l2 x j (by omega)]; exact (c x j hx).2
  · rw [PR_f, if_neg (by omega), l2 1 0 (by omega)]; exact d1
  · rw [PR_1, l1 1 1 (by omega)]; exact d2
  · rw [PR_1, l1 1 2 (by omega)]; exact d3
  · rw [PR_f]
    by_cases q : j = i
    · rw [if_pos ⟨rfl, q⟩, q]
    · rw [if_neg (fun y => q y.2), l2 2 j (by omega)]; exact (e j (by omega)).1
  · by_cases q : j = i
    · rw [q]; exact k5.of (fun x y h1 h2 => by rw [PR_f, if_neg (by omega)])
    · exact (e j (by omega)).2.of (fun x y h1 h2 => by rw [PR_f, if_neg (by omega), l2 x y (by omega)])
  · by_cases q : i = 0
    · subst q
      exact k6.eqs (fun a h1 h2 j => rfl)
    · exact (f (by omega)).eqs (fun a h1 h2 j => by rw [PR_1, l1 a j (by omega)])
  · rw [PR_f, if_neg (by omega), l2 1 0 (by omega)]; exact d1
theorem mk_past (hc : σ.2.2 = 2) (hz : Zr σ) : ∃ σ', Con 2 mX5_init 71 17045 [vA 1] σ (vT 8 0, σ') ∧ PaI 7 σ σ' := by
  have b0 : PaI 0 σ (P1 (P1 (PR (nxt σ) 1 0 2) 1 1 0) 1 2 0) := ⟨by show σ.2.2 + 1 = _; omega, ((hz.nxt.PR (by show 1 < σ.2.2 + 1; omega)).P1 (by show 1 < σ.2.2 + 1; omega)).P1 (by show 1 < σ.2.2 + 1; omega), fun x j hx => ⟨by rw [P1_ne (by omega), P1_ne (by omega), PR_1, nxt_1], by rw [P1_2, P1_2, PR_f, if_neg (by omega), nxt_21]⟩, ⟨by rw [P1_2, P1_2, PR_f, if_pos ⟨rfl, rfl⟩], by rw [P1_nj (by decide), P1_eq], P1_eq⟩, fun j hj => absurd hj (Nat.not_lt_zero j), fun y => absurd y (by decide)⟩
  obtain ⟨τ0, c0, e0, b1, d0⟩ := pa_step (i := 0) (z := 0) (q := 3) b0 (by decide) (by decide) rfl
  obtain ⟨τ1, c1, e1, b2, d1⟩ := pa_step (i := 1) (z := (0 + 1)) (q := 13) b1 (by decide) (by decide) rfl
  obtain ⟨τ2, c2, e2, b3, d2⟩ := pa_step (i := 2) (z := ((0 + 1) + 1)) (q := 23) b2 (by decide) (by decide) rfl
  obtain ⟨τ3, c3, e3, b4, d3⟩ := pa_step (i := 3) (z := (((0 + 1) + 1) + 1)) (q := 33) b3 (by decide) (by decide) rfl
  obtain ⟨τ4, c4, e4, b5, d4⟩ := pa_step (i := 4) (z := ((((0 + 1) + 1) + 1) + 1)) (q := 43) b4 (by decide) (by decide) rfl
  obtain ⟨τ5, c5, e5, b6, d5⟩ := pa_step (i := 5) (z := (((((0 + 1) + 1) + 1) + 1) + 1)) (q := 53) b5 (by decide) (by decide) rfl
  obtain ⟨τ6, c6, e6, b7, d6⟩ := pa_step (i := 6) (z := ((((((0 + 1) + 1) + 1) + 1) + 1) + 1)) (q := 63) b6 (by decide) (by decide) rfl
  refine ⟨(PR τ6 2 (Int.toNat ((((((0 + 1) + 1) + 1) + 1) + 1) + 1)) 63), ?_, b7⟩
  · refine con_of_go mfX5_init.1 trivial (Nat.le_of_ble_eq_true rfl) rfl (by decide) ?_
    show Go _ _ _ _ 0 [vA _, vT 9 0] [] _ _
    refine go_aload_n (at_of tX5_init 0 0 rfl) rfl ?_
    refine go_objInit (inL 71 (by decide +kernel) (by decide +kernel)) (at_of tX5_init 0 1 rfl) (Nat.le_of_ble_eq_true rfl) ?_
    refine go_aload_n (at_of tX5_init 0 2 rfl) rfl ?_
    refine go_bipush (at_of tX5_init 0 3 rfl) (by decide) ?_
    refine go_newP (a := 2) (n := 7) (by show σ.2.2 = _; omega) g2_ (by decide) cl_X5_9 ⟨by decide, by decide⟩ (at_of tX5_init 0 4 rfl) ?_
    refine go_putr fp_X5_11 rfl (Or.inr ⟨rfl, rfl, rfl⟩) g1_ (at_of tX5_init 0 5 rfl) ?_
    refine go_aload_n (at_of tX5_init 0 6 rfl) rfl ?_
    refine go_iconst (at_of tX5_init 0 7 rfl) (by unfold in32; omega) ?_
    refine go_put1 fp_X5_17 rfl (Or.inl rfl) g1_ (Or.inl rfl) (at_of tX5_init 0 8 rfl) ?_
    refine go_aload_n (at_of tX5_init 0 9 rfl) rfl ?_
    refine go_iconst (at_of tX5_init 0 10 rfl) (by unfold in32; omega) ?_
    refine go_put1 fp_X5_21 rfl (Or.inl rfl) g1_ (Or.inl rfl) (at_of tX5_init 0 11 rfl) ?_
    refine go_iconst (at_of tX5_init 0 12 rfl) (by unfold in32; omega) ?_
    refine go_istore_n (at_of tX5_init 0 13 rfl) rfl rfl ?_
    refine go_iload_n (at_of tX5_init 0 14 rfl) rfl ?_
    refine go_bipush (at_of tX5_init 0 15 rfl) (by decide) ?_
    refine go_icmp_gt (tgt := 50) (at_of tX5_init 1 0 rfl) (by decide) (fun hz_ => ?_) (fun hz_ => ?_)
    · exfalso; omega
    clear hz_
    refine go_aload_n (at_of tX5_init 1 1 rfl) rfl ?_
    refine go_getr (q := 2) fl_X5_11 rfl g1_ (show (P1 (P1 (PR (nxt σ) 1 0 2) 1 1 0) 1 2 0).2.1 1 0 = some 2 from (by rw [P1_2, P1_2, PR_f, if_pos ⟨rfl, rfl⟩])) (at_of tX5_init 1 2 rfl) ?_
    refine go_iload_n (at_of tX5_init 1 3 rfl) rfl ?_
    refine go_newO (a := 3) (ci := 4) (by show σ.2.2 + 1 = _; omega) (gamk 0 (by decide)).1 (by decide) cl_X5_9 ins_4 ini_4 ⟨by decide, by decide⟩ (at_of tX5_init 1 4 rfl) ?_
    refine go_dup (at_of tX5_init 1 5 rfl) rfl ?_
    refine go_cJ (c0) lk_X5_24 rfl (at_of tX5_init 1 6 rfl) rfl (by decide) rfl (Nat.le_of_ble_eq_true rfl) rfl ⟨by decide, by decide⟩ ?_
    refine go_aast (ci := 0) g2_ (by omega) (by omega) (gamk 0 (by decide)).1 (at_of tX5_init 1 7 rfl) ?_
    refine go_iinc (at_of tX5_init 1 8 rfl) rfl (by unfold in32; omega) rfl rfl ?_
    refine go_goto (tgt := 25) (at_of tX5_init 1 9 rfl) (by decide) ?_
    refine go_iload_n (at_of tX5_init 0 14 rfl) rfl ?_
    refine go_bipush (at_of tX5_init 0 15 rfl) (by decide) ?_
    refine go_icmp_gt (tgt := 50) (at_of tX5_init 1 0 rfl) (by decide) (fun hz_ => ?_) (fun hz_ => ?_)
    · exfalso; omega
    clear hz_
    refine go_aload_n (at_of tX5_init 1 1 rfl) rfl ?_
    refine go_getr (q := 2) fl_X5_11 rfl g1_ d0 (at_of tX5_init 1 2 rfl) ?_
    refine go_iload_n (at_of tX5_init 1 3 rfl) rfl ?_
    refine go_newO (a := 13) (ci := 4) (by show τ0.2.2 = _; omega) (gamk 1 (by decide)).1 (by decide) cl_X5_9 ins_4 ini_4 ⟨by decide, by decide⟩ (at_of tX5_init 1 4 rfl) ?_
    refine go_dup (at_of tX5_init 1 5 rfl) rfl ?_
    refine go_cJ (c1) lk_X5_24 rfl (at_of tX5_init 1 6 rfl) rfl (by decide) rfl (Nat.le_of_ble_eq_true rfl) rfl ⟨by decide, by decide⟩ ?_
    refine go_aast (ci := 0) g2_ (by omega) (by omega) (gamk 1 (by decide)).1 (at_of tX5_init 1 7 rfl) ?_
    refine go_iinc (at_of tX5_init 1 8 rfl) rfl (by unfold in32; omega) rfl rfl ?_
    refine go_goto (tgt := 25) (at_of tX5_init 1 9 rfl) (by decide) ?_
    refine go_iload_n (at_of tX5_init 0 14 rfl) rfl ?_
    refine go_bipush (at_of tX5_init 0 15 rfl) (by decide) ?_
    refine go_icmp_gt (tgt := 50) (at_of tX5_init 1 0 rfl) (by decide) (fun hz_ => ?_) (fun hz_ => ?_)
    · exfalso; omega
    clear hz_
    refine go_aload_n (at_of tX5_init 1 1 rfl) rfl ?_
    refine go_getr (q := 2) fl_X5_11 rfl g1_ d1 (at_of tX5_init 1 2 rfl) ?_
    refine go_iload_n (at_of tX5_init 1 3 rfl) rfl ?_
    refine go_newO (a := 23) (ci := 4) (by show τ1.2.2 = _; omega) (gamk 2 (by decide)).1 (by decide) cl_X5_9 ins_4 ini_4 ⟨by decide, by decide⟩ (at_of tX5_init 1 4 rfl) ?_
    refine go_dup (at_of tX5_init 1 5 rfl) rfl ?_
    refine go_cJ (c2) lk_X5_24 rfl (at_of tX5_init 1 6 rfl) rfl (by decide) rfl (Nat.le_of_ble_eq_true rfl) rfl ⟨by decide, by decide⟩ ?_
    refine go_aast (ci := 0) g2_ (by omega) (by omega) (gamk 2 (by decide)).1 (at_of tX5_init 1 7 rfl) ?_
    refine go_iinc (at_of tX5_init 1 8 rfl) rfl (by unfold in32; omega) rfl rfl ?_
    refine go_goto (tgt := 25) (at_of tX5_init 1 9 rfl) (by decide) ?_
    refine go_iload_n (at_of tX5_init 0 14 rfl) rfl ?_
    refine go_bipush (at_of tX5_init 0 15 rfl) (by decide) ?_
    refine go_icmp_gt (tgt := 50) (at_of tX5_init 1 0 rfl) (by decide) (fun hz_ => ?_) (fun hz_ => ?_)
    · exfalso; omega
    clear hz_
    refine go_aload_n (at_of tX5_init 1 1 rfl) rfl ?_
    refine go_getr (q := 2) fl_X5_11 rfl g1_ d2 (at_of tX5_init 1 2 rfl) ?_
    refine go_iload_n (at_of tX5_init 1 3 rfl) rfl ?_
    refine go_newO (a := 33) (ci := 4) (by show τ2.2.2 = _; omega) (gamk 3 (by decide)).1 (by decide) cl_X5_9 ins_4 ini_4 ⟨by decide, by decide⟩ (at_of tX5_init 1 4 rfl) ?_
    refine go_dup (at_of tX5_init 1 5 rfl) rfl ?_
    refine go_cJ (c3) lk_X5_24 rfl (at_of tX5_init 1 6 rfl) rfl (by decide) rfl (Nat.le_of_ble_eq_true rfl) rfl ⟨by decide, by decide⟩ ?_
    refine go_aast (ci := 0) g2_ (by omega) (by omega) (gamk 3 (by decide)).1 (at_of tX5_init 1 7 rfl) ?_
    refine go_iinc (at_of tX5_init 1 8 rfl) rfl (by unfold in32; omega) rfl rfl ?_
    refine go_goto (tgt := 25) (at_of tX5_init 1 9 rfl) (by decide) ?_
    refine go_iload_n (at_of tX5_init 0 14 rfl) rfl ?_
    refine go_bipush (at_of tX5_init 0 15 rfl) (by decide) ?_
    refine go_icmp_gt (tgt := 50) (at_of tX5_init 1 0 rfl) (by decide) (fun hz_ => ?_) (fun hz_ => ?_)
    · exfalso; omega
    clear hz_
    refine go_aload_n (at_of tX5_init 1 1 rfl) rfl ?_
    refine go_getr (q := 2) fl_X5_11 rfl g1_ d3 (at_of tX5_init 1 2 rfl) ?_
    refine go_iload_n (at_of tX5_init 1 3 rfl) rfl ?_
    refine go_newO (a := 43) (ci := 4) (by show τ3.2.2 = _; omega) (gamk 4 (by decide)).1 (by decide) cl_X5_9 ins_4 ini_4 ⟨by decide, by decide⟩ (at_of tX5_init 1 4 rfl) ?_
    refine go_dup (at_of tX5_init 1 5 rfl) rfl ?_
    refine go_cJ (c4) lk_X5_24 rfl (at_of tX5_init 1 6 rfl) rfl (by decide) rfl (Nat.le_of_ble_eq_true rfl) rfl ⟨by decide, by decide⟩ ?_
    refine go_aast (ci := 0) g2_ (by omega) (by omega) (gamk 4 (by decide)).1 (at_of tX5_init 1 7 rfl) ?_
    refine go_iinc (at_of tX5_init 1 8 rfl) rfl (by unfold in32; omega) rfl rfl ?_
    refine go_goto (tgt := 25) (at_of tX5_init 1 9 rfl) (by decide) ?_
    refine go_iload_n (at_of tX5_init 0 14 rfl) rfl ?_
    refine go_bipush (at_of tX5_init 0 15 rfl) (by decide) ?_
    refine go_icmp_gt (tgt := 50) (at_of tX5_init 1 0 rfl) (by decide) (fun hz_ => ?_) (fun hz_ => ?_)
    · exfalso; omega
    clear hz_
    refine go_aload_n (at_of tX5_init 1 1 rfl) rfl ?_
    refine go_getr (q := 2) fl_X5_11 rfl g1_ d4 (at_of tX5_init 1 2 rfl) ?_
    refine go_iload_n (at_of tX5_init 1 3 rfl) rfl ?_
    refine go_newO (a := 53) (ci := 4) (by show τ4.2.2 = _; omega) (gamk 5 (by decide)).1 (by decide) cl_X5_9 ins_4 ini_4 ⟨by decide, by decide⟩ (at_of tX5_init 1 4 rfl) ?_
    refine go_dup (at_of tX5_init 1 5 rfl) rfl ?_
    refine go_cJ (c5) lk_X5_24 rfl (at_of tX5_init 1 6 rfl) rfl (by decide) rfl (Nat.le_of_ble_eq_true rfl) rfl ⟨by decide, by decide⟩ ?_
    refine go_aast (ci := 0) g2_ (by omega) (by omega) (gamk 5 (by decide)).1 (at_of tX5_init 1 7 rfl) ?_
    refine go_iinc (at_of tX5_init 1 8 rfl) rfl (by unfold in32; omega) rfl rfl ?_
    refine go_goto (tgt := 25) (at_of tX5_init 1 9 rfl) (by decide) ?_
    refine go_iload_n (at_of tX5_init 0 14 rfl) rfl ?_
    refine go_bipush (at_of tX5_init 0 15 rfl) (by decide) ?_
    refine go_icmp_gt (tgt := 50) (at_of tX5_init 1 0 rfl) (by decide) (fun hz_ => ?_) (fun hz_ => ?_)
    · exfalso; omega
    clear hz_
    refine go_aload_n (at_of tX5_init 1 1 rfl) rfl ?_
    refine go_getr (q := 2) fl_X5_11 rfl g1_ d5 (at_of tX5_init 1 2 rfl) ?_
    refine go_iload_n (at_of tX5_init 1 3 rfl) rfl ?_
    refine go_newO (a := 63) (ci := 4) (by show τ5.2.2 = _; omega) (gamk 6 (by decide)).1 (by decide) cl_X5_9 ins_4 ini_4 ⟨by decide, by decide⟩ (at_of tX5_init 1 4 rfl) ?_
    refine go_dup (at_of tX5_init 1 5 rfl) rfl ?_
    refine go_cJ (c6) lk_X5_24 rfl (at_of tX5_init 1 6 rfl) rfl (by decide) rfl (Nat.le_of_ble_eq_true rfl) rfl ⟨by decide, by decide⟩ ?_
    refine go_aast (ci := 0) g2_ (by omega) (by omega) (gamk 6 (by decide)).1 (at_of tX5_init 1 7 rfl) ?_
    refine go_iinc (at_of tX5_init 1 8 rfl) rfl (by unfold in32; omega) rfl rfl ?_
    refine go_goto (tgt := 25) (at_of tX5_init 1 9 rfl) (by decide) ?_
    refine go_iload_n (at_of tX5_init 0 14 rfl) rfl ?_
    refine go_bipush (at_of tX5_init 0 15 rfl) (by decide) ?_
    refine go_icmp_gt (tgt := 50) (at_of tX5_init 1 0 rfl) (by decide) (fun hz_ => ?_) (fun hz_ => ?_)
    rotate_left
    · exfalso; omega
    clear hz_
    exact go_retv (at_of tX5_init 1 10 rfl) rfl
def iv (x j : Nat) : Int := if x = 83 ∧ j = 3 then 1 else if x = 84 ∧ j = 0 then -1 else if x = 88 ∧ j < 9 then 100 else if x = 98 ∧ j = 0 then 20 else if x = 98 ∧ j = 1 then 8 else 0
theorem mk_X8 (hc : σ.2.2 = 84) (hz : Zr σ) (h0 : ∀ j, σ.1 83 j = 0) : ∃ σ', Con 0 mX8_init 3 24 [vA 83] σ (vT 8 0, σ') ∧ Nw 83 87 σ σ' ∧ (σ'.2.1 83 0 = some 84 ∧ σ'.2.1 83 1 = some 85 ∧ σ'.2.1 83 2 = some 86) ∧ ∀ x j, 83 ≤ x → x < 87 → σ'.1 x j = iv x j := by
  refine ⟨(M1 (P1 (PR (nxt (PR (nxt (PR (nxt σ) 83 0 84)) 83 1 85)) 83 2 86) 83 3 1) 84 0 (-1)), ?_, ⟨?_, fun x j hx => ⟨?_, ?_⟩, fun x j hx => ⟨?_, ?_⟩⟩, ?_, fun x j hx hx9 => ?_⟩
  · refine con_of_go mfX8_init.1 trivial (Nat.le_of_ble_eq_true rfl) rfl (by decide) ?_
    show Go _ _ _ _ 0 [vA _] [] _ _
    refine go_aload_n (at_of tX8_init 0 0 rfl) rfl ?_
    refine go_objInit (inL 148 (by decide +kernel) (by decide +kernel)) (at_of tX8_init 0 1 rfl) (Nat.le_of_ble_eq_true rfl) ?_
    refine go_aload_n (at_of tX8_init 0 2 rfl) rfl ?_
    refine go_bipush (at_of tX8_init 0 3 rfl) (by decide) ?_
    refine go_newI (a := 84) (n := 8) (by show σ.2.2 = _; omega) G_84 (by decide) (inL 98 (by decide +kernel) (by decide +kernel)) ⟨by decide, by decide⟩ (at_of tX8_init 0 4 rfl) ?_
    refine go_putr fp_X8_9 rfl (Or.inr ⟨rfl, rfl, rfl⟩) G_83 (at_of tX8_init 0 5 rfl) ?_
    refine go_aload_n (at_of tX8_init 0 6 rfl) rfl ?_
    refine go_bipush (at_of tX8_init 0 7 rfl) (by decide) ?_
    refine go_newI (a := 85) (n := 8) (by show σ.2.2 + 1 = _; omega) G_85 (by decide) (inL 98 (by decide +kernel) (by decide +kernel)) ⟨by decide, by decide⟩ (at_of tX8_init 0 8 rfl) ?_
    refine go_putr fp_X8_15 rfl (Or.inr ⟨rfl, rfl, rfl⟩) G_83 (at_of tX8_init 0 9 rfl) ?_
    refine go_aload_n (at_of tX8_init 0 10 rfl) rfl ?_
    refine go_bipush (at_of tX8_init 0 11 rfl) (by decide) ?_
    refine go_newI (a := 86) (n := 8) (by show σ.2.2 + 1 + 1 = _; omega) G_86 (by decide) (inL 98 (by decide +kernel) (by decide +kernel)) ⟨by decide, by decide⟩ (at_of tX8_init 0 12 rfl) ?_
    refine go_putr fp_X8_18 rfl (Or.inr ⟨rfl, rfl, rfl⟩) G_83 (at_of tX8_init 0 13 rfl) ?_
    refine go_aload_n (at_of tX8_init 0 14 rfl) rfl ?_
    refine go_iconst (at_of tX8_init 0 15 rfl) (by unfold in32; omega) ?_
    refine go_put1 fp_X8_21 rfl (Or.inl rfl) G_83 (Or.inl rfl) (at_of tX8_init 1 0 rfl) ?_
    refine go_aload_n (at_of tX8_init 1 1 rfl) rfl ?_
    refine go_getr (q := 84) fl_X8_9 rfl G_83 (by simp [PR, nxt, P1, M1, updP, upd2]) (at_of tX8_init 1 2 rfl) ?_
    refine go_iconst (at_of tX8_init 1 3 rfl) (by unfold in32; omega) ?_
    refine go_iconst (at_of tX8_init 1 4 rfl) (by unfold in32; omega) ?_
    refine go_iast1 G_84 (by omega) (by omega) (at_of tX8_init 1 5 rfl) ?_
    exact go_retv (at_of tX8_init 1 6 rfl) rfl
  · show σ.2.2 + 1 + 1 + 1 = _
    omega
  · simp only [PR_1, nxt_1, P1_f, M1_f]
    repeat rw [if_neg (by omega)]
  · simp only [PR_f, nxt_21, P1_2, M1_2]
    repeat rw [if_neg (by omega)]
  · have hx2 : σ.2.2 + 1 + 1 + 1 ≤ x := hx
    simp only [PR_1, nxt_1, P1_f, M1_f]
    repeat rw [if_neg (by omega)]
    exact (hz x j (by omega)).1
  · have hx2 : σ.2.2 + 1 + 1 + 1 ≤ x := hx
    simp only [PR_f, nxt_21, P1_2, M1_2]
    repeat rw [if_neg (by omega)]
    exact (hz x j (by omega)).2
  · refine ⟨?_, ?_, ?_⟩ <;> simp [PR_f, nxt_21, P1_2, M1_2]
  · have e : σ.1 x j = 0 := by
      by_cases q : x = 83
      · rw [q]; exact h0 j
      · exact (hz x j (by omega)).1
    simp only [PR_1, nxt_1, P1_f, M1_f]
    rw [e]
    unfold iv
    repeat' split
    all_goals omega
theorem mk_X3 (hc : σ.2.2 = 88) (hz : Zr σ) (h0 : ∀ j, σ.1 87 j = 0) : ∃ σ', Con 0 mX3_init 4 143 [vA 87] σ (vT 8 0, σ') ∧ Nw 87 92 σ σ' ∧ (σ'.2.1 87 0 = some 88 ∧ σ'.2.1 87 1 = some 89 ∧ σ'.2.1 87 2 = some 90 ∧ σ'.2.1 87 3 = some 91) ∧ ∀ x j, 87 ≤ x → x < 92 → σ'.1 x j = iv x j := by
  refine ⟨(M1 (M1 (M1 (M1 (M1 (M1 (M1 (M1 (M1 (P1 (PR (nxt (PR (nxt (PR (nxt (PR (nxt σ) 87 0 88)) 87 1 89)) 87 2 90)) 87 3 91) 87 4 0) 88 0 100) 88 (0 + 1) 100) 88 ((0 + 1) + 1) 100) 88 (((0 + 1) + 1) + 1) 100) 88 ((((0 + 1) + 1) + 1) + 1) 100) 88 (((((0 + 1) + 1) + 1) + 1) + 1) 100) 88 ((((((0 + 1) + 1) + 1) + 1) + 1) + 1) 100) 88 (((((((0 + 1) + 1) + 1) + 1) + 1) + 1) + 1) 100) 88 ((((((((0 + 1) + 1) + 1) + 1) + 1) + 1) + 1) + 1) 100), ?_, ⟨?_, fun x j hx => ⟨?_, ?_⟩, fun x j hx => ⟨?_, ?_⟩⟩, ?_, fun x j hx hx9 => ?_⟩
  · refine con_of_go mfX3_init.1 trivial (Nat.le_of_ble_eq_true rfl) rfl (by decide) ?_
    show Go _ _ _ _ 0 [vA _, vT 9 0] [] _ _
    refine go_aload_n (at_of tX3_init 0 0 rfl) rfl ?_
    refine go_objInit (inL 167 (by decide +kernel) (by decide +kernel)) (at_of tX3_init 0 1 rfl) (Nat.le_of_ble_eq_true rfl) ?_
    refine go_aload_n (at_of tX3_init 0 2 rfl) rfl ?_
    refine go_bipush (at_of tX3_init 0 3 rfl) (by decide) ?_
    refine go_newI (a := 88) (n := 9) (by show σ.2.2 = _; omega) G_88 (by decide) (inL 98 (by decide +kernel) (by decide +kernel)) ⟨by decide, by decide⟩ (at_of tX3_init 0 4 rfl) ?_
    refine go_putr fp_X3_9 rfl (Or.inr ⟨rfl, rfl, rfl⟩) G_87 (at_of tX3_init 0 5 rfl) ?_
    refine go_aload_n (at_of tX3_init 0 6 rfl) rfl ?_
    refine go_iconst (at_of tX3_init 0 7 rfl) (by unfold in32; omega) ?_
    refine go_newZ (a := 89) (n := 3) (by show σ.2.2 + 1 = _; omega) G_89 (by decide) (inL 184 (by decide +kernel) (by decide +kernel)) ⟨by decide, by decide⟩ (at_of tX3_init 0 8 rfl) ?_
    refine go_putr fp_X3_15 rfl (Or.inr ⟨rfl, rfl, rfl⟩) G_87 (at_of tX3_init 0 9 rfl) ?_
    refine go_aload_n (at_of tX3_init 0 10 rfl) rfl ?_
    refine go_iconst (at_of tX3_init 0 11 rfl) (by unfold in32; omega) ?_
    refine go_newI (a := 90) (n := 3) (by show σ.2.2 + 1 + 1 = _; omega) G_90 (by decide) (inL 98 (by decide +kernel) (by decide +kernel)) ⟨by decide, by decide⟩ (at_of tX3_init 0 12 rfl) ?_
    refine go_putr fp_X3_19 rfl (Or.inr ⟨rfl, rfl, rfl⟩) G_87 (at_of tX3_init 0 13 rfl) ?_
    refine go_aload_n (at_of tX3_init 0 14 rfl) rfl ?_
    refine go_sipush (at_of tX3_init 0 15 rfl) (by decide) ?_
    refine go_newC (a := 91) (n := 128) (by show σ.2.2 + 1 + 1 + 1 = _; omega) G_91 (by decide) (inL 185 (by decide +kernel) (by decide +kernel)) ⟨by decide, by decide⟩ (at_of tX3_init 1 0 rfl) ?_
    refine go_putr fp_X3_22 rfl (Or.inr ⟨rfl, rfl, rfl⟩) G_87 (at_of tX3_init 1 1 rfl) ?_
    refine go_aload_n (at_of tX3_init 1 2 rfl) rfl ?_
    refine go_iconst (at_of tX3_init 1 3 rfl) (by unfold in32; omega) ?_
    refine go_put1 fp_X3_26 rfl (Or.inl rfl) G_87 (Or.inl rfl) (at_of tX3_init 1 4 rfl) ?_
    refine go_iconst (at_of tX3_init 1 5 rfl) (by unfold in32; omega) ?_
    refine go_istore_n (at_of tX3_init 1 6 rfl) rfl rfl ?_
    refine go_iload_n (at_of tX3_init 1 7 rfl) rfl ?_
    refine go_bipush (at_of tX3_init 1 8 rfl) (by decide) ?_
    refine go_icmp_ge (tgt := 62) (at_of tX3_init 1 9 rfl) (by decide) (fun hz_ => ?_) (fun hz_ => ?_)
    · exfalso; omega
    clear hz_
    refine go_aload_n (at_of tX3_init 1 10 rfl) rfl ?_
    refine go_getr (q := 88) fl_X3_9 rfl G_87 (by simp [PR, nxt, P1, M1, updP, upd2]) (at_of tX3_init 1 11 rfl) ?_
    refine go_iload_n (at_of tX3_init 1 12 rfl) rfl ?_
    refine go_bipush (at_of tX3_init 1 13 rfl) (by decide) ?_
    refine go_iast1 G_88 (by omega) (by omega) (at_of tX3_init 1 14 rfl) ?_
    refine go_iinc (at_of tX3_init 1 15 rfl) rfl (by unfold in32; omega) rfl rfl ?_
    refine go_goto (tgt := 42) (at_of tX3_init 2 0 rfl) (by decide) ?_
    refine go_iload_n (at_of tX3_init 1 7 rfl) rfl ?_
    refine go_bipush (at_of tX3_init 1 8 rfl) (by decide) ?_
    refine go_icmp_ge (tgt := 62) (at_of tX3_init 1 9 rfl) (by decide) (fun hz_ => ?_) (fun hz_ => ?_)
    · exfalso; omega
    clear hz_
    refine go_aload_n (at_of tX3_init 1 10 rfl) rfl ?_
    refine go_getr (q := 88) fl_X3_9 rfl G_87 (by simp [PR, nxt, P1, M1, updP, upd2]) (at_of tX3_init 1 11 rfl) ?_
    refine go_iload_n (at_of tX3_init 1 12 rfl) rfl ?_
    refine go_bipush (at_of tX3_init 1 13 rfl) (by decide) ?_
    refine go_iast1 G_88 (by omega) (by omega) (at_of tX3_init 1 14 rfl) ?_
    refine go_iinc (at_of tX3_init 1 15 rfl) rfl (by unfold in32; omega) rfl rfl ?_
    refine go_goto (tgt := 42) (at_of tX3_init 2 0 rfl) (by decide) ?_
    refine go_iload_n (at_of tX3_init 1 7 rfl) rfl ?_
    refine go_bipush (at_of tX3_init 1 8 rfl) (by decide) ?_
    refine go_icmp_ge (tgt := 62) (at_of tX3_init 1 9 rfl) (by decide) (fun hz_ => ?_) (fun hz_ => ?_)
    · exfalso; omega
    clear hz_
    refine go_aload_n (at_of tX3_init 1 10 rfl) rfl ?_
    refine go_getr (q := 88) fl_X3_9 rfl G_87 (by simp [PR, nxt, P1, M1, updP, upd2]) (at_of tX3_init 1 11 rfl) ?_
    refine go_iload_n (at_of tX3_init 1 12 rfl) rfl ?_
    refine go_bipush (at_of tX3_init 1 13 rfl) (by decide) ?_
    refine go_iast1 G_88 (by omega) (by omega) (at_of tX3_init 1 14 rfl) ?_
    refine go_iinc (at_of tX3_init 1 15 rfl) rfl (by unfold in32; omega) rfl rfl ?_
    refine go_goto (tgt := 42) (at_of tX3_init 2 0 rfl) (by decide) ?_
    refine go_iload_n (at_of tX3_init 1 7 rfl) rfl ?_
    refine go_bipush (at_of tX3_init 1 8 rfl) (by decide) ?_
    refine go_icmp_ge (tgt := 62) (at_of tX3_init 1 9 rfl) (by decide) (fun hz_ => ?_) (fun hz_ => ?_)
    · exfalso; omega
    clear hz_
    refine go_aload_n (at_of tX3_init 1 10 rfl) rfl ?_
    refine go_getr (q := 88) fl_X3_9 rfl G_87 (by simp [PR, nxt, P1, M1, updP, upd2]) (at_of tX3_init 1 11 rfl) ?_
    refine go_iload_n (at_of tX3_init 1 12 rfl) rfl ?_
    refine go_bipush (at_of tX3_init 1 13 rfl) (by decide) ?_
    refine go_iast1 G_88 (by omega) (by omega) (at_of tX3_init 1 14 rfl) ?_
    refine go_iinc (at_of tX3_init 1 15 rfl) rfl (by unfold in32; omega) rfl rfl ?_
    refine go_goto (tgt := 42) (at_of tX3_init 2 0 rfl) (by decide) ?_
    refine go_iload_n (at_of tX3_init 1 7 rfl) rfl ?_
    refine go_bipush (at_of tX3_init 1 8 rfl) (by decide) ?_
    refine go_icmp_ge (tgt := 62) (at_of tX3_init 1 9 rfl) (by decide) (fun hz_ => ?_) (fun hz_ => ?_)
    · exfalso; omega
    clear hz_
    refine go_aload_n (at_of tX3_init 1 10 rfl) rfl ?_
    refine go_getr (q := 88) fl_X3_9 rfl G_87 (by simp [PR, nxt, P1, M1, updP, upd2]) (at_of tX3_init 1 11 rfl) ?_
    refine go_iload_n (at_of tX3_init 1 12 rfl) rfl ?_
    refine go_bipush (at_of tX3_init 1 13 rfl) (by decide) ?_
    refine go_iast1 G_88 (by omega) (by omega) (at_of tX3_init 1 14 rfl) ?_
    refine go_iinc (at_of tX3_init 1 15 rfl) rfl (by unfold in32; omega) rfl rfl ?_
    refine go_goto (tgt := 42) (at_of tX3_init 2 0 rfl) (by decide) ?_
    refine go_iload_n (at_of tX3_init 1 7 rfl) rfl ?_
    refine go_bipush (at_of tX3_init 1 8 rfl) (by decide) ?_
    refine go_icmp_ge (tgt := 62) (at_of tX3_init 1 9 rfl) (by decide) (fun hz_ => ?_) (fun hz_ => ?_)
    · exfalso; omega
    clear hz_
    refine go_aload_n (at_of tX3_init 1 10 rfl) rfl ?_
    refine go_getr (q := 88) fl_X3_9 rfl G_87 (by simp [PR, nxt, P1, M1, updP, upd2]) (at_of tX3_init 1 11 rfl) ?_
    refine go_iload_n (at_of tX3_init 1 12 rfl) rfl ?_
    refine go_bipush (at_of tX3_init 1 13 rfl) (by decide) ?_
    refine go_iast1 G_88 (by omega) (by omega) (at_of tX3_init 1 14 rfl) ?_
    refine go_iinc (at_of tX3_init 1 15 rfl) rfl (by unfold in32; omega) rfl rfl ?_
    refine go_goto (tgt := 42) (at_of tX3_init 2 0 rfl) (by decide) ?_
    refine go_iload_n (at_of tX3_init 1 7 rfl) rfl ?_
    refine go_bipush (at_of tX3_init 1 8 rfl) (by decide) ?_
    refine go_icmp_ge (tgt := 62) (at_of tX3_init 1 9 rfl) (by decide) (fun hz_ => ?_) (fun hz_ => ?_)
    · exfalso; omega
    clear hz_
    refine go_aload_n (at_of tX3_init 1 10 rfl) rfl ?_
    refine go_getr (q := 88) fl_X3_9 rfl G_87 (by simp [PR, nxt, P1, M1, updP, upd2]) (at_of tX3_init 1 11 rfl) ?_
    refine go_iload_n (at_of tX3_init 1 12 rfl) rfl ?_
    refine go_bipush (at_of tX3_init 1 13 rfl) (by decide) ?_
    refine go_iast1 G_88 (by omega) (by omega) (at_of tX3_init 1 14 rfl) ?_
    refine go_iinc (at_of tX3_init 1 15 rfl) rfl (by unfold in32; omega) rfl rfl ?_
    refine go_goto (tgt := 42) (at_of tX3_init 2 0 rfl) (by decide) ?_
    refine go_iload_n (at_of tX3_init 1 7 rfl) rfl ?_
    refine go_bipush (at_of tX3_init 1 8 rfl) (by decide) ?_
    refine go_icmp_ge (tgt := 62) (at_of tX3_init 1 9 rfl) (by decide) (fun hz_ => ?_) (fun hz_ => ?_)
    · exfalso; omega
    clear hz_
    refine go_aload_n (at_of tX3_init 1 10 rfl) rfl ?_
    refine go_getr (q := 88) fl_X3_9 rfl G_87 (by simp [PR, nxt, P1, M1, updP, upd2]) (at_of tX3_init 1 11 rfl) ?_
    refine go_iload_n (at_of tX3_init 1 12 rfl) rfl ?_
    refine go_bipush (at_of tX3_init 1 13 rfl) (by decide) ?_
    refine go_iast1 G_88 (by omega) (by omega) (at_of tX3_init 1 14 rfl) ?_
    refine go_iinc (at_of tX3_init 1 15 rfl) rfl (by unfold in32; omega) rfl rfl ?_
    refine go_goto (tgt := 42) (at_of tX3_init 2 0 rfl) (by decide) ?_
    refine go_iload_n (at_of tX3_init 1 7 rfl) rfl ?_
    refine go_bipush (at_of tX3_init 1 8 rfl) (by decide) ?_
    refine go_icmp_ge (tgt := 62) (at_of tX3_init 1 9 rfl) (by decide) (fun hz_ => ?_) (fun hz_ => ?_)
    · exfalso; omega
    clear hz_
    refine go_aload_n (at_of tX3_init 1 10 rfl) rfl ?_
    refine go_getr (q := 88) fl_X3_9 rfl G_87 (by simp [PR, nxt, P1, M1, updP, upd2]) (at_of tX3_init 1 11 rfl) ?_
    refine go_iload_n (at_of tX3_init 1 12 rfl) rfl ?_
    refine go_bipush (at_of tX3_init 1 13 rfl) (by decide) ?_
    refine go_iast1 G_88 (by omega) (by omega) (at_of tX3_init 1 14 rfl) ?_
    refine go_iinc (at_of tX3_init 1 15 rfl) rfl (by unfold in32; omega) rfl rfl ?_
    refine go_goto (tgt := 42) (at_of tX3_init 2 0 rfl) (by decide) ?_
    refine go_iload_n (at_of tX3_init 1 7 rfl) rfl ?_
    refine go_bipush (at_of tX3_init 1 8 rfl) (by decide) ?_
    refine go_icmp_ge (tgt := 62) (at_of tX3_init 1 9 rfl) (by decide) (fun hz_ => ?_) (fun hz_ => ?_)
    rotate_left
    · exfalso; omega
    clear hz_
    exact go_retv (at_of tX3_init 2 1 rfl) rfl
  · show σ.2.2 + 1 + 1 + 1 + 1 = _
    omega
  · simp only [PR_1, nxt_1, P1_f, M1_f]
    repeat rw [if_neg (by omega)]
  · simp only [PR_f, nxt_21, P1_2, M1_2]
    repeat rw [if_neg (by omega)]
  · have hx2 : σ.2.2 + 1 + 1 + 1 + 1 ≤ x := hx
    simp only [PR_1, nxt_1, P1_f, M1_f]
    repeat rw [if_neg (by omega)]
    exact (hz x j (by omega)).1
  · have hx2 : σ.2.2 + 1 + 1 + 1 + 1 ≤ x := hx
    simp only [PR_f, nxt_21, P1_2, M1_2]
    repeat rw [if_neg (by omega)]
    exact (hz x j (by omega)).2
  · refine ⟨?_, ?_, ?_, ?_⟩ <;> simp [PR_f, nxt_21, P1_2, M1_2]
  · have e : σ.1 x j = 0 := by
      by_cases q : x = 87
      · rw [q]; exact h0 j
      · exact (hz x j (by omega)).1
    simp only [PR_1, nxt_1, P1_f, M1_f]
    rw [e]
    unfold iv
    repeat' split
    all_goals omega
theorem mk_X0 (hc : σ.2.2 = 93) (hz : Zr σ) (h0 : ∀ j, σ.1 92 j = 0) : ∃ σ', Con 0 mX0_init 3 60 [vA 92] σ (vT 8 0, σ') ∧ Nw 92 96 σ σ' ∧ (σ'.2.1 92 0 = some 93 ∧ σ'.2.1 92 1 = some 94 ∧ σ'.2.1 92 2 = some 95) ∧ ∀ x j, 92 ≤ x → x < 96 → σ'.1 x j = iv x j := by
  refine ⟨(P1 (PR (nxt (PR (nxt (PR (nxt σ) 92 0 93)) 92 1 94)) 92 2 95) 92 3 0), ?_, ⟨?_, fun x j hx => ⟨?_, ?_⟩, fun x j hx => ⟨?_, ?_⟩⟩, ?_, fun x j hx hx9 => ?_⟩
  · refine con_of_go mfX0_init.1 trivial (Nat.le_of_ble_eq_true rfl) rfl (by decide) ?_
    show Go _ _ _ _ 0 [vA _] [] _ _
    refine go_aload_n (at_of tX0_init 0 0 rfl) rfl ?_
    refine go_objInit (inL 191 (by decide +kernel) (by decide +kernel)) (at_of tX0_init 0 1 rfl) (Nat.le_of_ble_eq_true rfl) ?_
    refine go_aload_n (at_of tX0_init 0 2 rfl) rfl ?_
    refine go_bipush (at_of tX0_init 0 3 rfl) (by decide) ?_
    refine go_newI (a := 93) (n := 20) (by show σ.2.2 = _; omega) G_93 (by decide) (inL 98 (by decide +kernel) (by decide +kernel)) ⟨by decide, by decide⟩ (at_of tX0_init 0 4 rfl) ?_
    refine go_putr fp_X0_9 rfl (Or.inr ⟨rfl, rfl, rfl⟩) G_92 (at_of tX0_init 0 5 rfl) ?_
    refine go_aload_n (at_of tX0_init 0 6 rfl) rfl ?_
    refine go_bipush (at_of tX0_init 0 7 rfl) (by decide) ?_
    refine go_newI (a := 94) (n := 20) (by show σ.2.2 + 1 = _; omega) G_94 (by decide) (inL 98 (by decide +kernel) (by decide +kernel)) ⟨by decide, by decide⟩ (at_of tX0_init 0 8 rfl) ?_
    refine go_putr fp_X0_15 rfl (Or.inr ⟨rfl, rfl, rfl⟩) G_92 (at_of tX0_init 0 9 rfl) ?_
    refine go_aload_n (at_of tX0_init 0 10 rfl) rfl ?_
    refine go_bipush (at_of tX0_init 0 11 rfl) (by decide) ?_
    refine go_newZ (a := 95) (n := 20) (by show σ.2.2 + 1 + 1 = _; omega) G_95 (by decide) (inL 184 (by decide +kernel) (by decide +kernel)) ⟨by decide, by decide⟩ (at_of tX0_init 0 12 rfl) ?_
    refine go_putr fp_X0_18 rfl (Or.inr ⟨rfl, rfl, rfl⟩) G_92 (at_of tX0_init 0 13 rfl) ?_
    refine go_aload_n (at_of tX0_init 0 14 rfl) rfl ?_
    refine go_iconst (at_of tX0_init 0 15 rfl) (by unfold in32; omega) ?_
    refine go_put1 fp_X0_22 rfl (Or.inl rfl) G_92 (Or.inl rfl) (at_of tX0_init 1 0 rfl) ?_
    exact go_retv (at_of tX0_init 1 1 rfl) rfl
  · show σ.2.2 + 1 + 1 + 1 = _
    omega
  · simp only [PR_1, nxt_1, P1_f, M1_f]
    repeat rw [if_neg (by omega)]
  · simp only [PR_f, nxt_21, P1_2, M1_2]
    repeat rw [if_neg (by omega)]
  · have hx2 : σ.2.2 + 1 + 1 + 1 ≤ x := hx
    simp only [PR_1, nxt_1, P1_f, M1_f]
    repeat rw [if_neg (by omega)]
    exact (hz x j (by omega)).1
  · have hx2 : σ.2.2 + 1 + 1 + 1 ≤ x := hx
    simp only [PR_f, nxt_21, P1_2, M1_2]
    repeat rw [if_neg (by omega)]
    exact (hz x j (by omega)).2
  · refine ⟨?_, ?_, ?_⟩ <;> simp [PR_f, nxt_21, P1_2, M1_2]
  · have e : σ.1 x j = 0 := by
      by_cases q : x = 92
      · rw [q]; exact h0 j
      · exact (hz x j (by omega)).1
    simp only [PR_1, nxt_1, P1_f, M1_f]
    rw [e]
    unfold iv
    repeat' split
    all_goals omega
theorem mk_X6 (hc : σ.2.2 = 97) (hz : Zr σ) (h0 : ∀ j, σ.1 96 j = 0) : ∃ σ', Con 0 mX6_init 1 15 [vA 96] σ (vT 8 0, σ') ∧ Nw 96 98 σ σ' ∧ (σ'.2.1 96 0 = some 97) ∧ ∀ x j, 96 ≤ x → x < 98 → σ'.1 x j = iv x j := by
  refine ⟨(P1 (PR (nxt σ) 96 0 97) 96 1 0), ?_, ⟨?_, fun x j hx => ⟨?_, ?_⟩, fun x j hx => ⟨?_, ?_⟩⟩, ?_, fun x j hx hx9 => ?_⟩
  · refine con_of_go mfX6_init.1 trivial (Nat.le_of_ble_eq_true rfl) rfl (by decide) ?_
    show Go _ _ _ _ 0 [vA _] [] _ _
    refine go_aload_n (at_of tX6_init 0 0 rfl) rfl ?_
    refine go_objInit (inL 210 (by decide +kernel) (by decide +kernel)) (at_of tX6_init 0 1 rfl) (Nat.le_of_ble_eq_true rfl) ?_
    refine go_aload_n (at_of tX6_init 0 2 rfl) rfl ?_
    refine go_bipush (at_of tX6_init 0 3 rfl) (by decide) ?_
    refine go_newI (a := 97) (n := 15) (by show σ.2.2 = _; omega) G_97 (by decide) (inL 98 (by decide +kernel) (by decide +kernel)) ⟨by decide, by decide⟩ (at_of tX6_init 0 4 rfl) ?_
    refine go_putr fp_X6_9 rfl (Or.inr ⟨rfl, rfl, rfl⟩) G_96 (at_of tX6_init 0 5 rfl) ?_
    refine go_aload_n (at_of tX6_init 0 6 rfl) rfl ?_
    refine go_iconst (at_of tX6_init 0 7 rfl) (by unfold in32; omega) ?_
    refine go_put1 fp_X6_15 rfl (Or.inl rfl) G_96 (Or.inl rfl) (at_of tX6_init 0 8 rfl) ?_
    exact go_retv (at_of tX6_init 0 9 rfl) rfl
  · show σ.2.2 + 1 = _
    omega
  · simp only [PR_1, nxt_1, P1_f, M1_f]
    repeat rw [if_neg (by omega)]
  · simp only [PR_f, nxt_21, P1_2, M1_2]
    repeat rw [if_neg (by omega)]
  · have hx2 : σ.2.2 + 1 ≤ x := hx
    simp only [PR_1, nxt_1, P1_f, M1_f]
    repeat rw [if_neg (by omega)]
    exact (hz x j (by omega)).1
  · have hx2 : σ.2.2 + 1 ≤ x := hx
    simp only [PR_f, nxt_21, P1_2, M1_2]
    repeat rw [if_neg (by omega)]
    exact (hz x j (by omega)).2
  · simp [PR_f, nxt_21, P1_2, M1_2]
  · have e : σ.1 x j = 0 := by
      by_cases q : x = 96
      · rw [q]; exact h0 j
      · exact (hz x j (by omega)).1
    simp only [PR_1, nxt_1, P1_f, M1_f]
    rw [e]
    unfold iv
    repeat' split
    all_goals omega
theorem mk_X1 (hc : σ.2.2 = 99) (hz : Zr σ) (h0 : ∀ j, σ.1 98 j = 0) : ∃ σ', Con 0 mX1_init 9 4082 [vA 98] σ (vT 8 0, σ') ∧ Nw 98 108 σ σ' ∧ (σ'.2.1 98 2 = some 99 ∧ σ'.2.1 98 3 = some 100 ∧ σ'.2.1 98 4 = some 101 ∧ σ'.2.1 98 5 = some 102 ∧ σ'.2.1 98 6 = some 103 ∧ σ'.2.1 98 7 = some 104 ∧ σ'.2.1 98 8 = some 105 ∧ σ'.2.1 98 9 = some 106 ∧ σ'.2.1 98 10 = some 107) ∧ ∀ x j, 98 ≤ x → x < 108 → σ'.1 x j = iv x j := by
  refine ⟨(P1 (P1 (P1 (P1 (P1 (PR (nxt (PR (nxt (PR (nxt (PR (nxt (PR (nxt (PR (nxt (PR (nxt (PR (nxt (PR (nxt (P1 (P1 σ 98 0 20) 98 1 8)) 98 2 99)) 98 3 100)) 98 4 101)) 98 5 102)) 98 6 103)) 98 7 104)) 98 8 105)) 98 9 106)) 98 10 107) 98 11 0) 98 12 0) 98 13 0) 98 14 0) 98 15 0), ?_, ⟨?_, fun x j hx => ⟨?_, ?_⟩, fun x j hx => ⟨?_, ?_⟩⟩, ?_, fun x j hx hx9 => ?_⟩
  · refine con_of_go mfX1_init.1 trivial (Nat.le_of_ble_eq_true rfl) rfl (by decide) ?_
    show Go _ _ _ _ 0 [vA _] [] _ _
    refine go_aload_n (at_of tX1_init 0 0 rfl) rfl ?_
    refine go_objInit (inL 223 (by decide +kernel) (by decide +kernel)) (at_of tX1_init 0 1 rfl) (Nat.le_of_ble_eq_true rfl) ?_
    refine go_aload_n (at_of tX1_init 0 2 rfl) rfl ?_
    refine go_bipush (at_of tX1_init 0 3 rfl) (by decide) ?_
    refine go_put1 fp_X1_9 rfl (Or.inl rfl) G_98 (Or.inl rfl) (at_of tX1_init 0 4 rfl) ?_
    refine go_aload_n (at_of tX1_init 0 5 rfl) rfl ?_
    refine go_bipush (at_of tX1_init 0 6 rfl) (by decide) ?_
    refine go_put1 fp_X1_15 rfl (Or.inl rfl) G_98 (Or.inl rfl) (at_of tX1_init 0 7 rfl) ?_
    refine go_aload_n (at_of tX1_init 0 8 rfl) rfl ?_
    refine go_sipush (at_of tX1_init 0 9 rfl) (by decide) ?_
    refine go_newZ (a := 99) (n := 512) (by show σ.2.2 = _; omega) G_99 (by decide) (inL 184 (by decide +kernel) (by decide +kernel)) ⟨by decide, by decide⟩ (at_of tX1_init 0 10 rfl) ?_
    refine go_putr fp_X1_18 rfl (Or.inr ⟨rfl, rfl, rfl⟩) G_98 (at_of tX1_init 0 11 rfl) ?_
    refine go_aload_n (at_of tX1_init 0 12 rfl) rfl ?_
    refine go_sipush (at_of tX1_init 0 13 rfl) (by decide) ?_
    refine go_newI (a := 100) (n := 512) (by show σ.2.2 + 1 = _; omega) G_100 (by decide) (inL 98 (by decide +kernel) (by decide +kernel)) ⟨by decide, by decide⟩ (at_of tX1_init 0 14 rfl) ?_
    refine go_putr fp_X1_22 rfl (Or.inr ⟨rfl, rfl, rfl⟩) G_98 (at_of tX1_init 0 15 rfl) ?_
    refine go_aload_n (at_of tX1_init 1 0 rfl) rfl ?_
    refine go_sipush (at_of tX1_init 1 1 rfl) (by decide) ?_
    refine go_newI (a := 101) (n := 202) (by show σ.2.2 + 1 + 1 = _; omega) G_101 (by decide) (inL 98 (by decide +kernel) (by decide +kernel)) ⟨by decide, by decide⟩ (at_of tX1_init 1 2 rfl) ?_
    refine go_putr fp_X1_26 rfl (Or.inr ⟨rfl, rfl, rfl⟩) G_98 (at_of tX1_init 1 3 rfl) ?_
    refine go_aload_n (at_of tX1_init 1 4 rfl) rfl ?_
    refine go_sipush (at_of tX1_init 1 5 rfl) (by decide) ?_
    refine go_newI (a := 102) (n := 202) (by show σ.2.2 + 1 + 1 + 1 = _; omega) G_102 (by decide) (inL 98 (by decide +kernel) (by decide +kernel)) ⟨by decide, by decide⟩ (at_of tX1_init 1 6 rfl) ?_
    refine go_putr fp_X1_29 rfl (Or.inr ⟨rfl, rfl, rfl⟩) G_98 (at_of tX1_init 1 7 rfl) ?_
    refine go_aload_n (at_of tX1_init 1 8 rfl) rfl ?_
    refine go_sipush (at_of tX1_init 1 9 rfl) (by decide) ?_
    refine go_newI (a := 103) (n := 202) (by show σ.2.2 + 1 + 1 + 1 + 1 = _; omega) G_103 (by decide) (inL 98 (by decide +kernel) (by decide +kernel)) ⟨by decide, by decide⟩ (at_of tX1_init 1 10 rfl) ?_
    refine go_putr fp_X1_32 rfl (Or.inr ⟨rfl, rfl, rfl⟩) G_98 (at_of tX1_init 1 11 rfl) ?_
    refine go_aload_n (at_of tX1_init 1 12 rfl) rfl ?_
    refine go_sipush (at_of tX1_init 1 13 rfl) (by decide) ?_
    refine go_newI (a := 104) (n := 202) (by show σ.2.2 + 1 + 1 + 1 + 1 + 1 = _; omega) G_104 (by decide) (inL 98 (by decide +kernel) (by decide +kernel)) ⟨by decide, by decide⟩ (at_of tX1_init 1 14 rfl) ?_
    refine go_putr fp_X1_35 rfl (Or.inr ⟨rfl, rfl, rfl⟩) G_98 (at_of tX1_init 1 15 rfl) ?_
    refine go_aload_n (at_of tX1_init 2 0 rfl) rfl ?_
    refine go_sipush (at_of tX1_init 2 1 rfl) (by decide) ?_
    refine go_newZ (a := 105) (n := 202) (by show σ.2.2 + 1 + 1 + 1 + 1 + 1 + 1 = _; omega) G_105 (by decide) (inL 184 (by decide +kernel) (by decide +kernel)) ⟨by decide, by decide⟩ (at_of tX1_init 2 2 rfl) ?_
    refine go_putr fp_X1_38 rfl (Or.inr ⟨rfl, rfl, rfl⟩) G_98 (at_of tX1_init 2 3 rfl) ?_
    refine go_aload_n (at_of tX1_init 2 4 rfl) rfl ?_
    refine go_sipush (at_of tX1_init 2 5 rfl) (by decide) ?_
    refine go_newI (a := 106) (n := 1024) (by show σ.2.2 + 1 + 1 + 1 + 1 + 1 + 1 + 1 = _; omega) G_106 (by decide) (inL 98 (by decide +kernel) (by decide +kernel)) ⟨by decide, by decide⟩ (at_of tX1_init 2 6 rfl) ?_
    refine go_putr fp_X1_41 rfl (Or.inr ⟨rfl, rfl, rfl⟩) G_98 (at_of tX1_init 2 7 rfl) ?_
    refine go_aload_n (at_of tX1_init 2 8 rfl) rfl ?_
    refine go_sipush (at_of tX1_init 2 9 rfl) (by decide) ?_
    refine go_newI (a := 107) (n := 1024) (by show σ.2.2 + 1 + 1 + 1 + 1 + 1 + 1 + 1 + 1 = _; omega) G_107 (by decide) (inL 98 (by decide +kernel) (by decide +kernel)) ⟨by decide, by decide⟩ (at_of tX1_init 2 10 rfl) ?_
    refine go_putr fp_X1_44 rfl (Or.inr ⟨rfl, rfl, rfl⟩) G_98 (at_of tX1_init 2 11 rfl) ?_
    refine go_aload_n (at_of tX1_init 2 12 rfl) rfl ?_
    refine go_iconst (at_of tX1_init 2 13 rfl) (by unfold in32; omega) ?_
    refine go_put1 fp_X1_47 rfl (Or.inl rfl) G_98 (Or.inl rfl) (at_of tX1_init 2 14 rfl) ?_
    refine go_aload_n (at_of tX1_init 2 15 rfl) rfl ?_
    refine go_iconst (at_of tX1_init 3 0 rfl) (by unfold in32; omega) ?_
    refine go_put1 fp_X1_50 rfl (Or.inl rfl) G_98 (Or.inl rfl) (at_of tX1_init 3 1 rfl) ?_
    refine go_aload_n (at_of tX1_init 3 2 rfl) rfl ?_
    refine go_iconst (at_of tX1_init 3 3 rfl) (by unfold in32; omega) ?_
    refine go_put1 fp_X1_53 rfl (Or.inl rfl) G_98 (Or.inl rfl) (at_of tX1_init 3 4 rfl) ?_
    refine go_aload_n (at_of tX1_init 3 5 rfl) rfl ?_
    refine go_iconst (at_of tX1_init 3 6 rfl) (by unfold in32; omega) ?_
    refine go_put1 fp_X1_56 rfl (Or.inl rfl) G_98 (Or.inl rfl) (at_of tX1_init 3 7 rfl) ?_
    refine go_aload_n (at_of tX1_init 3 8 rfl) rfl ?_
    refine go_iconst (at_of tX1_init 3 9 rfl) (by unfold in32; omega) ?_
    refine go_put1 fp_X1_59 rfl (Or.inl rfl) G_98 (Or.inl rfl) (at_of tX1_init 3 10 rfl) ?_
    exact go_retv (at_of tX1_init 3 11 rfl) rfl
  · show σ.2.2 + 1 + 1 + 1 + 1 + 1 + 1 + 1 + 1 + 1 = _
    omega
  · simp only [PR_1, nxt_1, P1_f, M1_f]
    repeat rw [if_neg (by omega)]
  · simp only [PR_f, nxt_21, P1_2, M1_2]
    repeat rw [if_neg (by omega)]
  · have hx2 : σ.2.2 + 1 + 1 + 1 + 1 + 1 + 1 + 1 + 1 + 1 ≤ x := hx
    simp only [PR_1, nxt_1, P1_f, M1_f]
    repeat rw [if_neg (by omega)]
    exact (hz x j (by omega)).1
  · have hx2 : σ.2.2 + 1 + 1 + 1 + 1 + 1 + 1 + 1 + 1 + 1 ≤ x := hx
    simp only [PR_f, nxt_21, P1_2, M1_2]
    repeat rw [if_neg (by omega)]
    exact (hz x j (by omega)).2
  · refine ⟨?_, ?_, ?_, ?_, ?_, ?_, ?_, ?_, ?_⟩ <;> simp [PR_f, nxt_21, P1_2, M1_2]
  · have e : σ.1 x j = 0 := by
      by_cases q : x = 98
      · rw [q]; exact h0 j
      · exact (hz x j (by omega)).1
    simp only [PR_1, nxt_1, P1_f, M1_f]
    rw [e]
    unfold iv
    repeat' split
    all_goals omega
end Made2
