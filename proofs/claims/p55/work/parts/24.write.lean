section Edits
variable {σ : St}
def Ed (σ σ' : St) (pi' : Nat → Nat) (A' : PastD) : Prop := PastR σ' pi' A' ∧ Str σ'.2.1 ∧ σ'.2.2 = σ.2.2 ∧ FrM σ σ' 1 72 ∧ FrQ σ σ'
theorem Ed.paper {σ1 σ2 : St} {pi1 : Nat → Nat} {A1 : PastD} {D : PapD} (h : Ed σ σ1 pi1 A1) (hD : RepP σ2 (pi1 A1.2.1) D) (hF : Frm σ1 σ2 (4 + 10 * pi1 A1.2.1) (12 + 10 * pi1 A1.2.1)) : Ed σ σ2 pi1 (edA A1 D) := by
  obtain ⟨h1, h2, h3, h4, h5r⟩ := h
  have h5 := (h1.1.1 A1.2.1 (by have := h1.2.2.2.1; omega)).2
  refine ⟨past_edit h1 hD hF, by rw [hF.1]; exact h2, by rw [hF.1]; exact h3, fun a ha j => ?_, fun a ha j => by rw [hF.1]; exact h5r a ha j⟩
  rw [hF.2 a (by omega)]
  exact h4 a ha j
theorem cur_beg {A : PastD} : (begA A).1 (begA A).2.1 = A.1 A.2.1 := by
  unfold begA
  by_cases h6 : A.2.1 = 6
  · rw [if_pos h6]
    show (if 6 < 6 then A.1 7 else A.1 6) = _
    rw [if_neg (by omega), h6]
  · rw [if_neg h6]
    exact if_pos rfl
theorem Ed.pap {σ1 σ2 : St} {pi1 : Nat → Nat} {A1 : PastD} {D : PapD} {k1 : Nat} (h : Ed σ σ1 pi1 A1) (hk : k1 = pi1 A1.2.1) (hD : RepP σ2 k1 D) (hF : Frm σ1 σ2 (4 + 10 * k1) (12 + 10 * k1)) : Ed σ σ2 pi1 (edA A1 D) := by
  subst hk; exact h.paper hD hF
theorem Ed.log {σ1 σ2 : St} {k : Nat} (h : Frm σ1 σ2 (4 + 10 * k) (11 + 10 * k)) : Frm σ1 σ2 (4 + 10 * k) (12 + 10 * k) := h.mono (by omega) (by omega)
def wrC (D : PapD) (tr : Bool) (a i : Int) : Int := if tr = true then (if chAhD D a i = -1 then D.2.1.1 else chAhD D a i) else -1
def wrD (D : PapD) (tr : Bool) (a i l fd : Int) : PapD := (putR D.1 i l fd (wrC D tr a i), if tr = true ∧ chAhD D a i = -1 then enrL D.2.1 105 a else D.2.1, D.2.2)
theorem beg_ex (hS : Str σ.2.1) {pi : Nat → Nat} {A : PastD} (hA : PastR σ pi A) : ∃ σ1 k1 pi1, k1 = pi1 (begA A).2.1 ∧ Con 2 mX5_begin 0 0 [vA 1] σ (vA (3 + 10 * k1), σ1) ∧ Ed σ σ1 pi1 (begA A) ∧ RepP σ1 k1 (A.1 A.2.1) ∧ k1 < 8 ∧ Str σ1.2.1 := by
  obtain ⟨σ1, pi1, q1, q2, q3, q4, q5⟩ := con_begin hS hA
  have h5 := (q2.1.1 (begA A).2.1 (by have := q2.2.2.2.1; omega)).2
  have h6 := q2.2.2.2.2 (begA A).2.1 (by omega)
  rw [cur_beg] at h6
  exact ⟨σ1, _, pi1, rfl, q1, ⟨q2, q3, q4, q5⟩, h6, by omega, q3⟩
theorem con_write (hS : Str σ.2.1) {pi : Nat → Nat} {A : PastD} (hA : PastR σ pi A) {tr : Bool} (htr : σ.1 0 0 = bI (tr = true)) {a i l fd : Int} (hi : 0 ≤ i ∧ i ≤ (A.1 A.2.1).1.2.1) (hN : (A.1 A.2.1).1.2.1 < 200) (hch : tr = true → chAhD (A.1 A.2.1) a i = -1 → (A.1 A.2.1).2.1.1 < 60) : ∃ σ' pi', Con 4 mX9_write 0 0 [vA 0, vI a, vI i, vI l, vI fd] σ (vI (wrC (A.1 A.2.1) tr a i), σ') ∧ Ed σ σ' pi' (edA (begA A) (wrD (A.1 A.2.1) tr a i l fd)) := by
  obtain ⟨hp, hd, hu, hle, hrep⟩ := id hA
  have hk7 := (hp.1 A.2.1 (by omega)).2
  have hk : pi A.2.1 < 8 := by omega
  have hD := hrep A.2.1 (by omega)
  have hR := hD.1
  have hL := hD.2.1.2.2.1
  have hn := hR.1
  obtain ⟨hw1, hw2, hw3⟩ := hR.2.2.2
  have hm := hD.2.1.1
  obtain ⟨l1, l2, l3⟩ := hD.2.1.2.2.2
  obtain ⟨g1, g2, g3, g4, g5, g6, g7, g8, g9, g10⟩ := gamk _ hk
  obtain ⟨p1, p2, p3, p4, p5, p6, p7, p8, p9⟩ := strk hS _ hk
  obtain ⟨σ1, k1, pi1, hkk, b1, b2, b3, hk1, hS1⟩ := beg_ex hS hA
  have e00 : σ1.1 0 0 = σ.1 0 0 := b2.2.2.2.1 0 (by omega) 0
  obtain ⟨s1, s2, s3, s4, s5, s6, s7, s8, s9, s10⟩ := gamk k1 hk1
  obtain ⟨t1, t2, t3, t4, t5, t6, t7, t8, t9⟩ := strk hS1 k1 hk1
  have hm1 := b3.2.1.1
  unfold wrC wrD
  cases tr with
  | false =>
    obtain ⟨c1, c2, c3⟩ := con_putUnit hS1 hk1 b3.1 (i := i) (l := l) (fd := fd) (c := -1) hi hN
    refine ⟨pS σ1 k1 i l fd (-1), pi1, ?_, Ed.pap b2 hkk (b3.row c3 c2) (c3.mono (by omega) (by omega))⟩
    refine con_of_go mfX9_write.1 trivial (Nat.le_of_ble_eq_true rfl) rfl (by decide) ?_
    show Go _ _ _ _ 0 [vA _, vI _, vI _, vI _, vI _, vT 9 0, vT 9 0] [] _ _
    refine go_aload_n (at_of tX9_write 0 0 rfl) rfl ?_
    refine go_getr fl_X9_16 rfl (by first | assumption | exact G_0 | exact g1_ | exact G_83 | exact G_87 | exact G_92 | exact G_96 | exact G_98) (by first | assumption | exact (hS _ _ rfl).trans rfl) (at_of tX9_write 0 1 rfl) ?_
    refine go_cV (b1) lk_X9_146 rfl (by first | assumption | exact G_0 | exact g1_ | exact G_83 | exact G_87 | exact G_92 | exact G_96 | exact G_98) (at_of tX9_write 0 2 rfl) rfl (by decide) rfl (Nat.le_of_ble_eq_true rfl) rfl (by first | decide | exact ⟨Nat.zero_le _, Nat.zero_le _⟩) ?_
    refine go_astore (at_of tX9_write 0 3 rfl) rfl rfl ?_
    refine go_iconst (at_of tX9_write 0 4 rfl) (by unfold in32; omega) ?_
    refine go_istore (at_of tX9_write 0 5 rfl) rfl rfl ?_
    refine go_aload_n (at_of tX9_write 0 6 rfl) rfl ?_
    refine go_getf fl_X9_7 rfl (by first | assumption | exact G_0 | exact g1_ | exact G_83 | exact G_87 | exact G_92 | exact G_96 | exact G_98) (at_of tX9_write 0 7 rfl) ?_
    refine go_if_eq (tgt := 47) (at_of tX9_write 0 8 rfl) (by decide) (fun h16 => ?_) (fun h16 => ?_)
    rotate_left
    · exfalso; rw [e00, htr] at h16; exact h16 (by decide)
    refine go_aload (at_of tX9_write 1 7 rfl) rfl ?_
    refine go_getr fl_X9_131 rfl (by first | assumption | exact G_0 | exact g1_ | exact G_83 | exact G_87 | exact G_92 | exact G_96 | exact G_98) (by first | assumption | exact (hS _ _ rfl).trans rfl) (at_of tX9_write 1 8 rfl) ?_
    refine go_iload_n (at_of tX9_write 1 9 rfl) rfl ?_
    refine go_iload_n (at_of tX9_write 1 10 rfl) rfl ?_
    refine go_iload (at_of tX9_write 1 11 rfl) rfl rfl ?_
    refine go_iload (at_of tX9_write 1 12 rfl) rfl rfl ?_
    refine go_cV (c1) lk_X9_455 rfl (by first | assumption | exact G_0 | exact g1_ | exact G_83 | exact G_87 | exact G_92 | exact G_96 | exact G_98) (at_of tX9_write 1 13 rfl) rfl (by decide) rfl (Nat.le_of_ble_eq_true rfl) rfl (by first | decide | exact ⟨Nat.zero_le _, Nat.zero_le _⟩) ?_
    refine go_iload (at_of tX9_write 1 14 rfl) rfl rfl ?_
    exact go_reti (at_of tX9_write 1 15 rfl) rfl
  | true =>
    by_cases hc : chAhD (A.1 A.2.1) a i = -1
    · have hlt := hch rfl hc
      obtain ⟨r1, r2⟩ := rep_enr b3.2.1 hlt (kd := 105) (au := a) (by omega)
      have d1 : RepP (enr σ1 k1 105 a) k1 ((A.1 A.2.1).1, enrL (A.1 A.2.1).2.1 105 a, (A.1 A.2.1).2.2) := b3.log r2 r1
      obtain ⟨c1, c2, c3⟩ := con_putUnit (by exact hS1) hk1 d1.1 (i := i) (l := l) (fd := fd) (c := (A.1 A.2.1).2.1.1) hi hN
      refine ⟨pS (enr σ1 k1 105 a) k1 i l fd (A.1 A.2.1).2.1.1, pi1, ?_, ?_⟩
      rotate_left
      · have q := Ed.pap b2 hkk (d1.row c3 c2) ((r2.mono (by omega) (by omega)).trans (c3.mono (by omega) (by omega)))
        simp only [wrC, if_true, hc, and_self]
        exact q
      · rw [show (if true = true then (if chAhD (A.1 A.2.1) a i = -1 then (A.1 A.2.1).2.1.1 else chAhD (A.1 A.2.1) a i) else -1) = (A.1 A.2.1).2.1.1 by rw [if_pos rfl, if_pos hc]]
        refine con_of_go mfX9_write.1 trivial (Nat.le_of_ble_eq_true rfl) rfl (by decide) ?_
        show Go _ _ _ _ 0 [vA _, vI _, vI _, vI _, vI _, vT 9 0, vT 9 0] [] _ _
        refine go_aload_n (at_of tX9_write 0 0 rfl) rfl ?_
        refine go_getr fl_X9_16 rfl (by first | assumption | exact G_0 | exact g1_ | exact G_83 | exact G_87 | exact G_92 | exact G_96 | exact G_98) (by first | assumption | exact (hS _ _ rfl).trans rfl) (at_of tX9_write 0 1 rfl) ?_
        refine go_cV (b1) lk_X9_146 rfl (by first | assumption | exact G_0 | exact g1_ | exact G_83 | exact G_87 | exact G_92 | exact G_96 | exact G_98) (at_of tX9_write 0 2 rfl) rfl (by decide) rfl (Nat.le_of_ble_eq_true rfl) rfl (by first | decide | exact ⟨Nat.zero_le _, Nat.zero_le _⟩) ?_
        refine go_astore (at_of tX9_write 0 3 rfl) rfl rfl ?_
        refine go_iconst (at_of tX9_write 0 4 rfl) (by unfold in32; omega) ?_
        refine go_istore (at_of tX9_write 0 5 rfl) rfl rfl ?_
        refine go_aload_n (at_of tX9_write 0 6 rfl) rfl ?_
        refine go_getf fl_X9_7 rfl (by first | assumption | exact G_0 | exact g1_ | exact G_83 | exact G_87 | exact G_92 | exact G_96 | exact G_98) (at_of tX9_write 0 7 rfl) ?_
        refine go_if_eq (tgt := 47) (at_of tX9_write 0 8 rfl) (by decide) (fun h16 => ?_) (fun h16 => ?_)
        · exfalso; rw [e00, htr] at h16; exact absurd h16 (by decide)
        refine go_aload (at_of tX9_write 0 9 rfl) rfl ?_
        refine go_iload_n (at_of tX9_write 0 10 rfl) rfl ?_
        refine go_iload_n (at_of tX9_write 0 11 rfl) rfl ?_
        refine go_cV (p_changeAhead hS1 hk1 b3 hi) lk_X9_438 rfl (by first | assumption | exact G_0 | exact g1_ | exact G_83 | exact G_87 | exact G_92 | exact G_96 | exact G_98) (at_of tX9_write 0 12 rfl) rfl (by decide) rfl (Nat.le_of_ble_eq_true rfl) rfl (by first | decide | exact ⟨Nat.zero_le _, Nat.zero_le _⟩) ?_
        refine go_istore (at_of tX9_write 0 13 rfl) rfl rfl ?_
        refine go_iload (at_of tX9_write 0 14 rfl) rfl rfl ?_
        refine go_iconst (at_of tX9_write 0 15 rfl) (by unfold in32; omega) ?_
        refine go_icmp_ne (tgt := 47) (at_of tX9_write 1 0 rfl) (by decide) (fun h31 => ?_) (fun h31 => ?_)
        · exfalso; omega
        refine go_aload (at_of tX9_write 1 1 rfl) rfl ?_
        refine go_getr fl_X9_118 rfl (by first | assumption | exact G_0 | exact g1_ | exact G_83 | exact G_87 | exact G_92 | exact G_96 | exact G_98) (by first | assumption | exact (hS _ _ rfl).trans rfl) (at_of tX9_write 1 2 rfl) ?_
        refine go_bipush (at_of tX9_write 1 3 rfl) (by decide) ?_
        refine go_iload_n (at_of tX9_write 1 4 rfl) rfl ?_
        refine go_cV (con_enroll hS1 hk1 b3.2.1.2.2.1 (by omega)) lk_X9_454 rfl (by first | assumption | exact G_0 | exact g1_ | exact G_83 | exact G_87 | exact G_92 | exact G_96 | exact G_98) (at_of tX9_write 1 5 rfl) rfl (by decide) rfl (Nat.le_of_ble_eq_true rfl) rfl (by first | decide | exact ⟨Nat.zero_le _, Nat.zero_le _⟩) ?_
        refine go_istore (at_of tX9_write 1 6 rfl) rfl rfl ?_
        rw [hm1]
        refine go_aload (at_of tX9_write 1 7 rfl) rfl ?_
        refine go_getr fl_X9_131 rfl (by first | assumption | exact G_0 | exact g1_ | exact G_83 | exact G_87 | exact G_92 | exact G_96 | exact G_98) (by first | assumption | exact (hS _ _ rfl).trans rfl) (at_of tX9_write 1 8 rfl) ?_
        refine go_iload_n (at_of tX9_write 1 9 rfl) rfl ?_
        refine go_iload_n (at_of tX9_write 1 10 rfl) rfl ?_
        refine go_iload (at_of tX9_write 1 11 rfl) rfl rfl ?_
        refine go_iload (at_of tX9_write 1 12 rfl) rfl rfl ?_
        refine go_cV (c1) lk_X9_455 rfl (by first | assumption | exact G_0 | exact g1_ | exact G_83 | exact G_87 | exact G_92 | exact G_96 | exact G_98) (at_of tX9_write 1 13 rfl) rfl (by decide) rfl (Nat.le_of_ble_eq_true rfl) rfl (by first | decide | exact ⟨Nat.zero_le _, Nat.zero_le _⟩) ?_
        refine go_iload (at_of tX9_write 1 14 rfl) rfl rfl ?_
        exact go_reti (at_of tX9_write 1 15 rfl) rfl
    · obtain ⟨c1, c2, c3⟩ := con_putUnit hS1 hk1 b3.1 (i := i) (l := l) (fd := fd) (c := chAhD (A.1 A.2.1) a i) hi hN
      refine ⟨pS σ1 k1 i l fd (chAhD (A.1 A.2.1) a i), pi1, ?_, ?_⟩
      rotate_left
      · have q := Ed.pap b2 hkk (b3.row c3 c2) (c3.mono (by omega) (by omega))
        simp only [wrC, if_true, hc, and_false, if_false]
        exact q
      · rw [show (if true = true then (if chAhD (A.1 A.2.1) a i = -1 then (A.1 A.2.1).2.1.1 else chAhD (A.1 A.2.1) a i) else -1) = chAhD (A.1 A.2.1) a i by rw [if_pos rfl, if_neg hc]]
        refine con_of_go mfX9_write.1 trivial (Nat.le_of_ble_eq_true rfl) rfl (by decide) ?_
        show Go _ _ _ _ 0 [vA _, vI _, vI _, vI _, vI _, vT 9 0, vT 9 0] [] _ _
        refine go_aload_n (at_of tX9_write 0 0 rfl) rfl ?_
        refine go_getr fl_X9_16 rfl (by first | assumption | exact G_0 | exact g1_ | exact G_83 | exact G_87 | exact G_92 | exact G_96 | exact G_98) (by first | assumption | exact (hS _ _ rfl).trans rfl) (at_of tX9_write 0 1 rfl) ?_
        refine go_cV (b1) lk_X9_146 rfl (by first | assumption | exact G_0 | exact g1_ | exact G_83 | exact G_87 | exact G_92 | exact G_96 | exact G_98) (at_of tX9_write 0 2 rfl) rfl (by decide) rfl (Nat.le_of_ble_eq_true rfl) rfl (by first | decide | exact ⟨Nat.zero_le _, Nat.zero_le _⟩) ?_
        refine go_astore (at_of tX9_write 0 3 rfl) rfl rfl ?_
        refine go_iconst (at_of tX9_write 0 4 rfl) (by unfold in32; omega) ?_
        refine go_istore (at_of tX9_write 0 5 rfl) rfl rfl ?_
        refine go_aload_n (at_of tX9_write 0 6 rfl) rfl ?_
        refine go_getf fl_X9_7 rfl (by first | assumption | exact G_0 | exact g1_ | exact G_83 | exact G_87 | exact G_92 | exact G_96 | exact G_98) (at_of tX9_write 0 7 rfl) ?_
        refine go_if_eq (tgt := 47) (at_of tX9_write 0 8 rfl) (by decide) (fun h16 => ?_) (fun h16 => ?_)
        · exfalso; rw [e00, htr] at h16; exact absurd h16 (by decide)
        refine go_aload (at_of tX9_write 0 9 rfl) rfl ?_
        refine go_iload_n (at_of tX9_write 0 10 rfl) rfl ?_
        refine go_iload_n (at_of tX9_write 0 11 rfl) rfl ?_
        refine go_cV (p_changeAhead hS1 hk1 b3 hi) lk_X9_438 rfl (by first | assumption | exact G_0 | exact g1_ | exact G_83 | exact G_87 | exact G_92 | exact G_96 | exact G_98) (at_of tX9_write 0 12 rfl) rfl (by decide) rfl (Nat.le_of_ble_eq_true rfl) rfl (by first | decide | exact ⟨Nat.zero_le _, Nat.zero_le _⟩) ?_
        refine go_istore (at_of tX9_write 0 13 rfl) rfl rfl ?_
        refine go_iload (at_of tX9_write 0 14 rfl) rfl rfl ?_
        refine go_iconst (at_of tX9_write 0 15 rfl) (by unfold in32; omega) ?_
        refine go_icmp_ne (tgt := 47) (at_of tX9_write 1 0 rfl) (by decide) (fun h31 => ?_) (fun h31 => ?_)
        rotate_left
        · exfalso; omega
        refine go_aload (at_of tX9_write 1 7 rfl) rfl ?_
        refine go_getr fl_X9_131 rfl (by first | assumption | exact G_0 | exact g1_ | exact G_83 | exact G_87 | exact G_92 | exact G_96 | exact G_98) (by first | assumption | exact (hS _ _ rfl).trans rfl) (at_of tX9_write 1 8 rfl) ?_
        refine go_iload_n (at_of tX9_write 1 9 rfl) rfl ?_
        refine go_iload_n (at_of tX9_write 1 10 rfl) rfl ?_
        refine go_iload (at_of tX9_write 1 11 rfl) rfl rfl ?_
        refine go_iload (at_of tX9_write 1 12 rfl) rfl rfl ?_
        refine go_cV (c1) lk_X9_455 rfl (by first | assumption | exact G_0 | exact g1_ | exact G_83 | exact G_87 | exact G_92 | exact G_96 | exact G_98) (at_of tX9_write 1 13 rfl) rfl (by decide) rfl (Nat.le_of_ble_eq_true rfl) rfl (by first | decide | exact ⟨Nat.zero_le _, Nat.zero_le _⟩) ?_
        refine go_iload (at_of tX9_write 1 14 rfl) rfl rfl ?_
        exact go_reti (at_of tX9_write 1 15 rfl) rfl
end Edits
