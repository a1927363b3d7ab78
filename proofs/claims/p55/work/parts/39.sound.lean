/-! Soundness, as the office answers it. -/
section Sound
variable {σ : St}
/-- all changes that wait, judged one by one on a trial -/
def jdS (acc rise : Bool) (m : Int) (E : PapD) (s : Int) : PapD := if E.2.1.2.2.2 (if rise = true then s else m - 1 - s) = 119 then setlD E (if rise = true then s else m - 1 - s) acc else E
def jdD (D : PapD) (acc rise : Bool) : PapD := upX (jdS acc rise D.2.1.1) D.2.1.1.toNat 0 D
def jdT (D : PapD) (acc rise : Bool) : Bool := cmpF (if acc = true then seenB D.1.1 D.1.2.1 else oldB D.1.1 D.1.2.1) ((jdD D acc rise).1.1 0) (D.1.1 0) (jdD D acc rise).1.2.1 D.1.2.1.toNat 0 0
theorem con_isJudged_00 (hS : Str σ.2.1) {pi : Nat → Nat} {A : PastD} (hA : PastR σ pi A) : ∃ σ', Con 4 mX9_isJudgedSoundly 0 0 [vA 0, vI 0, vI 0] σ (vI (bI (jdT (A.1 A.2.1) false false = true)), σ') ∧ Frm σ σ' 74 82 := by
  obtain ⟨hp, hd, hu, hle, hrep⟩ := id hA
  have hk7 := (hp.1 A.2.1 (by omega)).2
  have hk : pi A.2.1 < 8 := by omega
  have hD := hrep A.2.1 (by omega)
  have hR := hD.1
  have hL := hD.2.1.2.2.1
  have hn := hR.1
  obtain ⟨hw1, hw2, hw3⟩ := hR.2.2.2
  have hm := hD.2.1.1
  obtain ⟨l1, l2, l3⟩ := hD.2.1.2.2.2
  obtain ⟨g1, g2, g3, g4, g5, g6, g7, g8, g9, g10⟩ := gamk _ hk
  obtain ⟨p1, p2, p3, p4, p5, p6, p7, p8, p9⟩ := strk hS _ hk
  obtain ⟨s1, s2, s3, s4, s5, s6, s7, s8, s9, s10⟩ := gamk 7 (by omega)
  obtain ⟨t1, t2, t3, t4, t5, t6, t7, t8, t9⟩ := strk hS 7 (by omega)
  have hne : 7 ≠ pi A.2.1 := by omega
  have c1 := con_takeFrom hS (show 7 < 8 by omega) hk hne
  have hP7 := rep_tkS hne hD
  have hF7 := @tkS_frm σ 7 (pi A.2.1)
  have key := loop_up (α := PapD) (Rep := fun σ' E s => RepP σ' 7 E ∧ Frm σ σ' 74 82 ∧ 0 ≤ s ∧ E.2.1.1 = (A.1 A.2.1).2.1.1) (f := jdS false false (A.1 A.2.1).2.1.1) (hi := (A.1 A.2.1).2.1.1)
    (G := fun b E s σ out => ∀ v6, Go (fun _ => 0) 4 mX9_isJudgedSoundly b 31 [vA 0, vI 0, vI 0, vA (3 + 10 * pi A.2.1), vI (A.1 A.2.1).2.1.1, vI s, v6] [] σ out) (fun σ2 E s hh hlo => ?_) ((A.1 A.2.1).2.1.1).toNat (tkS σ 7 (pi A.2.1)) (A.1 A.2.1) 0 ⟨hP7, hF7, by omega, rfl⟩ (by omega)
  · obtain ⟨σ', ⟨q1, q2, -, -⟩, q3⟩ := key
    refine ⟨σ', ?_, q2⟩
    have hS' : Str σ'.2.1 := by rw [q2.1]; exact hS
    have hR' : RepR σ' (pi A.2.1) (A.1 A.2.1).1 := hR.eqs (fun a x y j => q2.2 a (by omega) j)
    have ct := con_isTextOf_old (k := 7) hS' (by omega) q1.1 hk hR'
    have ct : Con 2 mX7_isTextOf 0 0 [vA (4 + 10 * 7), vA (4 + 10 * pi A.2.1), vI 1] σ' (vI (bI (jdT (A.1 A.2.1) false false = true)), σ') := ct
    obtain ⟨u1, u2, u3, -⟩ := strk hS' 7 (by omega)
    obtain ⟨w1, w2, w3, -⟩ := strk hS' _ hk
    refine con_of_go mfX9_isJudgedSoundly.1 bI_01 (Nat.le_of_ble_eq_true rfl) rfl (by decide) ?_
    show Go _ _ _ _ 0 [vA _, vI _, vI _, vT 9 0, vT 9 0, vT 9 0, vT 9 0] [] _ _
    refine go_aload_n (at_of tX9_isJudgedSoundly 0 0 rfl) rfl ?_
    refine go_getr (q := 1) fl_X9_16 rfl G_0 ((hS _ _ rfl).trans rfl) (at_of tX9_isJudgedSoundly 0 1 rfl) ?_
    refine go_cV (con_now hS hA) lk_X9_114 rfl g1_ (at_of tX9_isJudgedSoundly 0 2 rfl) rfl (by decide) rfl (Nat.le_of_ble_eq_true rfl) rfl (by first | decide | exact ⟨Nat.zero_le _, Nat.zero_le _⟩) ?_
    refine go_astore_n (at_of tX9_isJudgedSoundly 0 3 rfl) rfl rfl ?_
    refine go_aload_n (at_of tX9_isJudgedSoundly 0 4 rfl) rfl ?_
    refine go_getr (q := (3 + 10 * 7)) fl_X9_23 rfl G_0 ((hS _ _ rfl).trans rfl) (at_of tX9_isJudgedSoundly 0 5 rfl) ?_
    refine go_aload_n (at_of tX9_isJudgedSoundly 0 6 rfl) rfl ?_
    refine go_cV (c1) lk_X9_488 rfl s1 (at_of tX9_isJudgedSoundly 0 7 rfl) rfl (by decide) rfl (Nat.le_of_ble_eq_true rfl) rfl (by first | decide | exact ⟨Nat.zero_le _, Nat.zero_le _⟩) ?_
    refine go_aload_n (at_of tX9_isJudgedSoundly 0 8 rfl) rfl ?_
    refine go_getr (q := (3 + 10 * 7)) fl_X9_23 rfl G_0 ((hS _ _ rfl).trans rfl) (at_of tX9_isJudgedSoundly 0 9 rfl) ?_
    refine go_getr (q := (8 + 10 * 7)) fl_X9_118 rfl s1 t2 (at_of tX9_isJudgedSoundly 0 10 rfl) ?_
    refine go_cV (l_many (by exact hS) (show 7 < 8 by omega) hP7) lk_X9_228 rfl s6 (at_of tX9_isJudgedSoundly 0 11 rfl) rfl (by decide) rfl (Nat.le_of_ble_eq_true rfl) rfl (by first | decide | exact ⟨Nat.zero_le _, Nat.zero_le _⟩) ?_
    refine go_istore (at_of tX9_isJudgedSoundly 0 12 rfl) rfl rfl ?_
    refine go_iconst (at_of tX9_isJudgedSoundly 0 13 rfl) (by unfold in32; omega) ?_
    refine go_istore (at_of tX9_isJudgedSoundly 0 14 rfl) rfl rfl ?_
    refine q3 _ _ (fun b => ?_) _
    intro v6
    refine go_iload (at_of tX9_isJudgedSoundly 0 15 rfl) rfl rfl ?_
    refine go_iload (at_of tX9_isJudgedSoundly 1 0 rfl) rfl rfl ?_
    refine go_icmp_ge (tgt := 90) (at_of tX9_isJudgedSoundly 1 1 rfl) (by decide) (fun h35 => ?_) (fun h35 => ?_)
    rotate_left
    · exfalso; omega
    refine go_aload_n (at_of tX9_isJudgedSoundly 2 11 rfl) rfl ?_
    refine go_getr (q := (3 + 10 * 7)) fl_X9_23 rfl G_0 ((hS' _ _ rfl).trans rfl) (at_of tX9_isJudgedSoundly 2 12 rfl) ?_
    refine go_getr (q := (4 + 10 * 7)) fl_X9_131 rfl s1 u1 (at_of tX9_isJudgedSoundly 2 13 rfl) ?_
    refine go_aload_n (at_of tX9_isJudgedSoundly 2 14 rfl) rfl ?_
    refine go_getr (q := (4 + 10 * pi A.2.1)) fl_X9_131 rfl g1 w1 (at_of tX9_isJudgedSoundly 2 15 rfl) ?_
    refine go_iload_n (at_of tX9_isJudgedSoundly 3 0 rfl) rfl ?_
    refine go_if_ne (tgt := 109) (at_of tX9_isJudgedSoundly 3 1 rfl) (by decide) (fun h102 => ?_) (fun h102 => ?_)
    · exfalso; omega
    refine go_iconst (at_of tX9_isJudgedSoundly 3 2 rfl) (by unfold in32; omega) ?_
    refine go_goto (tgt := 110) (at_of tX9_isJudgedSoundly 3 3 rfl) (by decide) ?_
    refine go_cV (ct) lk_X9_492 rfl s2 (at_of tX9_isJudgedSoundly 3 5 rfl) rfl (by decide) rfl (Nat.le_of_ble_eq_true rfl) rfl (by first | decide | exact ⟨Nat.zero_le _, Nat.zero_le _⟩) ?_
    first | exact go_reti (at_of tX9_isJudgedSoundly 3 6 rfl) rfl | exact go_reti (at_of tX9_isJudgedSoundly 3 6 rfl) (le_i (by omega)) | exact go_reti (at_of tX9_isJudgedSoundly 3 6 rfl) (le_i (by first | exact bI_t (by omega) | exact bI_f (by omega)))
  · obtain ⟨hP2, hF2, hs, hm2⟩ := hh
    have hS2 : Str σ2.2.1 := by rw [hF2.1]; exact hS
    obtain ⟨q1, q2, q3, q4, q5, q6, q7, q8, q9⟩ := strk hS2 7 (by omega)
    by_cases hc : E.2.1.2.2.2 ((A.1 A.2.1).2.1.1 - 1 - s) = 119
    · have e9 : jdS false false (A.1 A.2.1).2.1.1 E s = setlD E ((A.1 A.2.1).2.1.1 - 1 - s) false := if_pos hc
      rw [e9]
      obtain ⟨σ3, d1, d2, d3⟩ := con_settle hS2 (show 7 < 8 by omega) hP2 (c := ((A.1 A.2.1).2.1.1 - 1 - s)) (acc := false) (by omega)
      have d1 : Con 3 mX4_settle 0 0 [vA (3 + 10 * 7), vI ((A.1 A.2.1).2.1.1 - 1 - s), vI 0] σ2 (vI (concN E.1.1 E.1.2.1 ((A.1 A.2.1).2.1.1 - 1 - s)), σ3) := d1
      refine ⟨σ3, ⟨d2, hF2.trans (d3.mono (by omega) (by omega)), by omega, hm2⟩, fun b out K v6 => ?_⟩
      refine go_iload (at_of tX9_isJudgedSoundly 0 15 rfl) rfl rfl ?_
      refine go_iload (at_of tX9_isJudgedSoundly 1 0 rfl) rfl rfl ?_
      refine go_icmp_ge (tgt := 90) (at_of tX9_isJudgedSoundly 1 1 rfl) (by decide) (fun h35 => ?_) (fun h35 => ?_)
      · exfalso; omega
      refine go_iload_n (at_of tX9_isJudgedSoundly 1 2 rfl) rfl ?_
      refine go_if_eq (tgt := 47) (at_of tX9_isJudgedSoundly 1 3 rfl) (by decide) (fun h39 => ?_) (fun h39 => ?_)
      rotate_left
      · exfalso; omega
      refine go_iload (at_of tX9_isJudgedSoundly 1 6 rfl) rfl rfl ?_
      refine go_iconst (at_of tX9_isJudgedSoundly 1 7 rfl) (by unfold in32; omega) ?_
      refine go_isub (at_of tX9_isJudgedSoundly 1 8 rfl) (by unfold in32; omega) ?_
      refine go_iload (at_of tX9_isJudgedSoundly 1 9 rfl) rfl rfl ?_
      refine go_isub (at_of tX9_isJudgedSoundly 1 10 rfl) (by unfold in32; omega) ?_
      refine go_istore (at_of tX9_isJudgedSoundly 1 11 rfl) rfl rfl ?_
      refine go_aload_n (at_of tX9_isJudgedSoundly 1 12 rfl) rfl ?_
      refine go_getr (q := (3 + 10 * 7)) fl_X9_23 rfl G_0 ((hS2 _ _ rfl).trans rfl) (at_of tX9_isJudgedSoundly 1 13 rfl) ?_
      refine go_getr (q := (8 + 10 * 7)) fl_X9_118 rfl s1 q2 (at_of tX9_isJudgedSoundly 1 14 rfl) ?_
      refine go_iload (at_of tX9_isJudgedSoundly 1 15 rfl) rfl rfl ?_
      refine go_cV (l_state hS2 (show 7 < 8 by omega) hP2 (by omega)) lk_X9_241 rfl s6 (at_of tX9_isJudgedSoundly 2 0 rfl) rfl (by decide) rfl (Nat.le_of_ble_eq_true rfl) rfl (by first | decide | exact ⟨Nat.zero_le _, Nat.zero_le _⟩) ?_
      refine go_bipush (at_of tX9_isJudgedSoundly 2 1 rfl) (by decide) ?_
      refine go_icmp_ne (tgt := 84) (at_of tX9_isJudgedSoundly 2 2 rfl) (by decide) (fun h70 => ?_) (fun h70 => ?_)
      · exfalso; exact h70 hc
      refine go_aload_n (at_of tX9_isJudgedSoundly 2 3 rfl) rfl ?_
      refine go_getr (q := (3 + 10 * 7)) fl_X9_23 rfl G_0 ((hS2 _ _ rfl).trans rfl) (at_of tX9_isJudgedSoundly 2 4 rfl) ?_
      refine go_iload (at_of tX9_isJudgedSoundly 2 5 rfl) rfl rfl ?_
      refine go_iload_n (at_of tX9_isJudgedSoundly 2 6 rfl) rfl ?_
      refine go_cV (d1) lk_X9_252 rfl s1 (at_of tX9_isJudgedSoundly 2 7 rfl) rfl (by decide) rfl (Nat.le_of_ble_eq_true rfl) rfl (by first | decide | exact ⟨Nat.zero_le _, Nat.zero_le _⟩) ?_
      refine go_pop (at_of tX9_isJudgedSoundly 2 8 rfl) rfl ?_
      refine go_iinc (at_of tX9_isJudgedSoundly 2 9 rfl) rfl (by unfold in32; omega) rfl rfl ?_
      refine go_goto (tgt := 31) (at_of tX9_isJudgedSoundly 2 10 rfl) (by decide) ?_
      exact K _ _
    · have e9 : jdS false false (A.1 A.2.1).2.1.1 E s = E := if_neg hc
      rw [e9]
      refine ⟨σ2, ⟨hP2, hF2, by omega, hm2⟩, fun b out K v6 => ?_⟩
      refine go_iload (at_of tX9_isJudgedSoundly 0 15 rfl) rfl rfl ?_
      refine go_iload (at_of tX9_isJudgedSoundly 1 0 rfl) rfl rfl ?_
      refine go_icmp_ge (tgt := 90) (at_of tX9_isJudgedSoundly 1 1 rfl) (by decide) (fun h35 => ?_) (fun h35 => ?_)
      · exfalso; omega
      refine go_iload_n (at_of tX9_isJudgedSoundly 1 2 rfl) rfl ?_
      refine go_if_eq (tgt := 47) (at_of tX9_isJudgedSoundly 1 3 rfl) (by decide) (fun h39 => ?_) (fun h39 => ?_)
      rotate_left
      · exfalso; omega
      refine go_iload (at_of tX9_isJudgedSoundly 1 6 rfl) rfl rfl ?_
      refine go_iconst (at_of tX9_isJudgedSoundly 1 7 rfl) (by unfold in32; omega) ?_
      refine go_isub (at_of tX9_isJudgedSoundly 1 8 rfl) (by unfold in32; omega) ?_
      refine go_iload (at_of tX9_isJudgedSoundly 1 9 rfl) rfl rfl ?_
      refine go_isub (at_of tX9_isJudgedSoundly 1 10 rfl) (by unfold in32; omega) ?_
      refine go_istore (at_of tX9_isJudgedSoundly 1 11 rfl) rfl rfl ?_
      refine go_aload_n (at_of tX9_isJudgedSoundly 1 12 rfl) rfl ?_
      refine go_getr (q := (3 + 10 * 7)) fl_X9_23 rfl G_0 ((hS2 _ _ rfl).trans rfl) (at_of tX9_isJudgedSoundly 1 13 rfl) ?_
      refine go_getr (q := (8 + 10 * 7)) fl_X9_118 rfl s1 q2 (at_of tX9_isJudgedSoundly 1 14 rfl) ?_
      refine go_iload (at_of tX9_isJudgedSoundly 1 15 rfl) rfl rfl ?_
      refine go_cV (l_state hS2 (show 7 < 8 by omega) hP2 (by omega)) lk_X9_241 rfl s6 (at_of tX9_isJudgedSoundly 2 0 rfl) rfl (by decide) rfl (Nat.le_of_ble_eq_true rfl) rfl (by first | decide | exact ⟨Nat.zero_le _, Nat.zero_le _⟩) ?_
      refine go_bipush (at_of tX9_isJudgedSoundly 2 1 rfl) (by decide) ?_
      refine go_icmp_ne (tgt := 84) (at_of tX9_isJudgedSoundly 2 2 rfl) (by decide) (fun h70 => ?_) (fun h70 => ?_)
      rotate_left
      · exfalso; exact hc h70
      refine go_iinc (at_of tX9_isJudgedSoundly 2 9 rfl) rfl (by unfold in32; omega) rfl rfl ?_
      refine go_goto (tgt := 31) (at_of tX9_isJudgedSoundly 2 10 rfl) (by decide) ?_
      exact K _ _
theorem con_isJudged_01 (hS : Str σ.2.1) {pi : Nat → Nat} {A : PastD} (hA : PastR σ pi A) : ∃ σ', Con 4 mX9_isJudgedSoundly 0 0 [vA 0, vI 0, vI 1] σ (vI (bI (jdT (A.1 A.2.1) false true = true)), σ') ∧ Frm σ σ' 74 82 := by
  obtain ⟨hp, hd, hu, hle, hrep⟩ := id hA
  have hk7 := (hp.1 A.2.1 (by omega)).2
  have hk : pi A.2.1 < 8 := by omega
  have hD := hrep A.2.1 (by omega)
  have hR := hD.1
  have hL := hD.2.1.2.2.1
  have hn := hR.1
  obtain ⟨hw1, hw2, hw3⟩ := hR.2.2.2
  have hm := hD.2.1.1
  obtain ⟨l1, l2, l3⟩ := hD.2.1.2.2.2
  obtain ⟨g1, g2, g3, g4, g5, g6, g7, g8, g9, g10⟩ := gamk _ hk
  obtain ⟨p1, p2, p3, p4, p5, p6, p7, p8, p9⟩ := strk hS _ hk
  obtain ⟨s1, s2, s3, s4, s5, s6, s7, s8, s9, s10⟩ := gamk 7 (by omega)
  obtain ⟨t1, t2, t3, t4, t5, t6, t7, t8, t9⟩ := strk hS 7 (by omega)
  have hne : 7 ≠ pi A.2.1 := by omega
  have c1 := con_takeFrom hS (show 7 < 8 by omega) hk hne
  have hP7 := rep_tkS hne hD
  have hF7 := @tkS_frm σ 7 (pi A.2.1)
  have key := loop_up (α := PapD) (Rep := fun σ' E s => RepP σ' 7 E ∧ Frm σ σ' 74 82 ∧ 0 ≤ s ∧ E.2.1.1 = (A.1 A.2.1).2.1.1) (f := jdS false true (A.1 A.2.1).2.1.1) (hi := (A.1 A.2.1).2.1.1)
    (G := fun b E s σ out => ∀ v6, Go (fun _ => 0) 4 mX9_isJudgedSoundly b 31 [vA 0, vI 0, vI 1, vA (3 + 10 * pi A.2.1), vI (A.1 A.2.1).2.1.1, vI s, v6] [] σ out) (fun σ2 E s hh hlo => ?_) ((A.1 A.2.1).2.1.1).toNat (tkS σ 7 (pi A.2.1)) (A.1 A.2.1) 0 ⟨hP7, hF7, by omega, rfl⟩ (by omega)
  · obtain ⟨σ', ⟨q1, q2, -, -⟩, q3⟩ := key
    refine ⟨σ', ?_, q2⟩
    have hS' : Str σ'.2.1 := by rw [q2.1]; exact hS
    have hR' : RepR σ' (pi A.2.1) (A.1 A.2.1).1 := hR.eqs (fun a x y j => q2.2 a (by omega) j)
    have ct := con_isTextOf_old (k := 7) hS' (by omega) q1.1 hk hR'
    have ct : Con 2 mX7_isTextOf 0 0 [vA (4 + 10 * 7), vA (4 + 10 * pi A.2.1), vI 1] σ' (vI (bI (jdT (A.1 A.2.1) false true = true)), σ') := ct
    obtain ⟨u1, u2, u3, -⟩ := strk hS' 7 (by omega)
    obtain ⟨w1, w2, w3, -⟩ := strk hS' _ hk
    refine con_of_go mfX9_isJudgedSoundly.1 bI_01 (Nat.le_of_ble_eq_true rfl) rfl (by decide) ?_
    show Go _ _ _ _ 0 [vA _, vI _, vI _, vT 9 0, vT 9 0, vT 9 0, vT 9 0] [] _ _
    refine go_aload_n (at_of tX9_isJudgedSoundly 0 0 rfl) rfl ?_
    refine go_getr (q := 1) fl_X9_16 rfl G_0 ((hS _ _ rfl).trans rfl) (at_of tX9_isJudgedSoundly 0 1 rfl) ?_
    refine go_cV (con_now hS hA) lk_X9_114 rfl g1_ (at_of tX9_isJudgedSoundly 0 2 rfl) rfl (by decide) rfl (Nat.le_of_ble_eq_true rfl) rfl (by first | decide | exact ⟨Nat.zero_le _, Nat.zero_le _⟩) ?_
    refine go_astore_n (at_of tX9_isJudgedSoundly 0 3 rfl) rfl rfl ?_
    refine go_aload_n (at_of tX9_isJudgedSoundly 0 4 rfl) rfl ?_
    refine go_getr (q := (3 + 10 * 7)) fl_X9_23 rfl G_0 ((hS _ _ rfl).trans rfl) (at_of tX9_isJudgedSoundly 0 5 rfl) ?_
    refine go_aload_n (at_of tX9_isJudgedSoundly 0 6 rfl) rfl ?_
    refine go_cV (c1) lk_X9_488 rfl s1 (at_of tX9_isJudgedSoundly 0 7 rfl) rfl (by decide) rfl (Nat.le_of_ble_eq_true rfl) rfl (by first | decide | exact ⟨Nat.zero_le _, Nat.zero_le _⟩) ?_
    refine go_aload_n (at_of tX9_isJudgedSoundly 0 8 rfl) rfl ?_
    refine go_getr (q := (3 + 10 * 7)) fl_X9_23 rfl G_0 ((hS _ _ rfl).trans rfl) (at_of tX9_isJudgedSoundly 0 9 rfl) ?_
    refine go_getr (q := (8 + 10 * 7)) fl_X9_118 rfl s1 t2 (at_of tX9_isJudgedSoundly 0 10 rfl) ?_
    refine go_cV (l_many (by exact hS) (show 7 < 8 by omega) hP7) lk_X9_228 rfl s6 (at_of tX9_isJudgedSoundly 0 11 rfl) rfl (by decide) rfl (Nat.le_of_ble_eq_true rfl) rfl (by first | decide | exact ⟨Nat.zero_le _, Nat.zero_le _⟩) ?_
    refine go_istore (at_of tX9_isJudgedSoundly 0 12 rfl) rfl rfl ?_
    refine go_iconst (at_of tX9_isJudgedSoundly 0 13 rfl) (by unfold in32; omega) ?_
    refine go_istore (at_of tX9_isJudgedSoundly 0 14 rfl) rfl rfl ?_
    refine q3 _ _ (fun b => ?_) _
    intro v6
    refine go_iload (at_of tX9_isJudgedSoundly 0 15 rfl) rfl rfl ?_
    refine go_iload (at_of tX9_isJudgedSoundly 1 0 rfl) rfl rfl ?_
    refine go_icmp_ge (tgt := 90) (at_of tX9_isJudgedSoundly 1 1 rfl) (by decide) (fun h35 => ?_) (fun h35 => ?_)
    rotate_left
    · exfalso; omega
    refine go_aload_n (at_of tX9_isJudgedSoundly 2 11 rfl) rfl ?_
    refine go_getr (q := (3 + 10 * 7)) fl_X9_23 rfl G_0 ((hS' _ _ rfl).trans rfl) (at_of tX9_isJudgedSoundly 2 12 rfl) ?_
    refine go_getr (q := (4 + 10 * 7)) fl_X9_131 rfl s1 u1 (at_of tX9_isJudgedSoundly 2 13 rfl) ?_
    refine go_aload_n (at_of tX9_isJudgedSoundly 2 14 rfl) rfl ?_
    refine go_getr (q := (4 + 10 * pi A.2.1)) fl_X9_131 rfl g1 w1 (at_of tX9_isJudgedSoundly 2 15 rfl) ?_
    refine go_iload_n (at_of tX9_isJudgedSoundly 3 0 rfl) rfl ?_
    refine go_if_ne (tgt := 109) (at_of tX9_isJudgedSoundly 3 1 rfl) (by decide) (fun h102 => ?_) (fun h102 => ?_)
    · exfalso; omega
    refine go_iconst (at_of tX9_isJudgedSoundly 3 2 rfl) (by unfold in32; omega) ?_
    refine go_goto (tgt := 110) (at_of tX9_isJudgedSoundly 3 3 rfl) (by decide) ?_
    refine go_cV (ct) lk_X9_492 rfl s2 (at_of tX9_isJudgedSoundly 3 5 rfl) rfl (by decide) rfl (Nat.le_of_ble_eq_true rfl) rfl (by first | decide | exact ⟨Nat.zero_le _, Nat.zero_le _⟩) ?_
    first | exact go_reti (at_of tX9_isJudgedSoundly 3 6 rfl) rfl | exact go_reti (at_of tX9_isJudgedSoundly 3 6 rfl) (le_i (by omega)) | exact go_reti (at_of tX9_isJudgedSoundly 3 6 rfl) (le_i (by first | exact bI_t (by omega) | exact bI_f (by omega)))
  · obtain ⟨hP2, hF2, hs, hm2⟩ := hh
    have hS2 : Str σ2.2.1 := by rw [hF2.1]; exact hS
    obtain ⟨q1, q2, q3, q4, q5, q6, q7, q8, q9⟩ := strk hS2 7 (by omega)
    by_cases hc : E.2.1.2.2.2 s = 119
    · have e9 : jdS false true (A.1 A.2.1).2.1.1 E s = setlD E s false := if_pos hc
      rw [e9]
      obtain ⟨σ3, d1, d2, d3⟩ := con_settle hS2 (show 7 < 8 by omega) hP2 (c := s) (acc := false) (by omega)
      have d1 : Con 3 mX4_settle 0 0 [vA (3 + 10 * 7), vI s, vI 0] σ2 (vI (concN E.1.1 E.1.2.1 s), σ3) := d1
      refine ⟨σ3, ⟨d2, hF2.trans (d3.mono (by omega) (by omega)), by omega, hm2⟩, fun b out K v6 => ?_⟩
      refine go_iload (at_of tX9_isJudgedSoundly 0 15 rfl) rfl rfl ?_
      refine go_iload (at_of tX9_isJudgedSoundly 1 0 rfl) rfl rfl ?_
      refine go_icmp_ge (tgt := 90) (at_of tX9_isJudgedSoundly 1 1 rfl) (by decide) (fun h35 => ?_) (fun h35 => ?_)
      · exfalso; omega
      refine go_iload_n (at_of tX9_isJudgedSoundly 1 2 rfl) rfl ?_
      refine go_if_eq (tgt := 47) (at_of tX9_isJudgedSoundly 1 3 rfl) (by decide) (fun h39 => ?_) (fun h39 => ?_)
      · exfalso; omega
      refine go_iload (at_of tX9_isJudgedSoundly 1 4 rfl) rfl rfl ?_
      refine go_goto (tgt := 54) (at_of tX9_isJudgedSoundly 1 5 rfl) (by decide) ?_
      refine go_istore (at_of tX9_isJudgedSoundly 1 11 rfl) rfl rfl ?_
      refine go_aload_n (at_of tX9_isJudgedSoundly 1 12 rfl) rfl ?_
      refine go_getr (q := (3 + 10 * 7)) fl_X9_23 rfl G_0 ((hS2 _ _ rfl).trans rfl) (at_of tX9_isJudgedSoundly 1 13 rfl) ?_
      refine go_getr (q := (8 + 10 * 7)) fl_X9_118 rfl s1 q2 (at_of tX9_isJudgedSoundly 1 14 rfl) ?_
      refine go_iload (at_of tX9_isJudgedSoundly 1 15 rfl) rfl rfl ?_
      refine go_cV (l_state hS2 (show 7 < 8 by omega) hP2 (by omega)) lk_X9_241 rfl s6 (at_of tX9_isJudgedSoundly 2 0 rfl) rfl (by decide) rfl (Nat.le_of_ble_eq_true rfl) rfl (by first | decide | exact ⟨Nat.zero_le _, Nat.zero_le _⟩) ?_
      refine go_bipush (at_of tX9_isJudgedSoundly 2 1 rfl) (by decide) ?_
      refine go_icmp_ne (tgt := 84) (at_of tX9_isJudgedSoundly 2 2 rfl) (by decide) (fun h70 => ?_) (fun h70 => ?_)
      · exfalso; exact h70 hc
      refine go_aload_n (at_of tX9_isJudgedSoundly 2 3 rfl) rfl ?_
      refine go_getr (q := (3 + 10 * 7)) fl_X9_23 rfl G_0 ((hS2 _ _ rfl).trans rfl) (at_of tX9_isJudgedSoundly 2 4 rfl) ?_
      refine go_iload (at_of tX9_isJudgedSoundly 2 5 rfl) rfl rfl ?_
      refine go_iload_n (at_of tX9_isJudgedSoundly 2 6 rfl) rfl ?_
      refine go_cV (d1) lk_X9_252 rfl s1 (at_of tX9_isJudgedSoundly 2 7 rfl) rfl (by decide) rfl (Nat.le_of_ble_eq_true rfl) rfl (by first | decide | exact ⟨Nat.zero_le _, Nat.zero_le _⟩) ?_
      refine go_pop (at_of tX9_isJudgedSoundly 2 8 rfl) rfl ?_
      refine go_iinc (at_of tX9_isJudgedSoundly 2 9 rfl) rfl (by unfold in32; omega) rfl rfl ?_
      refine go_goto (tgt := 31) (at_of tX9_isJudgedSoundly 2 10 rfl) (by decide) ?_
      exact K _ _
    · have e9 : jdS false true (A.1 A.2.1).2.1.1 E s = E := if_neg hc
      rw [e9]
      refine ⟨σ2, ⟨hP2, hF2, by omega, hm2⟩, fun b out K v6 => ?_⟩
      refine go_iload (at_of tX9_isJudgedSoundly 0 15 rfl) rfl rfl ?_
      refine go_iload (at_of tX9_isJudgedSoundly 1 0 rfl) rfl rfl ?_
      refine go_icmp_ge (tgt := 90) (at_of tX9_isJudgedSoundly 1 1 rfl) (by decide) (fun h35 => ?_) (fun h35 => ?_)
      · exfalso; omega
      refine go_iload_n (at_of tX9_isJudgedSoundly 1 2 rfl) rfl ?_
      refine go_if_eq (tgt := 47) (at_of tX9_isJudgedSoundly 1 3 rfl) (by decide) (fun h39 => ?_) (fun h39 => ?_)
      · exfalso; omega
      refine go_iload (at_of tX9_isJudgedSoundly 1 4 rfl) rfl rfl ?_
      refine go_goto (tgt := 54) (at_of tX9_isJudgedSoundly 1 5 rfl) (by decide) ?_
      refine go_istore (at_of tX9_isJudgedSoundly 1 11 rfl) rfl rfl ?_
      refine go_aload_n (at_of tX9_isJudgedSoundly 1 12 rfl) rfl ?_
      refine go_getr (q := (3 + 10 * 7)) fl_X9_23 rfl G_0 ((hS2 _ _ rfl).trans rfl) (at_of tX9_isJudgedSoundly 1 13 rfl) ?_
      refine go_getr (q := (8 + 10 * 7)) fl_X9_118 rfl s1 q2 (at_of tX9_isJudgedSoundly 1 14 rfl) ?_
      refine go_iload (at_of tX9_isJudgedSoundly 1 15 rfl) rfl rfl ?_
      refine go_cV (l_state hS2 (show 7 < 8 by omega) hP2 (by omega)) lk_X9_241 rfl s6 (at_of tX9_isJudgedSoundly 2 0 rfl) rfl (by decide) rfl (Nat.le_of_ble_eq_true rfl) rfl (by first | decide | exact ⟨Nat.zero_le _, Nat.zero_le _⟩) ?_
      refine go_bipush (at_of tX9_isJudgedSoundly 2 1 rfl) (by decide) ?_
      refine go_icmp_ne (tgt := 84) (at_of tX9_isJudgedSoundly 2 2 rfl) (by decide) (fun h70 => ?_) (fun h70 => ?_)
      rotate_left
      · exfalso; exact hc h70
      refine go_iinc (at_of tX9_isJudgedSoundly 2 9 rfl) rfl (by unfold in32; omega) rfl rfl ?_
      refine go_goto (tgt := 31) (at_of tX9_isJudgedSoundly 2 10 rfl) (by decide) ?_
      exact K _ _
theorem con_isJudged_10 (hS : Str σ.2.1) {pi : Nat → Nat} {A : PastD} (hA : PastR σ pi A) : ∃ σ', Con 4 mX9_isJudgedSoundly 0 0 [vA 0, vI 1, vI 0] σ (vI (bI (jdT (A.1 A.2.1) true false = true)), σ') ∧ Frm σ σ' 74 82 := by
  obtain ⟨hp, hd, hu, hle, hrep⟩ := id hA
  have hk7 := (hp.1 A.2.1 (by omega)).2
  have hk : pi A.2.1 < 8 := by omega
  have hD := hrep A.2.1 (by omega)
  have hR := hD.1
  have hL := hD.2.1.2.2.1
  have hn := hR.1
  obtain ⟨hw1, hw2, hw3⟩ := hR.2.2.2
  have hm := hD.2.1.1
  obtain ⟨l1, l2, l3⟩ := hD.2.1.2.2.2
  obtain ⟨g1, g2, g3, g4, g5, g6, g7, g8, g9, g10⟩ := gamk _ hk
  obtain ⟨p1, p2, p3, p4, p5, p6, p7, p8, p9⟩ := strk hS _ hk
  obtain ⟨s1, s2, s3, s4, s5, s6, s7, s8, s9, s10⟩ := gamk 7 (by omega)
  obtain ⟨t1, t2, t3, t4, t5, t6, t7, t8, t9⟩ := strk hS 7 (by omega)
  have hne : 7 ≠ pi A.2.1 := by omega
  have c1 := con_takeFrom hS (show 7 < 8 by omega) hk hne
  have hP7 := rep_tkS hne hD
  have hF7 := @tkS_frm σ 7 (pi A.2.1)
  have key := loop_up (α := PapD) (Rep := fun σ' E s => RepP σ' 7 E ∧ Frm σ σ' 74 82 ∧ 0 ≤ s ∧ E.2.1.1 = (A.1 A.2.1).2.1.1) (f := jdS true false (A.1 A.2.1).2.1.1) (hi := (A.1 A.2.1).2.1.1)
    (G := fun b E s σ out => ∀ v6, Go (fun _ => 0) 4 mX9_isJudgedSoundly b 31 [vA 0, vI 1, vI 0, vA (3 + 10 * pi A.2.1), vI (A.1 A.2.1).2.1.1, vI s, v6] [] σ out) (fun σ2 E s hh hlo => ?_) ((A.1 A.2.1).2.1.1).toNat (tkS σ 7 (pi A.2.1)) (A.1 A.2.1) 0 ⟨hP7, hF7, by omega, rfl⟩ (by omega)
  · obtain ⟨σ', ⟨q1, q2, -, -⟩, q3⟩ := key
    refine ⟨σ', ?_, q2⟩
    have hS' : Str σ'.2.1 := by rw [q2.1]; exact hS
    have hR' : RepR σ' (pi A.2.1) (A.1 A.2.1).1 := hR.eqs (fun a x y j => q2.2 a (by omega) j)
    have ct := con_isTextOf_seen (k := 7) hS' (by omega) q1.1 hk hR'
    have ct : Con 2 mX7_isTextOf 0 0 [vA (4 + 10 * 7), vA (4 + 10 * pi A.2.1), vI 0] σ' (vI (bI (jdT (A.1 A.2.1) true false = true)), σ') := ct
    obtain ⟨u1, u2, u3, -⟩ := strk hS' 7 (by omega)
    obtain ⟨w1, w2, w3, -⟩ := strk hS' _ hk
    refine con_of_go mfX9_isJudgedSoundly.1 bI_01 (Nat.le_of_ble_eq_true rfl) rfl (by decide) ?_
    show Go _ _ _ _ 0 [vA _, vI _, vI _, vT 9 0, vT 9 0, vT 9 0, vT 9 0] [] _ _
    refine go_aload_n (at_of tX9_isJudgedSoundly 0 0 rfl) rfl ?_
    refine go_getr (q := 1) fl_X9_16 rfl G_0 ((hS _ _ rfl).trans rfl) (at_of tX9_isJudgedSoundly 0 1 rfl) ?_
    refine go_cV (con_now hS hA) lk_X9_114 rfl g1_ (at_of tX9_isJudgedSoundly 0 2 rfl) rfl (by decide) rfl (Nat.le_of_ble_eq_true rfl) rfl (by first | decide | exact ⟨Nat.zero_le _, Nat.zero_le _⟩) ?_
    refine go_astore_n (at_of tX9_isJudgedSoundly 0 3 rfl) rfl rfl ?_
    refine go_aload_n (at_of tX9_isJudgedSoundly 0 4 rfl) rfl ?_
    refine go_getr (q := (3 + 10 * 7)) fl_X9_23 rfl G_0 ((hS _ _ rfl).trans rfl) (at_of tX9_isJudgedSoundly 0 5 rfl) ?_
    refine go_aload_n (at_of tX9_isJudgedSoundly 0 6 rfl) rfl ?_
    refine go_cV (c1) lk_X9_488 rfl s1 (at_of tX9_isJudgedSoundly 0 7 rfl) rfl (by decide) rfl (Nat.le_of_ble_eq_true rfl) rfl (by first | decide | exact ⟨Nat.zero_le _, Nat.zero_le _⟩) ?_
    refine go_aload_n (at_of tX9_isJudgedSoundly 0 8 rfl) rfl ?_
    refine go_getr (q := (3 + 10 * 7)) fl_X9_23 rfl G_0 ((hS _ _ rfl).trans rfl) (at_of tX9_isJudgedSoundly 0 9 rfl) ?_
    refine go_getr (q := (8 + 10 * 7)) fl_X9_118 rfl s1 t2 (at_of tX9_isJudgedSoundly 0 10 rfl) ?_
    refine go_cV (l_many (by exact hS) (show 7 < 8 by omega) hP7) lk_X9_228 rfl s6 (at_of tX9_isJudgedSoundly 0 11 rfl) rfl (by decide) rfl (Nat.le_of_ble_eq_true rfl) rfl (by first | decide | exact ⟨Nat.zero_le _, Nat.zero_le _⟩) ?_
    refine go_istore (at_of tX9_isJudgedSoundly 0 12 rfl) rfl rfl ?_
    refine go_iconst (at_of tX9_isJudgedSoundly 0 13 rfl) (by unfold in32; omega) ?_
    refine go_istore (at_of tX9_isJudgedSoundly 0 14 rfl) rfl rfl ?_
    refine q3 _ _ (fun b => ?_) _
    intro v6
    refine go_iload (at_of tX9_isJudgedSoundly 0 15 rfl) rfl rfl ?_
    refine go_iload (at_of tX9_isJudgedSoundly 1 0 rfl) rfl rfl ?_
    refine go_icmp_ge (tgt := 90) (at_of tX9_isJudgedSoundly 1 1 rfl) (by decide) (fun h35 => ?_) (fun h35 => ?_)
    rotate_left
    · exfalso; omega
    refine go_aload_n (at_of tX9_isJudgedSoundly 2 11 rfl) rfl ?_
    refine go_getr (q := (3 + 10 * 7)) fl_X9_23 rfl G_0 ((hS' _ _ rfl).trans rfl) (at_of tX9_isJudgedSoundly 2 12 rfl) ?_
    refine go_getr (q := (4 + 10 * 7)) fl_X9_131 rfl s1 u1 (at_of tX9_isJudgedSoundly 2 13 rfl) ?_
    refine go_aload_n (at_of tX9_isJudgedSoundly 2 14 rfl) rfl ?_
    refine go_getr (q := (4 + 10 * pi A.2.1)) fl_X9_131 rfl g1 w1 (at_of tX9_isJudgedSoundly 2 15 rfl) ?_
    refine go_iload_n (at_of tX9_isJudgedSoundly 3 0 rfl) rfl ?_
    refine go_if_ne (tgt := 109) (at_of tX9_isJudgedSoundly 3 1 rfl) (by decide) (fun h102 => ?_) (fun h102 => ?_)
    rotate_left
    · exfalso; omega
    refine go_iconst (at_of tX9_isJudgedSoundly 3 4 rfl) (by unfold in32; omega) ?_
    refine go_cV (ct) lk_X9_492 rfl s2 (at_of tX9_isJudgedSoundly 3 5 rfl) rfl (by decide) rfl (Nat.le_of_ble_eq_true rfl) rfl (by first | decide | exact ⟨Nat.zero_le _, Nat.zero_le _⟩) ?_
    first | exact go_reti (at_of tX9_isJudgedSoundly 3 6 rfl) rfl | exact go_reti (at_of tX9_isJudgedSoundly 3 6 rfl) (le_i (by omega)) | exact go_reti (at_of tX9_isJudgedSoundly 3 6 rfl) (le_i (by first | exact bI_t (by omega) | exact bI_f (by omega)))
  · obtain ⟨hP2, hF2, hs, hm2⟩ := hh
    have hS2 : Str σ2.2.1 := by rw [hF2.1]; exact hS
    obtain ⟨q1, q2, q3, q4, q5, q6, q7, q8, q9⟩ := strk hS2 7 (by omega)
    by_cases hc : E.2.1.2.2.2 ((A.1 A.2.1).2.1.1 - 1 - s) = 119
    · have e9 : jdS true false (A.1 A.2.1).2.1.1 E s = setlD E ((A.1 A.2.1).2.1.1 - 1 - s) true := if_pos hc
      rw [e9]
      obtain ⟨σ3, d1, d2, d3⟩ := con_settle hS2 (show 7 < 8 by omega) hP2 (c := ((A.1 A.2.1).2.1.1 - 1 - s)) (acc := true) (by omega)
      have d1 : Con 3 mX4_settle 0 0 [vA (3 + 10 * 7), vI ((A.1 A.2.1).2.1.1 - 1 - s), vI 1] σ2 (vI (concN E.1.1 E.1.2.1 ((A.1 A.2.1).2.1.1 - 1 - s)), σ3) := d1
      refine ⟨σ3, ⟨d2, hF2.trans (d3.mono (by omega) (by omega)), by omega, hm2⟩, fun b out K v6 => ?_⟩
      refine go_iload (at_of tX9_isJudgedSoundly 0 15 rfl) rfl rfl ?_
      refine go_iload (at_of tX9_isJudgedSoundly 1 0 rfl) rfl rfl ?_
      refine go_icmp_ge (tgt := 90) (at_of tX9_isJudgedSoundly 1 1 rfl) (by decide) (fun h35 => ?_) (fun h35 => ?_)
      · exfalso; omega
      refine go_iload_n (at_of tX9_isJudgedSoundly 1 2 rfl) rfl ?_
      refine go_if_eq (tgt := 47) (at_of tX9_isJudgedSoundly 1 3 rfl) (by decide) (fun h39 => ?_) (fun h39 => ?_)
      rotate_left
      · exfalso; omega
      refine go_iload (at_of tX9_isJudgedSoundly 1 6 rfl) rfl rfl ?_
      refine go_iconst (at_of tX9_isJudgedSoundly 1 7 rfl) (by unfold in32; omega) ?_
      refine go_isub (at_of tX9_isJudgedSoundly 1 8 rfl) (by unfold in32; omega) ?_
      refine go_iload (at_of tX9_isJudgedSoundly 1 9 rfl) rfl rfl ?_
      refine go_isub (at_of tX9_isJudgedSoundly 1 10 rfl) (by unfold in32; omega) ?_
      refine go_istore (at_of tX9_isJudgedSoundly 1 11 rfl) rfl rfl ?_
      refine go_aload_n (at_of tX9_isJudgedSoundly 1 12 rfl) rfl ?_
      refine go_getr (q := (3 + 10 * 7)) fl_X9_23 rfl G_0 ((hS2 _ _ rfl).trans rfl) (at_of tX9_isJudgedSoundly 1 13 rfl) ?_
      refine go_getr (q := (8 + 10 * 7)) fl_X9_118 rfl s1 q2 (at_of tX9_isJudgedSoundly 1 14 rfl) ?_
      refine go_iload (at_of tX9_isJudgedSoundly 1 15 rfl) rfl rfl ?_
      refine go_cV (l_state hS2 (show 7 < 8 by omega) hP2 (by omega)) lk_X9_241 rfl s6 (at_of tX9_isJudgedSoundly 2 0 rfl) rfl (by decide) rfl (Nat.le_of_ble_eq_true rfl) rfl (by first | decide | exact ⟨Nat.zero_le _, Nat.zero_le _⟩) ?_
      refine go_bipush (at_of tX9_isJudgedSoundly 2 1 rfl) (by decide) ?_
      refine go_icmp_ne (tgt := 84) (at_of tX9_isJudgedSoundly 2 2 rfl) (by decide) (fun h70 => ?_) (fun h70 => ?_)
      · exfalso; exact h70 hc
      refine go_aload_n (at_of tX9_isJudgedSoundly 2 3 rfl) rfl ?_
      refine go_getr (q := (3 + 10 * 7)) fl_X9_23 rfl G_0 ((hS2 _ _ rfl).trans rfl) (at_of tX9_isJudgedSoundly 2 4 rfl) ?_
      refine go_iload (at_of tX9_isJudgedSoundly 2 5 rfl) rfl rfl ?_
      refine go_iload_n (at_of tX9_isJudgedSoundly 2 6 rfl) rfl ?_
      refine go_cV (d1) lk_X9_252 rfl s1 (at_of tX9_isJudgedSoundly 2 7 rfl) rfl (by decide) rfl (Nat.le_of_ble_eq_true rfl) rfl (by first | decide | exact ⟨Nat.zero_le _, Nat.zero_le _⟩) ?_
      refine go_pop (at_of tX9_isJudgedSoundly 2 8 rfl) rfl ?_
      refine go_iinc (at_of tX9_isJudgedSoundly 2 9 rfl) rfl (by unfold in32; omega) rfl rfl ?_
      refine go_goto (tgt := 31) (at_of tX9_isJudgedSoundly 2 10 rfl) (by decide) ?_
      exact K _ _
    · have e9 : jdS true false (A.1 A.2.1).2.1.1 E s = E := if_neg hc
      rw [e9]
      refine ⟨σ2, ⟨hP2, hF2, by omega, hm2⟩, fun b out K v6 => ?_⟩
      refine go_iload (at_of tX9_isJudgedSoundly 0 15 rfl) rfl rfl ?_
      refine go_iload (at_of tX9_isJudgedSoundly 1 0 rfl) rfl rfl ?_
      refine go_icmp_ge (tgt := 90) (at_of tX9_isJudgedSoundly 1 1 rfl) (by decide) (fun h35 => ?_) (fun h35 => ?_)
      · exfalso; omega
      refine go_iload_n (at_of tX9_isJudgedSoundly 1 2 rfl) rfl ?_
      refine go_if_eq (tgt := 47) (at_of tX9_isJudgedSoundly 1 3 rfl) (by decide) (fun h39 => ?_) (fun h39 => ?_)
      rotate_left
      · exfalso; omega
      refine go_iload (at_of tX9_isJudgedSoundly 1 6 rfl) rfl rfl ?_
      refine go_iconst (at_of tX9_isJudgedSoundly 1 7 rfl) (by unfold in32; omega) ?_
      refine go_isub (at_of tX9_isJudgedSoundly 1 8 rfl) (by unfold in32; omega) ?_
      refine go_iload (at_of tX9_isJudgedSoundly 1 9 rfl) rfl rfl ?_
      refine go_isub (at_of tX9_isJudgedSoundly 1 10 rfl) (by unfold in32; omega) ?_
      refine go_istore (at_of tX9_isJudgedSoundly 1 11 rfl) rfl rfl ?_
      refine go_aload_n (at_of tX9_isJudgedSoundly 1 12 rfl) rfl ?_
      refine go_getr (q := (3 + 10 * 7)) fl_X9_23 rfl G_0 ((hS2 _ _ rfl).trans rfl) (at_of tX9_isJudgedSoundly 1 13 rfl) ?_
      refine go_getr (q := (8 + 10 * 7)) fl_X9_118 rfl s1 q2 (at_of tX9_isJudgedSoundly 1 14 rfl) ?_
      refine go_iload (at_of tX9_isJudgedSoundly 1 15 rfl) rfl rfl ?_
      refine go_cV (l_state hS2 (show 7 < 8 by omega) hP2 (by omega)) lk_X9_241 rfl s6 (at_of tX9_isJudgedSoundly 2 0 rfl) rfl (by decide) rfl (Nat.le_of_ble_eq_true rfl) rfl (by first | decide | exact ⟨Nat.zero_le _, Nat.zero_le _⟩) ?_
      refine go_bipush (at_of tX9_isJudgedSoundly 2 1 rfl) (by decide) ?_
      refine go_icmp_ne (tgt := 84) (at_of tX9_isJudgedSoundly 2 2 rfl) (by decide) (fun h70 => ?_) (fun h70 => ?_)
      rotate_left
      · exfalso; exact hc h70
      refine go_iinc (at_of tX9_isJudgedSoundly 2 9 rfl) rfl (by unfold in32; omega) rfl rfl ?_
      refine go_goto (tgt := 31) (at_of tX9_isJudgedSoundly 2 10 rfl) (by decide) ?_
      exact K _ _
theorem con_isJudged_11 (hS : Str σ.2.1) {pi : Nat → Nat} {A : PastD} (hA : PastR σ pi A) : ∃ σ', Con 4 mX9_isJudgedSoundly 0 0 [vA 0, vI 1, vI 1] σ (vI (bI (jdT (A.1 A.2.1) true true = true)), σ') ∧ Frm σ σ' 74 82 := by
  obtain ⟨hp, hd, hu, hle, hrep⟩ := id hA
  have hk7 := (hp.1 A.2.1 (by omega)).2
  have hk : pi A.2.1 < 8 := by omega
  have hD := hrep A.2.1 (by omega)
  have hR := hD.1
  have hL := hD.2.1.2.2.1
  have hn := hR.1
  obtain ⟨hw1, hw2, hw3⟩ := hR.2.2.2
  have hm := hD.2.1.1
  obtain ⟨l1, l2, l3⟩ := hD.2.1.2.2.2
  obtain ⟨g1, g2, g3, g4, g5, g6, g7, g8, g9, g10⟩ := gamk _ hk
  obtain ⟨p1, p2, p3, p4, p5, p6, p7, p8, p9⟩ := strk hS _ hk
  obtain ⟨s1, s2, s3, s4, s5, s6, s7, s8, s9, s10⟩ := gamk 7 (by omega)
  obtain ⟨t1, t2, t3, t4, t5, t6, t7, t8, t9⟩ := strk hS 7 (by omega)
  have hne : 7 ≠ pi A.2.1 := by omega
  have c1 := con_takeFrom hS (show 7 < 8 by omega) hk hne
  have hP7 := rep_tkS hne hD
  have hF7 := @tkS_frm σ 7 (pi A.2.1)
  have key := loop_up (α := PapD) (Rep := fun σ' E s => RepP σ' 7 E ∧ Frm σ σ' 74 82 ∧ 0 ≤ s ∧ E.2.1.1 = (A.1 A.2.1).2.1.1) (f := jdS true true (A.1 A.2.1).2.1.1) (hi := (A.1 A.2.1).2.1.1)
    (G := fun b E s σ out => ∀ v6, Go (fun _ => 0) 4 mX9_isJudgedSoundly b 31 [vA 0, vI 1, vI 1, vA (3 + 10 * pi A.2.1), vI (A.1 A.2.1).2.1.1, vI s, v6] [] σ out) (fun σ2 E s hh hlo => ?_) ((A.1 A.2.1).2.1.1).toNat (tkS σ 7 (pi A.2.1)) (A.1 A.2.1) 0 ⟨hP7, hF7, by omega, rfl⟩ (by omega)
  · obtain ⟨σ', ⟨q1, q2, -, -⟩, q3⟩ := key
    refine ⟨σ', ?_, q2⟩
    have hS' : Str σ'.2.1 := by rw [q2.1]; exact hS
    have hR' : RepR σ' (pi A.2.1) (A.1 A.2.1).1 := hR.eqs (fun a x y j => q2.2 a (by omega) j)
    have ct := con_isTextOf_seen (k := 7) hS' (by omega) q1.1 hk hR'
    have ct : Con 2 mX7_isTextOf 0 0 [vA (4 + 10 * 7), vA (4 + 10 * pi A.2.1), vI 0] σ' (vI (bI (jdT (A.1 A.2.1) true true = true)), σ') := ct
    obtain ⟨u1, u2, u3, -⟩ := strk hS' 7 (by omega)
    obtain ⟨w1, w2, w3, -⟩ := strk hS' _ hk
    refine con_of_go mfX9_isJudgedSoundly.1 bI_01 (Nat.le_of_ble_eq_true rfl) rfl (by decide) ?_
    show Go _ _ _ _ 0 [vA _, vI _, vI _, vT 9 0, vT 9 0, vT 9 0, vT 9 0] [] _ _
    refine go_aload_n (at_of tX9_isJudgedSoundly 0 0 rfl) rfl ?_
    refine go_getr (q := 1) fl_X9_16 rfl G_0 ((hS _ _ rfl).trans rfl) (at_of tX9_isJudgedSoundly 0 1 rfl) ?_
    refine go_cV (con_now hS hA) lk_X9_114 rfl g1_ (at_of tX9_isJudgedSoundly 0 2 rfl) rfl (by decide) rfl (Nat.le_of_ble_eq_true rfl) rfl (by first | decide | exact ⟨Nat.zero_le _, Nat.zero_le _⟩) ?_
    refine go_astore_n (at_of tX9_isJudgedSoundly 0 3 rfl) rfl rfl ?_
    refine go_aload_n (at_of tX9_isJudgedSoundly 0 4 rfl) rfl ?_
    refine go_getr (q := (3 + 10 * 7)) fl_X9_23 rfl G_0 ((hS _ _ rfl).trans rfl) (at_of tX9_isJudgedSoundly 0 5 rfl) ?_
    refine go_aload_n (at_of tX9_isJudgedSoundly 0 6 rfl) rfl ?_
    refine go_cV (c1) lk_X9_488 rfl s1 (at_of tX9_isJudgedSoundly 0 7 rfl) rfl (by decide) rfl (Nat.le_of_ble_eq_true rfl) rfl (by first | decide | exact ⟨Nat.zero_le _, Nat.zero_le _⟩) ?_
    refine go_aload_n (at_of tX9_isJudgedSoundly 0 8 rfl) rfl ?_
    refine go_getr (q := (3 + 10 * 7)) fl_X9_23 rfl G_0 ((hS _ _ rfl).trans rfl) (at_of tX9_isJudgedSoundly 0 9 rfl) ?_
    refine go_getr (q := (8 + 10 * 7)) fl_X9_118 rfl s1 t2 (at_of tX9_isJudgedSoundly 0 10 rfl) ?_
    refine go_cV (l_many (by exact hS) (show 7 < 8 by omega) hP7) lk_X9_228 rfl s6 (at_of tX9_isJudgedSoundly 0 11 rfl) rfl (by decide) rfl (Nat.le_of_ble_eq_true rfl) rfl (by first | decide | exact ⟨Nat.zero_le _, Nat.zero_le _⟩) ?_
    refine go_istore (at_of tX9_isJudgedSoundly 0 12 rfl) rfl rfl ?_
    refine go_iconst (at_of tX9_isJudgedSoundly 0 13 rfl) (by unfold in32; omega) ?_
    refine go_istore (at_of tX9_isJudgedSoundly 0 14 rfl) rfl rfl ?_
    refine q3 _ _ (fun b => ?_) _
    intro v6
    refine go_iload (at_of tX9_isJudgedSoundly 0 15 rfl) rfl rfl ?_
    refine go_iload (at_of tX9_isJudgedSoundly 1 0 rfl) rfl rfl ?_
    refine go_icmp_ge (tgt := 90) (at_of tX9_isJudgedSoundly 1 1 rfl) (by decide) (fun h35 => ?_) (fun h35 => ?_)
    rotate_left
    · exfalso; omega
    refine go_aload_n (at_of tX9_isJudgedSoundly 2 11 rfl) rfl ?_
    refine go_getr (q := (3 + 10 * 7)) fl_X9_23 rfl G_0 ((hS' _ _ rfl).trans rfl) (at_of tX9_isJudgedSoundly 2 12 rfl) ?_
    refine go_getr (q := (4 + 10 * 7)) fl_X9_131 rfl s1 u1 (at_of tX9_isJudgedSoundly 2 13 rfl) ?_
    refine go_aload_n (at_of tX9_isJudgedSoundly 2 14 rfl) rfl ?_
    refine go_getr (q := (4 + 10 * pi A.2.1)) fl_X9_131 rfl g1 w1 (at_of tX9_isJudgedSoundly 2 15 rfl) ?_
    refine go_iload_n (at_of tX9_isJudgedSoundly 3 0 rfl) rfl ?_
    refine go_if_ne (tgt := 109) (at_of tX9_isJudgedSoundly 3 1 rfl) (by decide) (fun h102 => ?_) (fun h102 => ?_)
    rotate_left
    · exfalso; omega
    refine go_iconst (at_of tX9_isJudgedSoundly 3 4 rfl) (by unfold in32; omega) ?_
    refine go_cV (ct) lk_X9_492 rfl s2 (at_of tX9_isJudgedSoundly 3 5 rfl) rfl (by decide) rfl (Nat.le_of_ble_eq_true rfl) rfl (by first | decide | exact ⟨Nat.zero_le _, Nat.zero_le _⟩) ?_
    first | exact go_reti (at_of tX9_isJudgedSoundly 3 6 rfl) rfl | exact go_reti (at_of tX9_isJudgedSoundly 3 6 rfl) (le_i (by omega)) | exact go_reti (at_of tX9_isJudgedSoundly 3 6 rfl) (le_i (by first | exact bI_t (by omega) | exact bI_f (by omega)))
  · obtain ⟨hP2, hF2, hs, hm2⟩ := hh
    have hS2 : Str σ2.2.1 := by rw [hF2.1]; exact hS
    obtain ⟨q1, q2, q3, q4, q5, q6, q7, q8, q9⟩ := strk hS2 7 (by omega)
    by_cases hc : E.2.1.2.2.2 s = 119
    · have e9 : jdS true true (A.1 A.2.1).2.1.1 E s = setlD E s true := if_pos hc
      rw [e9]
      obtain ⟨σ3, d1, d2, d3⟩ := con_settle hS2 (show 7 < 8 by omega) hP2 (c := s) (acc := true) (by omega)
      have d1 : Con 3 mX4_settle 0 0 [vA (3 + 10 * 7), vI s, vI 1] σ2 (vI (concN E.1.1 E.1.2.1 s), σ3) := d1
      refine ⟨σ3, ⟨d2, hF2.trans (d3.mono (by omega) (by omega)), by omega, hm2⟩, fun b out K v6 => ?_⟩
      refine go_iload (at_of tX9_isJudgedSoundly 0 15 rfl) rfl rfl ?_
      refine go_iload (at_of tX9_isJudgedSoundly 1 0 rfl) rfl rfl ?_
      refine go_icmp_ge (tgt := 90) (at_of tX9_isJudgedSoundly 1 1 rfl) (by decide) (fun h35 => ?_) (fun h35 => ?_)
      · exfalso; omega
      refine go_iload_n (at_of tX9_isJudgedSoundly 1 2 rfl) rfl ?_
      refine go_if_eq (tgt := 47) (at_of tX9_isJudgedSoundly 1 3 rfl) (by decide) (fun h39 => ?_) (fun h39 => ?_)
      · exfalso; omega
      refine go_iload (at_of tX9_isJudgedSoundly 1 4 rfl) rfl rfl ?_
      refine go_goto (tgt := 54) (at_of tX9_isJudgedSoundly 1 5 rfl) (by decide) ?_
      refine go_istore (at_of tX9_isJudgedSoundly 1 11 rfl) rfl rfl ?_
      refine go_aload_n (at_of tX9_isJudgedSoundly 1 12 rfl) rfl ?_
      refine go_getr (q := (3 + 10 * 7)) fl_X9_23 rfl G_0 ((hS2 _ _ rfl).trans rfl) (at_of tX9_isJudgedSoundly 1 13 rfl) ?_
      refine go_getr (q := (8 + 10 * 7)) fl_X9_118 rfl s1 q2 (at_of tX9_isJudgedSoundly 1 14 rfl) ?_
      refine go_iload (at_of tX9_isJudgedSoundly 1 15 rfl) rfl rfl ?_
      refine go_cV (l_state hS2 (show 7 < 8 by omega) hP2 (by omega)) lk_X9_241 rfl s6 (at_of tX9_isJudgedSoundly 2 0 rfl) rfl (by decide) rfl (Nat.le_of_ble_eq_true rfl) rfl (by first | decide | exact ⟨Nat.zero_le _, Nat.zero_le _⟩) ?_
      refine go_bipush (at_of tX9_isJudgedSoundly 2 1 rfl) (by decide) ?_
      refine go_icmp_ne (tgt := 84) (at_of tX9_isJudgedSoundly 2 2 rfl) (by decide) (fun h70 => ?_) (fun h70 => ?_)
      · exfalso; exact h70 hc
      refine go_aload_n (at_of tX9_isJudgedSoundly 2 3 rfl) rfl ?_
      refine go_getr (q := (3 + 10 * 7)) fl_X9_23 rfl G_0 ((hS2 _ _ rfl).trans rfl) (at_of tX9_isJudgedSoundly 2 4 rfl) ?_
      refine go_iload (at_of tX9_isJudgedSoundly 2 5 rfl) rfl rfl ?_
      refine go_iload_n (at_of tX9_isJudgedSoundly 2 6 rfl) rfl ?_
      refine go_cV (d1) lk_X9_252 rfl s1 (at_of tX9_isJudgedSoundly 2 7 rfl) rfl (by decide) rfl (Nat.le_of_ble_eq_true rfl) rfl (by first | decide | exact ⟨Nat.zero_le _, Nat.zero_le _⟩) ?_
      refine go_pop (at_of tX9_isJudgedSoundly 2 8 rfl) rfl ?_
      refine go_iinc (at_of tX9_isJudgedSoundly 2 9 rfl) rfl (by unfold in32; omega) rfl rfl ?_
      refine go_goto (tgt := 31) (at_of tX9_isJudgedSoundly 2 10 rfl) (by decide) ?_
      exact K _ _
    · have e9 : jdS true true (A.1 A.2.1).2.1.1 E s = E := if_neg hc
      rw [e9]
      refine ⟨σ2, ⟨hP2, hF2, by omega, hm2⟩, fun b out K v6 => ?_⟩
      refine go_iload (at_of tX9_isJudgedSoundly 0 15 rfl) rfl rfl ?_
      refine go_iload (at_of tX9_isJudgedSoundly 1 0 rfl) rfl rfl ?_
      refine go_icmp_ge (tgt := 90) (at_of tX9_isJudgedSoundly 1 1 rfl) (by decide) (fun h35 => ?_) (fun h35 => ?_)
      · exfalso; omega
      refine go_iload_n (at_of tX9_isJudgedSoundly 1 2 rfl) rfl ?_
      refine go_if_eq (tgt := 47) (at_of tX9_isJudgedSoundly 1 3 rfl) (by decide) (fun h39 => ?_) (fun h39 => ?_)
      · exfalso; omega
      refine go_iload (at_of tX9_isJudgedSoundly 1 4 rfl) rfl rfl ?_
      refine go_goto (tgt := 54) (at_of tX9_isJudgedSoundly 1 5 rfl) (by decide) ?_
      refine go_istore (at_of tX9_isJudgedSoundly 1 11 rfl) rfl rfl ?_
      refine go_aload_n (at_of tX9_isJudgedSoundly 1 12 rfl) rfl ?_
      refine go_getr (q := (3 + 10 * 7)) fl_X9_23 rfl G_0 ((hS2 _ _ rfl).trans rfl) (at_of tX9_isJudgedSoundly 1 13 rfl) ?_
      refine go_getr (q := (8 + 10 * 7)) fl_X9_118 rfl s1 q2 (at_of tX9_isJudgedSoundly 1 14 rfl) ?_
      refine go_iload (at_of tX9_isJudgedSoundly 1 15 rfl) rfl rfl ?_
      refine go_cV (l_state hS2 (show 7 < 8 by omega) hP2 (by omega)) lk_X9_241 rfl s6 (at_of tX9_isJudgedSoundly 2 0 rfl) rfl (by decide) rfl (Nat.le_of_ble_eq_true rfl) rfl (by first | decide | exact ⟨Nat.zero_le _, Nat.zero_le _⟩) ?_
      refine go_bipush (at_of tX9_isJudgedSoundly 2 1 rfl) (by decide) ?_
      refine go_icmp_ne (tgt := 84) (at_of tX9_isJudgedSoundly 2 2 rfl) (by decide) (fun h70 => ?_) (fun h70 => ?_)
      rotate_left
      · exfalso; exact hc h70
      refine go_iinc (at_of tX9_isJudgedSoundly 2 9 rfl) rfl (by unfold in32; omega) rfl rfl ?_
      refine go_goto (tgt := 31) (at_of tX9_isJudgedSoundly 2 10 rfl) (by decide) ?_
      exact K _ _
theorem ok_isSound (hS : Str σ.2.1) {pi : Nat → Nat} {A : PastD} (hA : PastR σ pi A) (hW : WH σ) (hP : LayP (A.1 A.2.1)) (hJ : ∀ acc rise, jdT (A.1 A.2.1) acc rise = true) (ha : ∀ j : Int, 0 ≤ j → j < (A.1 A.2.1).2.1.1 → 0 ≤ (A.1 A.2.1).2.1.2.2.1 j ∧ (A.1 A.2.1).2.1.2.2.1 j < 4) : ∃ σ', Con 7 mX9_isSound 0 0 [vA 0] σ (vI 1, σ') ∧ σ'.2 = σ.2 ∧ (∀ x j : Nat, ¬ ((74 ≤ x ∧ x ≤ 82) ∨ (99 ≤ x ∧ x ≤ 107) ∨ (x = 98 ∧ 11 ≤ j ∧ j ≤ 15)) → σ'.1 x j = σ.1 x j) := by
  have trA : ∀ σ' : St, Frm σ σ' 74 82 → PastR σ' pi A := fun σ' hF => by
    obtain ⟨hp, hd, hu, hle, hrep⟩ := id hA
    refine ⟨by rw [hF.1]; exact hp, by rw [hF.2 1 (by omega)]; exact hd, by rw [hF.2 1 (by omega)]; exact hu, hle, fun j hj => ?_⟩
    have := (hp.1 j (by omega)).2
    exact (hrep j hj).eqs (fun a x y i => hF.2 a (by omega) i)
  have one : ∀ {σ' σ'' : St} {acc rise : Bool}, bI (jdT (A.1 A.2.1) acc rise = true) = 1 := fun {_ _ acc rise} => bI_t (hJ acc rise)
  obtain ⟨σ1, a1, f1⟩ := con_isJudged_01 hS hA
  have S1 : Str σ1.2.1 := by rw [f1.1]; exact hS
  obtain ⟨σ2, a2, f2⟩ := con_isJudged_00 S1 (trA _ f1)
  have F2 := f1.trans f2
  have S2 : Str σ2.2.1 := by rw [F2.1]; exact hS
  obtain ⟨σ3, a3, f3⟩ := con_isJudged_11 S2 (trA _ F2)
  have F3 := F2.trans f3
  have S3 : Str σ3.2.1 := by rw [F3.1]; exact hS
  obtain ⟨σ4, a4, f4⟩ := con_isJudged_10 S3 (trA _ F3)
  have F4 := F3.trans f4
  have S4 : Str σ4.2.1 := by rw [F4.1]; exact hS
  have A4 := trA _ F4
  rw [bI_t (hJ _ _)] at a1 a2 a3 a4
  have w0 : σ4.1 98 0 = σ.1 98 0 := F4.2 98 (by omega) 0
  have w1 : σ4.1 98 1 = σ.1 98 1 := F4.2 98 (by omega) 1
  have W4 : WH σ4 := ⟨by rw [w0]; exact hW.1, by rw [w0]; exact hW.2.1, by rw [w1]; exact hW.2.2.1, by rw [w1]; exact hW.2.2.2⟩
  obtain ⟨σ5, a5, c2, c3⟩ := ok_isEachPlaceOnPage S4 A4 W4 hP
  refine ⟨σ5, ?_, c2.trans F4.1, fun x j q => (c3 x j (by omega)).trans (F4.2 x (by omega) j)⟩
  obtain ⟨hp, hd, hu, hle, hrep⟩ := id A4
  have hk7 := (hp.1 A.2.1 (by omega)).2
  have hk : pi A.2.1 < 8 := by omega
  have hD := hrep A.2.1 (by omega)
  have hR := hD.1
  have hL := hD.2.1.2.2.1
  have hn := hR.1
  obtain ⟨hw1, hw2, hw3⟩ := hR.2.2.2
  have hm := hD.2.1.1
  obtain ⟨l1, l2, l3⟩ := hD.2.1.2.2.2
  obtain ⟨g1, g2, g3, g4, g5, g6, g7, g8, g9, g10⟩ := gamk _ hk
  obtain ⟨p1, p2, p3, p4, p5, p6, p7, p8, p9⟩ := strk S4 _ hk
  refine con_of_go mfX9_isSound.1 (Or.inr rfl) (Nat.le_of_ble_eq_true rfl) rfl (by decide) ?_
  show Go _ _ _ _ 0 [vA _] [] _ _
  refine go_aload_n (at_of tX9_isSound 0 0 rfl) rfl ?_
  refine go_iconst (at_of tX9_isSound 0 1 rfl) (by unfold in32; omega) ?_
  refine go_iconst (at_of tX9_isSound 0 2 rfl) (by unfold in32; omega) ?_
  refine go_cV (a1) lk_X9_405 rfl G_0 (at_of tX9_isSound 0 3 rfl) rfl (by decide) rfl (Nat.le_of_ble_eq_true rfl) rfl (by first | decide | exact ⟨Nat.zero_le _, Nat.zero_le _⟩) ?_
  refine go_if_eq (tgt := 79) (at_of tX9_isSound 0 4 rfl) (by decide) (fun h6 => ?_) (fun h6 => ?_)
  · exfalso; exact absurd h6 (by decide)
  refine go_aload_n (at_of tX9_isSound 0 5 rfl) rfl ?_
  refine go_iconst (at_of tX9_isSound 0 6 rfl) (by unfold in32; omega) ?_
  refine go_iconst (at_of tX9_isSound 0 7 rfl) (by unfold in32; omega) ?_
  refine go_cV (a2) lk_X9_405 rfl G_0 (at_of tX9_isSound 0 8 rfl) rfl (by decide) rfl (Nat.le_of_ble_eq_true rfl) rfl (by first | decide | exact ⟨Nat.zero_le _, Nat.zero_le _⟩) ?_
  refine go_if_eq (tgt := 79) (at_of tX9_isSound 0 9 rfl) (by decide) (fun h15 => ?_) (fun h15 => ?_)
  · exfalso; exact absurd h15 (by decide)
  refine go_aload_n (at_of tX9_isSound 0 10 rfl) rfl ?_
  refine go_iconst (at_of tX9_isSound 0 11 rfl) (by unfold in32; omega) ?_
  refine go_iconst (at_of tX9_isSound 0 12 rfl) (by unfold in32; omega) ?_
  refine go_cV (a3) lk_X9_405 rfl G_0 (at_of tX9_isSound 0 13 rfl) rfl (by decide) rfl (Nat.le_of_ble_eq_true rfl) rfl (by first | decide | exact ⟨Nat.zero_le _, Nat.zero_le _⟩) ?_
  refine go_if_eq (tgt := 79) (at_of tX9_isSound 0 14 rfl) (by decide) (fun h24 => ?_) (fun h24 => ?_)
  · exfalso; exact absurd h24 (by decide)
  refine go_aload_n (at_of tX9_isSound 0 15 rfl) rfl ?_
  refine go_iconst (at_of tX9_isSound 1 0 rfl) (by unfold in32; omega) ?_
  refine go_iconst (at_of tX9_isSound 1 1 rfl) (by unfold in32; omega) ?_
  refine go_cV (a4) lk_X9_405 rfl G_0 (at_of tX9_isSound 1 2 rfl) rfl (by decide) rfl (Nat.le_of_ble_eq_true rfl) rfl (by first | decide | exact ⟨Nat.zero_le _, Nat.zero_le _⟩) ?_
  refine go_if_eq (tgt := 79) (at_of tX9_isSound 1 3 rfl) (by decide) (fun h33 => ?_) (fun h33 => ?_)
  · exfalso; exact absurd h33 (by decide)
  refine go_aload_n (at_of tX9_isSound 1 4 rfl) rfl ?_
  refine go_getr (q := 1) fl_X9_16 rfl G_0 ((S4 _ _ rfl).trans rfl) (at_of tX9_isSound 1 5 rfl) ?_
  refine go_cV (con_now S4 A4) lk_X9_114 rfl g1_ (at_of tX9_isSound 1 6 rfl) rfl (by decide) rfl (Nat.le_of_ble_eq_true rfl) rfl (by first | decide | exact ⟨Nat.zero_le _, Nat.zero_le _⟩) ?_
  refine go_getr (q := (8 + 10 * pi A.2.1)) fl_X9_118 rfl g1 p2 (at_of tX9_isSound 1 7 rfl) ?_
  refine go_cV (l_isAuthored S4 hk hD ha) lk_X9_409 rfl g6 (at_of tX9_isSound 1 8 rfl) rfl (by decide) rfl (Nat.le_of_ble_eq_true rfl) rfl (by first | decide | exact ⟨Nat.zero_le _, Nat.zero_le _⟩) ?_
  refine go_if_eq (tgt := 79) (at_of tX9_isSound 1 9 rfl) (by decide) (fun h49 => ?_) (fun h49 => ?_)
  · exfalso; exact absurd h49 (by decide)
  refine go_aload_n (at_of tX9_isSound 1 10 rfl) rfl ?_
  refine go_getr (q := 1) fl_X9_16 rfl G_0 ((S4 _ _ rfl).trans rfl) (at_of tX9_isSound 1 11 rfl) ?_
  refine go_cV (con_now S4 A4) lk_X9_114 rfl g1_ (at_of tX9_isSound 1 12 rfl) rfl (by decide) rfl (Nat.le_of_ble_eq_true rfl) rfl (by first | decide | exact ⟨Nat.zero_le _, Nat.zero_le _⟩) ?_
  refine go_getr (q := (4 + 10 * pi A.2.1)) fl_X9_131 rfl g1 p1 (at_of tX9_isSound 1 13 rfl) ?_
  refine go_cV (con_areBookmarksOrdered S4 hk hR) lk_X9_412 rfl g2 (at_of tX9_isSound 1 14 rfl) rfl (by decide) rfl (Nat.le_of_ble_eq_true rfl) rfl (by first | decide | exact ⟨Nat.zero_le _, Nat.zero_le _⟩) ?_
  refine go_if_eq (tgt := 79) (at_of tX9_isSound 1 15 rfl) (by decide) (fun h65 => ?_) (fun h65 => ?_)
  · exfalso; exact absurd h65 (by decide)
  refine go_aload_n (at_of tX9_isSound 2 0 rfl) rfl ?_
  refine go_cV (a5) lk_X9_415 rfl G_0 (at_of tX9_isSound 2 1 rfl) rfl (by decide) rfl (Nat.le_of_ble_eq_true rfl) rfl (by first | decide | exact ⟨Nat.zero_le _, Nat.zero_le _⟩) ?_
  refine go_if_eq (tgt := 79) (at_of tX9_isSound 2 2 rfl) (by decide) (fun h72 => ?_) (fun h72 => ?_)
  · exfalso; exact absurd h72 (by decide)
  refine go_iconst (at_of tX9_isSound 2 3 rfl) (by unfold in32; omega) ?_
  refine go_goto (tgt := 80) (at_of tX9_isSound 2 4 rfl) (by decide) ?_
  first | exact go_reti (at_of tX9_isSound 2 6 rfl) rfl | exact go_reti (at_of tX9_isSound 2 6 rfl) (le_i (by omega)) | exact go_reti (at_of tX9_isSound 2 6 rfl) (le_i (by first | exact bI_t (by omega) | exact bI_f (by omega)))
end Sound
