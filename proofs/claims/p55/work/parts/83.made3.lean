/-! The office and the reference are made; both at the start. -/
section Made3
variable {σ : St}
theorem mk_office (hc : σ.2.2 = 1) (hz : Zr σ) (h0 : ∀ j, σ.1 0 j = 0) : ∃ σ', Con 3 mX9_init 108 23857 [vA 0] σ (vT 8 0, σ') ∧ (σ'.2.2 = 109 ∧ Zr σ') ∧ (∀ e ∈ strL, e.1 < 109 → σ'.2.1 e.1 e.2.1 = some e.2.2) ∧ (∀ j, j < 7 → σ'.2.1 2 j = some (3 + 10 * j)) ∧ (RepP σ' 0 D0 ∧ σ'.1 1 1 = 0 ∧ σ'.1 1 2 = 0 ∧ σ'.1 0 0 = 1) ∧ ∀ x j, 83 ≤ x → x < 108 → σ'.1 x j = iv x j := by
  obtain ⟨σ1, c1, e1, z1, f1, ⟨pa, pb, pc⟩, pd, pe⟩ := mk_past (σ := (nxt (P1 σ 0 0 1))) (by show σ.2.2 + 1 = _; omega) (hz.P1 (by omega)).nxt
  obtain ⟨σ2, c2, ⟨e2, f2, z2⟩, s2, -⟩ := mk_paper (k := 7) (σ := (nxt (PR σ1 0 1 1))) (by decide) (by show σ1.2.2 + 1 = _; omega) (z1.PR (by omega)).nxt
  obtain ⟨σ3, c3, ⟨e3, f3, z3⟩, p3, v3⟩ := mk_X8 (σ := (nxt (PR σ2 0 2 73))) (by show σ2.2.2 + 1 = _; omega) (z2.PR (by omega)).nxt (fun j => (z2 _ j (by omega)).1)
  obtain ⟨σ4, c4, ⟨e4, f4, z4⟩, p4, v4⟩ := mk_X3 (σ := (nxt (PR σ3 0 3 83))) (by show σ3.2.2 + 1 = _; omega) (z3.PR (by omega)).nxt (fun j => (z3 _ j (by omega)).1)
  obtain ⟨σ5, c5, ⟨e5, f5, z5⟩, p5, v5⟩ := mk_X0 (σ := (nxt (PR σ4 0 4 87))) (by show σ4.2.2 + 1 = _; omega) (z4.PR (by omega)).nxt (fun j => (z4 _ j (by omega)).1)
  obtain ⟨σ6, c6, ⟨e6, f6, z6⟩, p6, v6⟩ := mk_X6 (σ := (nxt (PR σ5 0 5 92))) (by show σ5.2.2 + 1 = _; omega) (z5.PR (by omega)).nxt (fun j => (z5 _ j (by omega)).1)
  obtain ⟨σ7, c7, ⟨e7, f7, z7⟩, p7, v7⟩ := mk_X1 (σ := (nxt (PR σ6 0 6 96))) (by show σ6.2.2 + 1 = _; omega) (z6.PR (by omega)).nxt (fun j => (z6 _ j (by omega)).1)
  have u2 : ∀ x j, x < 73 → σ2.1 x j = σ1.1 x j := fun x j hx => (f2 x j (by omega)).1
  have w2 : ∀ x j, x < 73 → x ≠ 0 → σ2.2.1 x j = σ1.2.1 x j := fun x j hx hn => by rw [(f2 x j (by omega)).2, nxt_21, PR_f, if_neg (fun y => hn y.1)]
  have q2 : ∀ j, σ2.2.1 0 j = (PR σ1 0 1 1).2.1 0 j := fun j => (f2 0 j (by omega)).2
  have u3 : ∀ x j, x < 83 → σ3.1 x j = σ2.1 x j := fun x j hx => (f3 x j (by omega)).1
  have w3 : ∀ x j, x < 83 → x ≠ 0 → σ3.2.1 x j = σ2.2.1 x j := fun x j hx hn => by rw [(f3 x j (by omega)).2, nxt_21, PR_f, if_neg (fun y => hn y.1)]
  have q3 : ∀ j, σ3.2.1 0 j = (PR σ2 0 2 73).2.1 0 j := fun j => (f3 0 j (by omega)).2
  have u4 : ∀ x j, x < 87 → σ4.1 x j = σ3.1 x j := fun x j hx => (f4 x j (by omega)).1
  have w4 : ∀ x j, x < 87 → x ≠ 0 → σ4.2.1 x j = σ3.2.1 x j := fun x j hx hn => by rw [(f4 x j (by omega)).2, nxt_21, PR_f, if_neg (fun y => hn y.1)]
  have q4 : ∀ j, σ4.2.1 0 j = (PR σ3 0 3 83).2.1 0 j := fun j => (f4 0 j (by omega)).2
  have u5 : ∀ x j, x < 92 → σ5.1 x j = σ4.1 x j := fun x j hx => (f5 x j (by omega)).1
  have w5 : ∀ x j, x < 92 → x ≠ 0 → σ5.2.1 x j = σ4.2.1 x j := fun x j hx hn => by rw [(f5 x j (by omega)).2, nxt_21, PR_f, if_neg (fun y => hn y.1)]
  have q5 : ∀ j, σ5.2.1 0 j = (PR σ4 0 4 87).2.1 0 j := fun j => (f5 0 j (by omega)).2
  have u6 : ∀ x j, x < 96 → σ6.1 x j = σ5.1 x j := fun x j hx => (f6 x j (by omega)).1
  have w6 : ∀ x j, x < 96 → x ≠ 0 → σ6.2.1 x j = σ5.2.1 x j := fun x j hx hn => by rw [(f6 x j (by omega)).2, nxt_21, PR_f, if_neg (fun y => hn y.1)]
  have q6 : ∀ j, σ6.2.1 0 j = (PR σ5 0 5 92).2.1 0 j := fun j => (f6 0 j (by omega)).2
  have u7 : ∀ x j, x < 98 → σ7.1 x j = σ6.1 x j := fun x j hx => (f7 x j (by omega)).1
  have w7 : ∀ x j, x < 98 → x ≠ 0 → σ7.2.1 x j = σ6.2.1 x j := fun x j hx hn => by rw [(f7 x j (by omega)).2, nxt_21, PR_f, if_neg (fun y => hn y.1)]
  have q7 : ∀ j, σ7.2.1 0 j = (PR σ6 0 6 96).2.1 0 j := fun j => (f7 0 j (by omega)).2
  have w8 : ∀ x j, x ≠ 0 → (PR (nxt (PR σ7 0 7 98)) 0 8 108).2.1 x j = σ7.2.1 x j := fun x j hn => by rw [PR_f, if_neg (fun y => hn y.1), nxt_21, PR_f, if_neg (fun y => hn y.1)]
  have hp : ∀ x j, x < 73 → x ≠ 0 → (PR (nxt (PR σ7 0 7 98)) 0 8 108).2.1 x j = σ1.2.1 x j := fun x j hx hn => by rw [w8 x j hn, w7 x j (by omega) hn, w6 x j (by omega) hn, w5 x j (by omega) hn, w4 x j (by omega) hn, w3 x j (by omega) hn, w2 x j (by omega) hn]
  have hn1 : ∀ x j, x < 73 → (PR (nxt (PR σ7 0 7 98)) 0 8 108).1 x j = σ1.1 x j := fun x j hx => by
    show σ7.1 x j = _
    rw [u7 x j (by omega), u6 x j (by omega), u5 x j (by omega), u4 x j (by omega), u3 x j (by omega), u2 x j (by omega)]
  have hs : ∀ k, k < 7 → SlP (PR (nxt (PR σ7 0 7 98)) 0 8 108).2.1 k := fun k hk => (pd k hk).2.of (fun x j h1 h2 => hp x j (by omega) (by omega))
  have hs7 : SlP (PR (nxt (PR σ7 0 7 98)) 0 8 108).2.1 7 := s2.of (fun x j h1 h2 => by rw [w8 x j (by omega), w7 x j (by omega) (by omega), w6 x j (by omega) (by omega), w5 x j (by omega) (by omega), w4 x j (by omega) (by omega), w3 x j (by omega) (by omega)])
  refine ⟨(PR (nxt (PR σ7 0 7 98)) 0 8 108), ?_, ⟨?_, fun x j hx => ⟨?_, ?_⟩⟩, ?_, fun j hj => ?_, ⟨?_, ?_, ?_, ?_⟩, fun x j hx hx9 => ?_⟩
  · refine con_of_go mfX9_init.1 trivial (Nat.le_of_ble_eq_true rfl) rfl (by decide) ?_
    show Go _ _ _ _ 0 [vA _] [] _ _
    refine go_aload_n (at_of tX9_init 0 0 rfl) rfl ?_
    refine go_objInit (inL 63 (by decide +kernel) (by decide +kernel)) (at_of tX9_init 0 1 rfl) (Nat.le_of_ble_eq_true rfl) ?_
    refine go_aload_n (at_of tX9_init 0 2 rfl) rfl ?_
    refine go_iconst (at_of tX9_init 0 3 rfl) (by unfold in32; omega) ?_
    refine go_put1 fp_X9_7 rfl (Or.inl rfl) G_0 (Or.inr (by omega)) (at_of tX9_init 0 4 rfl) ?_
    refine go_aload_n (at_of tX9_init 0 5 rfl) rfl ?_
    refine go_newO (a := 1) (ci := 5) (by show σ.2.2 = _; omega) g1_ (by decide) cl_X9_13 ins_5 ini_5 ⟨by decide, by decide⟩ (at_of tX9_init 0 6 rfl) ?_
    refine go_dup (at_of tX9_init 0 7 rfl) rfl ?_
    refine go_cI (c1) lk_X9_15 rfl (at_of tX9_init 0 8 rfl) rfl (by decide) rfl (Nat.le_of_ble_eq_true rfl) rfl ⟨by decide, by decide⟩ ?_
    refine go_putr fp_X9_16 rfl (Or.inr ⟨rfl, rfl, rfl⟩) G_0 (at_of tX9_init 0 9 rfl) ?_
    refine go_aload_n (at_of tX9_init 0 10 rfl) rfl ?_
    refine go_newO (a := 73) (ci := 4) (by show σ1.2.2 = _; omega) (gamk 7 (by decide)).1 (by decide) cl_X9_20 ins_4 ini_4 ⟨by decide, by decide⟩ (at_of tX9_init 0 11 rfl) ?_
    refine go_dup (at_of tX9_init 0 12 rfl) rfl ?_
    refine go_cJ (c2) lk_X9_22 rfl (at_of tX9_init 0 13 rfl) rfl (by decide) rfl (Nat.le_of_ble_eq_true rfl) rfl ⟨by decide, by decide⟩ ?_
    refine go_putr fp_X9_23 rfl (Or.inr ⟨rfl, rfl, rfl⟩) G_0 (at_of tX9_init 0 14 rfl) ?_
    refine go_aload_n (at_of tX9_init 0 15 rfl) rfl ?_
    refine go_newO (a := 83) (ci := 8) (by show σ2.2.2 = _; omega) G_83 (by decide) cl_X9_27 ins_8 ini_8 ⟨by decide, by decide⟩ (at_of tX9_init 1 0 rfl) ?_
    refine go_dup (at_of tX9_init 1 1 rfl) rfl ?_
    refine go_cI (c3) lk_X9_29 rfl (at_of tX9_init 1 2 rfl) rfl (by decide) rfl (Nat.le_of_ble_eq_true rfl) rfl ⟨by decide, by decide⟩ ?_
    refine go_putr fp_X9_30 rfl (Or.inr ⟨rfl, rfl, rfl⟩) G_0 (at_of tX9_init 1 3 rfl) ?_
    refine go_aload_n (at_of tX9_init 1 4 rfl) rfl ?_
    refine go_newO (a := 87) (ci := 3) (by show σ3.2.2 = _; omega) G_87 (by decide) cl_X9_34 ins_3 ini_3 ⟨by decide, by decide⟩ (at_of tX9_init 1 5 rfl) ?_
    refine go_dup (at_of tX9_init 1 6 rfl) rfl ?_
    refine go_cI (c4) lk_X9_36 rfl (at_of tX9_init 1 7 rfl) rfl (by decide) rfl (Nat.le_of_ble_eq_true rfl) rfl ⟨by decide, by decide⟩ ?_
    refine go_putr fp_X9_37 rfl (Or.inr ⟨rfl, rfl, rfl⟩) G_0 (at_of tX9_init 1 8 rfl) ?_
    refine go_aload_n (at_of tX9_init 1 9 rfl) rfl ?_
    refine go_newO (a := 92) (ci := 0) (by show σ4.2.2 = _; omega) G_92 (by decide) cl_X9_41 ins_0 ini_0 ⟨by decide, by decide⟩ (at_of tX9_init 1 10 rfl) ?_
    refine go_dup (at_of tX9_init 1 11 rfl) rfl ?_
    refine go_cJ (c5) lk_X9_43 rfl (at_of tX9_init 1 12 rfl) rfl (by decide) rfl (Nat.le_of_ble_eq_true rfl) rfl ⟨by decide, by decide⟩ ?_
    refine go_putr fp_X9_44 rfl (Or.inr ⟨rfl, rfl, rfl⟩) G_0 (at_of tX9_init 1 13 rfl) ?_
    refine go_aload_n (at_of tX9_init 1 14 rfl) rfl ?_
    refine go_newO (a := 96) (ci := 6) (by show σ5.2.2 = _; omega) G_96 (by decide) cl_X9_48 ins_6 ini_6 ⟨by decide, by decide⟩ (at_of tX9_init 1 15 rfl) ?_
    refine go_dup (at_of tX9_init 2 0 rfl) rfl ?_
    refine go_cJ (c6) lk_X9_50 rfl (at_of tX9_init 2 1 rfl) rfl (by decide) rfl (Nat.le_of_ble_eq_true rfl) rfl ⟨by decide, by decide⟩ ?_
    refine go_putr fp_X9_51 rfl (Or.inr ⟨rfl, rfl, rfl⟩) G_0 (at_of tX9_init 2 2 rfl) ?_
    refine go_aload_n (at_of tX9_init 2 3 rfl) rfl ?_
    refine go_newO (a := 98) (ci := 1) (by show σ6.2.2 = _; omega) G_98 (by decide) cl_X9_55 ins_1 ini_1 ⟨by decide, by decide⟩ (at_of tX9_init 2 4 rfl) ?_
    refine go_dup (at_of tX9_init 2 5 rfl) rfl ?_
    refine go_cJ (c7) lk_X9_57 rfl (at_of tX9_init 2 6 rfl) rfl (by decide) rfl (Nat.le_of_ble_eq_true rfl) rfl ⟨by decide, by decide⟩ ?_
    refine go_putr fp_X9_58 rfl (Or.inr ⟨rfl, rfl, rfl⟩) G_0 (at_of tX9_init 2 7 rfl) ?_
    refine go_aload_n (at_of tX9_init 2 8 rfl) rfl ?_
    refine go_bipush (at_of tX9_init 2 9 rfl) (by decide) ?_
    refine go_newI (a := 108) (n := 20) (by show σ7.2.2 = _; omega) G_108 (by decide) (inL 98 (by decide +kernel) (by decide +kernel)) ⟨by decide, by decide⟩ (at_of tX9_init 2 10 rfl) ?_
    refine go_putr fp_X9_62 rfl (Or.inr ⟨rfl, rfl, rfl⟩) G_0 (at_of tX9_init 2 11 rfl) ?_
    exact go_retv (at_of tX9_init 2 12 rfl) rfl
  · show σ7.2.2 + 1 = _
    omega
  · have hx2 : σ7.2.2 + 1 ≤ x := hx
    exact (z7 x j (by omega)).1
  · have hx2 : σ7.2.2 + 1 ≤ x := hx
    rw [w8 x j (by omega)]
    exact (z7 x j (by omega)).2
  · exact List.forall_mem_cons.mpr ⟨fun _ => (by rw [PR_f]; rw [if_neg (by decide), nxt_21, PR_f]; rw [if_neg (by decide)]; rw [q7, PR_f]; rw [if_neg (by decide)]; rw [q6, PR_f]; rw [if_neg (by decide)]; rw [q5, PR_f]; rw [if_neg (by decide)]; rw [q4, PR_f]; rw [if_neg (by decide)]; rw [q3, PR_f]; rw [if_neg (by decide)]; rw [q2, PR_f]; rw [if_pos ⟨rfl, rfl⟩]), List.forall_mem_cons.mpr ⟨fun _ => (by rw [PR_f]; rw [if_neg (by decide), nxt_21, PR_f]; rw [if_neg (by decide)]; rw [q7, PR_f]; rw [if_neg (by decide)]; rw [q6, PR_f]; rw [if_neg (by decide)]; rw [q5, PR_f]; rw [if_neg (by decide)]; rw [q4, PR_f]; rw [if_neg (by decide)]; rw [q3, PR_f]; rw [if_pos ⟨rfl, rfl⟩]), List.forall_mem_cons.mpr ⟨fun _ => (by rw [PR_f]; rw [if_neg (by decide), nxt_21, PR_f]; rw [if_neg (by decide)]; rw [q7, PR_f]; rw [if_neg (by decide)]; rw [q6, PR_f]; rw [if_neg (by decide)]; rw [q5, PR_f]; rw [if_neg (by decide)]; rw [q4, PR_f]; rw [if_pos ⟨rfl, rfl⟩]), List.forall_mem_cons.mpr ⟨fun _ => (by rw [PR_f]; rw [if_neg (by decide), nxt_21, PR_f]; rw [if_neg (by decide)]; rw [q7, PR_f]; rw [if_neg (by decide)]; rw [q6, PR_f]; rw [if_neg (by decide)]; rw [q5, PR_f]; rw [if_pos ⟨rfl, rfl⟩]), List.forall_mem_cons.mpr ⟨fun _ => (by rw [PR_f]; rw [if_neg (by decide), nxt_21, PR_f]; rw [if_neg (by decide)]; rw [q7, PR_f]; rw [if_neg (by decide)]; rw [q6, PR_f]; rw [if_pos ⟨rfl, rfl⟩]), List.forall_mem_cons.mpr ⟨fun _ => (by rw [PR_f]; rw [if_neg (by decide), nxt_21, PR_f]; rw [if_neg (by decide)]; rw [q7, PR_f]; rw [if_pos ⟨rfl, rfl⟩]), List.forall_mem_cons.mpr ⟨fun _ => (by rw [PR_f]; rw [if_neg (by decide), nxt_21, PR_f]; rw [if_pos ⟨rfl, rfl⟩]), List.forall_mem_cons.mpr ⟨fun _ => (by rw [PR_f]; rw [if_pos ⟨rfl, rfl⟩]), List.forall_mem_cons.mpr ⟨fun _ => ((hp 1 0 (by decide) (by decide)).trans pa), List.forall_mem_cons.mpr ⟨fun _ => ((hs 0 (by decide)).1.1), List.forall_mem_cons.mpr ⟨fun _ => ((hs 0 (by decide)).1.2.1), List.forall_mem_cons.mpr ⟨fun _ => ((hs 0 (by decide)).1.2.2), List.forall_mem_cons.mpr ⟨fun _ => ((hs 0 (by decide)).2.1.1), List.forall_mem_cons.mpr ⟨fun _ => ((hs 0 (by decide)).2.1.2.1), List.forall_mem_cons.mpr ⟨fun _ => ((hs 0 (by decide)).2.1.2.2), List.forall_mem_cons.mpr ⟨fun _ => ((hs 0 (by decide)).2.2.1), List.forall_mem_cons.mpr ⟨fun _ => ((hs 0 (by decide)).2.2.2.1), List.forall_mem_cons.mpr ⟨fun _ => ((hs 0 (by decide)).2.2.2.2), List.forall_mem_cons.mpr ⟨fun _ => ((hs 1 (by decide)).1.1), List.forall_mem_cons.mpr ⟨fun _ => ((hs 1 (by decide)).1.2.1), List.forall_mem_cons.mpr ⟨fun _ => ((hs 1 (by decide)).1.2.2), List.forall_mem_cons.mpr ⟨fun _ => ((hs 1 (by decide)).2.1.1), List.forall_mem_cons.mpr ⟨fun _ => ((hs 1 (by decide)).2.1.2.1), List.forall_mem_cons.mpr ⟨fun _ => ((hs 1 (by decide)).2.1.2.2), List.forall_mem_cons.mpr ⟨fun _ => ((hs 1 (by decide)).2.2.1), List.forall_mem_cons.mpr ⟨fun _ => ((hs 1 (by decide)).2.2.2.1), List.forall_mem_cons.mpr ⟨fun _ => ((hs 1 (by decide)).2.2.2.2), List.forall_mem_cons.mpr ⟨fun _ => ((hs 2 (by decide)).1.1), List.forall_mem_cons.mpr ⟨fun _ => ((hs 2 (by decide)).1.2.1), List.forall_mem_cons.mpr ⟨fun _ => ((hs 2 (by decide)).1.2.2), List.forall_mem_cons.mpr ⟨fun _ => ((hs 2 (by decide)).2.1.1), List.forall_mem_cons.mpr ⟨fun _ => ((hs 2 (by decide)).2.1.2.1), List.forall_mem_cons.mpr ⟨fun _ => ((hs 2 (by decide)).2.1.2.2), List.forall_mem_cons.mpr ⟨fun _ => ((hs 2 (by decide)).2.2.1), List.forall_mem_cons.mpr ⟨fun _ => ((hs 2 (by decide)).2.2.2.1), List.forall_mem_cons.mpr ⟨fun _ => ((hs 2 (by decide)).2.2.2.2), List.forall_mem_cons.mpr ⟨fun _ => ((hs 3 (by decide)).1.1), List.forall_mem_cons.mpr ⟨fun _ => ((hs 3 (by decide)).1.2.1), List.forall_mem_cons.mpr ⟨fun _ => ((hs 3 (by decide)).1.2.2), List.forall_mem_cons.mpr ⟨fun _ => ((hs 3 (by decide)).2.1.1), List.forall_mem_cons.mpr ⟨fun _ => ((hs 3 (by decide)).2.1.2.1), List.forall_mem_cons.mpr ⟨fun _ => ((hs 3 (by decide)).2.1.2.2), List.forall_mem_cons.mpr ⟨fun _ => ((hs 3 (by decide)).2.2.1), List.forall_mem_cons.mpr ⟨fun _ => ((hs 3 (by decide)).2.2.2.1), List.forall_mem_cons.mpr ⟨fun _ => ((hs 3 (by decide)).2.2.2.2), List.forall_mem_cons.mpr ⟨fun _ => ((hs 4 (by decide)).1.1), List.forall_mem_cons.mpr ⟨fun _ => ((hs 4 (by decide)).1.2.1), List.forall_mem_cons.mpr ⟨fun _ => ((hs 4 (by decide)).1.2.2), List.forall_mem_cons.mpr ⟨fun _ => ((hs 4 (by decide)).2.1.1), List.forall_mem_cons.mpr ⟨fun _ => ((hs 4 (by decide)).2.1.2.1), List.forall_mem_cons.mpr ⟨fun _ => ((hs 4 (by decide)).2.1.2.2), List.forall_mem_cons.mpr ⟨fun _ => ((hs 4 (by decide)).2.2.1), List.forall_mem_cons.mpr ⟨fun _ => ((hs 4 (by decide)).2.2.2.1), List.forall_mem_cons.mpr ⟨fun _ => ((hs 4 (by decide)).2.2.2.2), List.forall_mem_cons.mpr ⟨fun _ => ((hs 5 (by decide)).1.1), List.forall_mem_cons.mpr ⟨fun _ => ((hs 5 (by decide)).1.2.1), List.forall_mem_cons.mpr ⟨fun _ => ((hs 5 (by decide)).1.2.2), List.forall_mem_cons.mpr ⟨fun _ => ((hs 5 (by decide)).2.1.1), List.forall_mem_cons.mpr ⟨fun _ => ((hs 5 (by decide)).2.1.2.1), List.forall_mem_cons.mpr ⟨fun _ => ((hs 5 (by decide)).2.1.2.2), List.forall_mem_cons.mpr ⟨fun _ => ((hs 5 (by decide)).2.2.1), List.forall_mem_cons.mpr ⟨fun _ => ((hs 5 (by decide)).2.2.2.1), List.forall_mem_cons.mpr ⟨fun _ => ((hs 5 (by decide)).2.2.2.2), List.forall_mem_cons.mpr ⟨fun _ => ((hs 6 (by decide)).1.1), List.forall_mem_cons.mpr ⟨fun _ => ((hs 6 (by decide)).1.2.1), List.forall_mem_cons.mpr ⟨fun _ => ((hs 6 (by decide)).1.2.2), List.forall_mem_cons.mpr ⟨fun _ => ((hs 6 (by decide)).2.1.1), List.forall_mem_cons.mpr ⟨fun _ => ((hs 6 (by decide)).2.1.2.1), List.forall_mem_cons.mpr ⟨fun _ => ((hs 6 (by decide)).2.1.2.2), List.forall_mem_cons.mpr ⟨fun _ => ((hs 6 (by decide)).2.2.1), List.forall_mem_cons.mpr ⟨fun _ => ((hs 6 (by decide)).2.2.2.1), List.forall_mem_cons.mpr ⟨fun _ => ((hs 6 (by decide)).2.2.2.2), List.forall_mem_cons.mpr ⟨fun _ => (hs7.1.1), List.forall_mem_cons.mpr ⟨fun _ => (hs7.1.2.1), List.forall_mem_cons.mpr ⟨fun _ => (hs7.1.2.2), List.forall_mem_cons.mpr ⟨fun _ => (hs7.2.1.1), List.forall_mem_cons.mpr ⟨fun _ => (hs7.2.1.2.1), List.forall_mem_cons.mpr ⟨fun _ => (hs7.2.1.2.2), List.forall_mem_cons.mpr ⟨fun _ => (hs7.2.2.1), List.forall_mem_cons.mpr ⟨fun _ => (hs7.2.2.2.1), List.forall_mem_cons.mpr ⟨fun _ => (hs7.2.2.2.2), List.forall_mem_cons.mpr ⟨fun _ => ((w8 83 0 (by decide)).trans ((w7 83 0 (by decide) (by decide)).trans ((w6 83 0 (by decide) (by decide)).trans ((w5 83 0 (by decide) (by decide)).trans ((w4 83 0 (by decide) (by decide)).trans (p3.1)))))), List.forall_mem_cons.mpr ⟨fun _ => ((w8 83 1 (by decide)).trans ((w7 83 1 (by decide) (by decide)).trans ((w6 83 1 (by decide) (by decide)).trans ((w5 83 1 (by decide) (by decide)).trans ((w4 83 1 (by decide) (by decide)).trans (p3.2.1)))))), List.forall_mem_cons.mpr ⟨fun _ => ((w8 83 2 (by decide)).trans ((w7 83 2 (by decide) (by decide)).trans ((w6 83 2 (by decide) (by decide)).trans ((w5 83 2 (by decide) (by decide)).trans ((w4 83 2 (by decide) (by decide)).trans (p3.2.2)))))), List.forall_mem_cons.mpr ⟨fun _ => ((w8 87 0 (by decide)).trans ((w7 87 0 (by decide) (by decide)).trans ((w6 87 0 (by decide) (by decide)).trans ((w5 87 0 (by decide) (by decide)).trans (p4.1))))), List.forall_mem_cons.mpr ⟨fun _ => ((w8 87 1 (by decide)).trans ((w7 87 1 (by decide) (by decide)).trans ((w6 87 1 (by decide) (by decide)).trans ((w5 87 1 (by decide) (by decide)).trans (p4.2.1))))), List.forall_mem_cons.mpr ⟨fun _ => ((w8 87 2 (by decide)).trans ((w7 87 2 (by decide) (by decide)).trans ((w6 87 2 (by decide) (by decide)).trans ((w5 87 2 (by decide) (by decide)).trans (p4.2.2.1))))), List.forall_mem_cons.mpr ⟨fun _ => ((w8 87 3 (by decide)).trans ((w7 87 3 (by decide) (by decide)).trans ((w6 87 3 (by decide) (by decide)).trans ((w5 87 3 (by decide) (by decide)).trans (p4.2.2.2))))), List.forall_mem_cons.mpr ⟨fun _ => ((w8 92 0 (by decide)).trans ((w7 92 0 (by decide) (by decide)).trans ((w6 92 0 (by decide) (by decide)).trans (p5.1)))), List.forall_mem_cons.mpr ⟨fun _ => ((w8 92 1 (by decide)).trans ((w7 92 1 (by decide) (by decide)).trans ((w6 92 1 (by decide) (by decide)).trans (p5.2.1)))), List.forall_mem_cons.mpr ⟨fun _ => ((w8 92 2 (by decide)).trans ((w7 92 2 (by decide) (by decide)).trans ((w6 92 2 (by decide) (by decide)).trans (p5.2.2)))), List.forall_mem_cons.mpr ⟨fun _ => ((w8 96 0 (by decide)).trans ((w7 96 0 (by decide) (by decide)).trans (p6))), List.forall_mem_cons.mpr ⟨fun _ => ((w8 98 2 (by decide)).trans (p7.1)), List.forall_mem_cons.mpr ⟨fun _ => ((w8 98 3 (by decide)).trans (p7.2.1)), List.forall_mem_cons.mpr ⟨fun _ => ((w8 98 4 (by decide)).trans (p7.2.2.1)), List.forall_mem_cons.mpr ⟨fun _ => ((w8 98 5 (by decide)).trans (p7.2.2.2.1)), List.forall_mem_cons.mpr ⟨fun _ => ((w8 98 6 (by decide)).trans (p7.2.2.2.2.1)), List.forall_mem_cons.mpr ⟨fun _ => ((w8 98 7 (by decide)).trans (p7.2.2.2.2.2.1)), List.forall_mem_cons.mpr ⟨fun _ => ((w8 98 8 (by decide)).trans (p7.2.2.2.2.2.2.1)), List.forall_mem_cons.mpr ⟨fun _ => ((w8 98 9 (by decide)).trans (p7.2.2.2.2.2.2.2.1)), List.forall_mem_cons.mpr ⟨fun _ => ((w8 98 10 (by decide)).trans (p7.2.2.2.2.2.2.2.2)), fun _ h => absurd h List.not_mem_nil⟩⟩⟩⟩⟩⟩⟩⟩⟩⟩⟩⟩⟩⟩⟩⟩⟩⟩⟩⟩⟩⟩⟩⟩⟩⟩⟩⟩⟩⟩⟩⟩⟩⟩⟩⟩⟩⟩⟩⟩⟩⟩⟩⟩⟩⟩⟩⟩⟩⟩⟩⟩⟩⟩⟩⟩⟩⟩⟩⟩⟩⟩⟩⟩⟩⟩⟩⟩⟩⟩⟩⟩⟩⟩⟩⟩⟩⟩⟩⟩⟩⟩⟩⟩⟩⟩⟩⟩⟩⟩⟩⟩⟩⟩⟩⟩⟩⟩⟩⟩⟩
  · rw [hp 2 j (by decide) (by decide)]; exact (pd j hj).1
  · exact (pe (by decide)).eqs (fun a h1 h2 j => hn1 a j (by omega))
  · rw [hn1 1 1 (by decide)]; exact pb
  · rw [hn1 1 2 (by decide)]; exact pc
  · rw [hn1 0 0 (by decide), (f1 0 0 (by decide)).1, nxt_1, P1_eq]
  · show σ7.1 x j = _
    by_cases y7 : 98 ≤ x
    · exact v7 x j y7 hx9
    · rw [u7 x j (by omega)]
      by_cases y6 : 96 ≤ x
      · exact v6 x j y6 (by omega)
      · rw [u6 x j (by omega)]
        by_cases y5 : 92 ≤ x
        · exact v5 x j y5 (by omega)
        · rw [u5 x j (by omega)]
          by_cases y4 : 87 ≤ x
          · exact v4 x j y4 (by omega)
          · rw [u4 x j (by omega)]
            exact v3 x j hx (by omega)
theorem Str_of {P : Nat → Nat → Option Nat} (h : ∀ e ∈ strL, P e.1 e.2.1 = some e.2.2) : Str P := by
  intro a k hs
  unfold strF at hs ⊢
  cases hf : strL.find? (fun e => e.1 == a && e.2.1 == k) with
  | none => rw [hf] at hs; cases hs
  | some e =>
    have h1 := List.find?_some hf
    have h2 := List.mem_of_find?_eq_some hf
    simp only [Bool.and_eq_true, beq_iff_eq] at h1
    have h3 := h e h2
    rw [h1.1, h1.2] at h3
    exact h3
end Made3
