/-! The office and the reference are made; both at the start. -/
section Made3
variable {σ : St}
theorem go_putR {xs : Nat → Int} {d : Nat} {m : MI} {b : Nat × Nat} {pc : Nat} {ls st : List MV} {out : MV × St} {a ix ci k q : Nat} (hf : FLP m.1.cls ix ci k) (hr : fref ci k = true) (hw : Wri m ci k) (hg : Gam a = (10 + ci, 0)) (hd : At m pc (.putfield ix) 3) (K : Go xs d m b (pc + 3) ls st (PR σ a k q) out) : Go xs d m b pc ls (vA q :: vA a :: st) σ out := go_putr hf hr hw hg hd K
theorem mk_office (hc : σ.2.2 = 1) (hz : Zr σ) (h0 : ∀ j, σ.1 0 j = 0) : ∃ σ', ConA 3 mX9_init 108 23857 [vA 0] σ (vT 8 0, σ') ∧ (σ'.2.2 = 109 ∧ Zr σ') ∧ (∀ e ∈ strL, e.1 < 109 → σ'.2.1 e.1 e.2.1 = some e.2.2) ∧ (∀ j, j < 7 → σ'.2.1 2 j = some (3 + 10 * j)) ∧ (RepP σ' 0 D0 ∧ σ'.1 1 1 = 0 ∧ σ'.1 1 2 = 0 ∧ σ'.1 0 0 = 1) ∧ ∀ x j, 83 ≤ x → x < 108 → σ'.1 x j = iv x j := by
  obtain ⟨σ1, c1, e1, z1, f1, ⟨pa, pb, pc⟩, pd, pe⟩ := mk_past (σ := (nxt (P1 σ 0 0 1))) (by show σ.2.2 + 1 = _; omega) (hz.P1 (by omega)).nxt
  obtain ⟨σ2, c2, ⟨e2, f2, z2⟩, s2, -⟩ := mk_paper (k := 7) (σ := (nxt (PR σ1 0 1 1))) (by decide) (by show σ1.2.2 + 1 = _; omega) (z1.PR (by omega)).nxt
  obtain ⟨σ3, c3, ⟨e3, f3, z3⟩, p3, v3⟩ := mk_X8 (σ := (nxt (PR σ2 0 2 73))) (by show σ2.2.2 + 1 = _; omega) (z2.PR (by omega)).nxt (fun j => (z2 _ j (by omega)).1)
  obtain ⟨σ4, c4, ⟨e4, f4, z4⟩, p4, v4⟩ := mk_X3 (σ := (nxt (PR σ3 0 3 83))) (by show σ3.2.2 + 1 = _; omega) (z3.PR (by omega)).nxt (fun j => (z3 _ j (by omega)).1)
  obtain ⟨σ5, c5, ⟨e5, f5, z5⟩, p5, v5⟩ := mk_X0 (σ := (nxt (PR σ4 0 4 87))) (by show σ4.2.2 + 1 = _; omega) (z4.PR (by omega)).nxt (fun j => (z4 _ j (by omega)).1)
  obtain ⟨σ6, c6, ⟨e6, f6, z6⟩, p6, v6⟩ := mk_X6 (σ := (nxt (PR σ5 0 5 92))) (by show σ5.2.2 + 1 = _; omega) (z5.PR (by omega)).nxt (fun j => (z5 _ j (by omega)).1)
  obtain ⟨σ7, c7, ⟨e7, f7, z7⟩, p7, v7⟩ := mk_X1 (σ := (nxt (PR σ6 0 6 96))) (by show σ6.2.2 + 1 = _; omega) (z6.PR (by omega)).nxt (fun j => (z6 _ j (by omega)).1)
  have u2 : ∀ x j, x < 73 → σ2.1 x j = σ1.1 x j := fun x j hx => (f2 x j (by omega)).1
  have w2 : ∀ x j, x < 73 → x ≠ 0 → σ2.2.1 x j = σ1.2.1 x j := fun x j hx hn => by rw [(f2 x j (by omega)).2, nxt_21, PR_f, if_neg (fun y => hn y.1)]
  have q2 : ∀ j, σ2.2.1 0 j = (PR σ1 0 1 1).2.1 0 j := fun j => (f2 0 j (by omega)).2
  have u3 : ∀ x j, x < 83 → σ3.1 x j = σ2.1 x j := fun x j hx => (f3 x j (by omega)).1
  have w3 : ∀ x j, x < 83 → x ≠ 0 → σ3.2.1 x j = σ2.2.1 x j := fun x j hx hn => by rw [(f3 x j (by omega)).2, nxt_21, PR_f, if_neg (fun y => hn y.1)]
  have q3 : ∀ j, σ3.2.1 0 j = (PR σ2 0 2 73).2.1 0 j := fun j => (f3 0 j (by omega)).2
  have u4 : ∀ x j, x < 87 → σ4.1 x j = σ3.1 x j := fun x j hx => (f4 x j (by omega)).1
  have w4 : ∀ x j, x < 87 → x ≠ 0 → σ4.2.1 x j = σ3.2.1 x j := fun x j hx hn => by rw [(f4 x j (by omega)).2, nxt_21, PR_f, if_neg (fun y => hn y.1)]
  have q4 : ∀ j, σ4.2.1 0 j = (PR σ3 0 3 83).2.1 0 j := fun j => (f4 0 j (by omega)).2
  have u5 : ∀ x j, x < 92 → σ5.1 x j = σ4.1 x j := fun x j hx => (f5 x j (by omega)).1
  have w5 : ∀ x j, x < 92 → x ≠ 0 → σ5.2.1 x j = σ4.2.1 x j := fun x j hx hn => by rw [(f5 x j (by omega)).2, nxt_21, PR_f, if_neg (fun y => hn y.1)]
  have q5 : ∀ j, σ5.2.1 0 j = (PR σ4 0 4 87).2.1 0 j := fun j => (f5 0 j (by omega)).2
  have u6 : ∀ x j, x < 96 → σ6.1 x j = σ5.1 x j := fun x j hx => (f6 x j (by omega)).1
  have w6 : ∀ x j, x < 96 → x ≠ 0 → σ6.2.1 x j = σ5.2.1 x j := fun x j hx hn => by rw [(f6 x j (by omega)).2, nxt_21, PR_f, if_neg (fun y => hn y.1)]
  have q6 : ∀ j, σ6.2.1 0 j = (PR σ5 0 5 92).2.1 0 j := fun j => (f6 0 j (by omega)).2
  have u7 : ∀ x j, x < 98 → σ7.1 x j = σ6.1 x j := fun x j hx => (f7 x j (by omega)).1
  have w7 : ∀ x j, x < 98 → x ≠ 0 → σ7.2.1 x j = σ6.2.1 x j := fun x j hx hn => by rw [(f7 x j (by omega)).2, nxt_21, PR_f, if_neg (fun y => hn y.1)]
  have q7 : ∀ j, σ7.2.1 0 j = (PR σ6 0 6 96).2.1 0 j := fun j => (f7 0 j (by omega)).2
  have w8 : ∀ x j, x ≠ 0 → (PR (nxt (PR σ7 0 7 98)) 0 8 108).2.1 x j = σ7.2.1 x j := fun x j hn => by rw [PR_f, if_neg (fun y => hn y.1), nxt_21, PR_f, if_neg (fun y => hn y.1)]
  have hp : ∀ x j, x < 73 → x ≠ 0 → (PR (nxt (PR σ7 0 7 98)) 0 8 108).2.1 x j = σ1.2.1 x j := fun x j hx hn => by rw [w8 x j hn, w7 x j (by omega) hn, w6 x j (by omega) hn, w5 x j (by omega) hn, w4 x j (by omega) hn, w3 x j (by omega) hn, w2 x j (by omega) hn]
  have hn1 : ∀ x j, x < 73 → (PR (nxt (PR σ7 0 7 98)) 0 8 108).1 x j = σ1.1 x j := fun x j hx => by
    show σ7.1 x j = _
    rw [u7 x j (by omega), u6 x j (by omega), u5 x j (by omega), u4 x j (by omega), u3 x j (by omega), u2 x j (by omega)]
  have hs : ∀ k, k < 7 → SlP (PR (nxt (PR σ7 0 7 98)) 0 8 108).2.1 k := fun k hk => (pd k hk).2.of (fun x j h1 h2 => hp x j (by omega) (by omega))
  have hs7 : SlP (PR (nxt (PR σ7 0 7 98)) 0 8 108).2.1 7 := s2.of (fun x j h1 h2 => by rw [w8 x j (by omega), w7 x j (by omega) (by omega), w6 x j (by omega) (by omega), w5 x j (by omega) (by omega), w4 x j (by omega) (by omega), w3 x j (by omega) (by omega)])
  refine ⟨(PR (nxt (PR σ7 0 7 98)) 0 8 108), ?_, ⟨?_, fun x j hx => ⟨?_, ?_⟩⟩, ?_, fun j hj => ?_, ⟨?_, ?_, ?_, ?_⟩, fun x j hx hx9 => ?_⟩
  · refine con_of_goA mfX9_init.1 trivial (Nat.le_of_ble_eq_true rfl) rfl (by decide) ?_
    show GoA _ _ _ _ 0 [vA _] [] _ _
    refine ga_aload_n (at_of tX9_init 0 0 rfl) rfl ?_
    refine ga_objInit (inL 130 (by decide +kernel) (by decide +kernel)) (at_of tX9_init 0 1 rfl) (Nat.le_of_ble_eq_true rfl) ?_
    refine ga_aload_n (at_of tX9_init 0 2 rfl) rfl ?_
    refine ga_iconst (at_of tX9_init 0 3 rfl) (by unfold in32; omega) ?_
    refine ga_put1 fp_X9_7 rfl (Or.inl rfl) G_0 (Or.inr (by omega)) (at_of tX9_init 0 4 rfl) ?_
    refine ga_aload_n (at_of tX9_init 0 5 rfl) rfl ?_
    refine ga_newO (a := 1) (ci := 5) (by show σ.2.2 = _; omega) g1_ (by decide) cl_X9_13 ins_5 ini_5 ⟨by decide, by decide⟩ (at_of tX9_init 0 6 rfl) ?_
    refine ga_dup (at_of tX9_init 0 7 rfl) rfl ?_
    refine ga_cI (c1) lk_X9_15 rfl (at_of tX9_init 0 8 rfl) rfl (by decide) rfl (Nat.le_of_ble_eq_true rfl) rfl ⟨by decide, by decide⟩ ?_
    refine go_putr fp_X9_16 rfl (Or.inr ⟨rfl, rfl, rfl⟩) G_0 (at_of tX9_init 0 9 rfl) ?_
    refine go_aload_n (at_of tX9_init 0 10 rfl) rfl ?_
    refine go_newO (a := 73) (ci := 4) (by show σ1.2.2 = _; omega) (gamk 7 (by decide)).1 (by decide) cl_X9_20 ins_4 ini_4 ⟨by decide, by decide⟩ (at_of tX9_init 0 11 rfl) ?_
    refine go_dup (at_of tX9_init 0 12 rfl) rfl ?_
    refine go_cJ (c2) lk_X9_22 rfl (at_of tX9_init 0 13 rfl) rfl (by decide) rfl (Nat.le_of_ble_eq_true rfl) rfl ⟨by decide, by decide⟩ ?_
    refine go_putr fp_X9_23 rfl (Or.inr ⟨rfl, rfl, rfl⟩) G_0 (at_of tX9_init 0 14 rfl) ?_
    refine go_aload_n (at_of tX9_init 0 15 rfl) rfl ?_
    refine go_newO (a := 83) (ci := 8) (by show σ2.2.2 = _; omega) G_83 (by decide) cl_X9_27 ins_8 ini_8 ⟨by decide, by decide⟩ (at_of tX9_init 1 0 rfl) ?_
    refine go_dup (at_of tX9_init 1 1 rfl) rfl ?_
    refine go_cI (c3) lk_X9_29 rfl (at_of tX9_init 1 2 rfl) rfl (by decide) rfl (Nat.le_of_ble_eq_true rfl) rfl ⟨by decide, by decide⟩ ?_
    refine go_putr fp_X9_30 rfl (Or.inr ⟨rfl, rfl, rfl⟩) G_0 (at_of tX9_init 1 3 rfl) ?_
    refine go_aload_n (at_of tX9_init 1 4 rfl) rfl ?_
    refine go_newO (a := 87) (ci := 3) (by show σ3.2.2 = _; omega) G_87 (by decide) cl_X9_34 ins_3 ini_3 ⟨by decide, by decide⟩ (at_of tX9_init 1 5 rfl) ?_
    refine go_dup (at_of tX9_init 1 6 rfl) rfl ?_
    refine go_cI (c4) lk_X9_36 rfl (at_of tX9_init 1 7 rfl) rfl (by decide) rfl (Nat.le_of_ble_eq_true rfl) rfl ⟨by decide, by decide⟩ ?_
    refine go_putr fp_X9_37 rfl (Or.inr ⟨rfl, rfl, rfl⟩) G_0 (at_of tX9_init 1 8 rfl) ?_
    refine go_aload_n (at_of tX9_init 1 9 rfl) rfl ?_
    refine go_newO (a := 92) (ci := 0) (by show σ4.2.2 = _; omega) G_92 (by decide) cl_X9_41 ins_0 ini_0 ⟨by decide, by decide⟩ (at_of tX9_init 1 10 rfl) ?_
    refine go_dup (at_of tX9_init 1 11 rfl) rfl ?_
    refine go_cJ (c5) lk_X9_43 rfl (at_of tX9_init 1 12 rfl) rfl (by decide) rfl (Nat.le_of_ble_eq_true rfl) rfl ⟨by decide, by decide⟩ ?_
    refine go_putr fp_X9_44 rfl (Or.inr ⟨rfl, rfl, rfl⟩) G_0 (at_of tX9_init 1 13 rfl) ?_
    refine go_aload_n (at_of tX9_init 1 14 rfl) rfl ?_
    refine go_newO (a := 96) (ci := 6) (by show σ5.2.2 = _; omega) G_96 (by decide) cl_X9_48 ins_6 ini_6 ⟨by decide, by decide⟩ (at_of tX9_init 1 15 rfl) ?_
    refine go_dup (at_of tX9_init 2 0 rfl) rfl ?_
    refine go_cJ (c6) lk_X9_50 rfl (at_of tX9_init 2 1 rfl) rfl (by decide) rfl (Nat.le_of_ble_eq_true rfl) rfl ⟨by decide, by decide⟩ ?_
    refine go_putr fp_X9_51 rfl (Or.inr ⟨rfl, rfl, rfl⟩) G_0 (at_of tX9_init 2 2 rfl) ?_
    refine go_aload_n (at_of tX9_init 2 3 rfl) rfl ?_
    refine go_newO (a := 98) (ci := 1) (by show σ6.2.2 = _; omega) G_98 (by decide) cl_X9_55 ins_1 ini_1 ⟨by decide, by decide⟩ (at_of tX9_init 2 4 rfl) ?_
    refine go_dup (at_of tX9_init 2 5 rfl) rfl ?_
    refine go_cJ (c7) lk_X9_57 rfl (at_of tX9_init 2 6 rfl) rfl (by decide) rfl (Nat.le_of_ble_eq_true rfl) rfl ⟨by decide, by decide⟩ ?_
    refine go_putr fp_X9_58 rfl (Or.inr ⟨rfl, rfl, rfl⟩) G_0 (at_of tX9_init 2 7 rfl) ?_
    refine go_aload_n (at_of tX9_init 2 8 rfl) rfl ?_
    refine go_bipush (at_of tX9_init 2 9 rfl) (by decide) ?_
    refine go_newI (a := 108) (n := 20) (by show σ7.2.2 = _; omega) G_108 (by decide) (inL 165 (by decide +kernel) (by decide +kernel)) ⟨by decide, by decide⟩ (at_of tX9_init 2 10 rfl) ?_
    refine go_putr fp_X9_62 rfl (Or.inr ⟨rfl, rfl, rfl⟩) G_0 (at_of tX9_init 2 11 rfl) ?_
    exact go_retv (at_of tX9_init 2 12 rfl) rfl
  · show σ7.2.2 + 1 = _
    omega
  · have hx2 : σ7.2.2 + 1 ≤ x := hx
    exact (z7 x j (by omega)).1
  · have hx2 : σ7.2.2 + 1 ≤ x := hx
    rw [w8 x j (by omega)]
    exact (z7 x j (by omega)).2
  · exact List.forall_mem_cons.mpr ⟨fun _ => (by rw [PR_f]; rw [if_neg (by decide), nxt_21, PR_f]; rw [if_neg (by decide)]; rw [q7, PR_f]; rw [if_neg (by decide)]; rw [q6, PR_f]; rw [if_neg (by decide)]; rw [q5, PR_f]; rw [if_neg (by decide)]; rw [q4, PR_f]; rw [if_neg (by decide)]; rw [q3, PR_f]; rw [if_neg (by decide)]; rw [q2, PR_f]; rw [if_pos ⟨rfl, rfl⟩]), List.forall_mem_cons.mpr ⟨fun _ => (by rw [PR_f]; rw [if_neg (by decide), nxt_21, PR_f]; rw [if_neg (by decide)]; rw [q7, PR_f]; rw [if_neg (by decide)]; rw [q6, PR_f]; rw [if_neg (by decide)]; rw [q5, PR_f]; rw [if_neg (by decide)]; rw [q4, PR_f]; rw [if_neg (by decide)]; rw [q3, PR_f]; rw [if_pos ⟨rfl, rfl⟩]), List.forall_mem_cons.mpr ⟨fun _ => (by rw [PR_f]; rw [if_neg (by decide), nxt_21, PR_f]; rw [if_neg (by decide)]; rw [q7, PR_f]; rw [if_neg (by decide)]; rw [q6, PR_f]; rw [if_neg (by decide)]; rw [q5, PR_f]; rw [if_neg (by decide)]; rw [q4, PR_f]; rw [if_pos ⟨rfl, rfl⟩]), List.forall_mem_cons.mpr ⟨fun _ => (by rw [PR_f]; rw [if_neg (by decide), nxt_21, PR_f]; rw [if_neg (by decide)]; rw [q7, PR_f]; rw [if_neg (by decide)]; rw [q6, PR_f]; rw [if_neg (by decide)]; rw [q5, PR_f]; rw [if_pos ⟨rfl, rfl⟩]), List.forall_mem_cons.mpr ⟨fun _ => (by rw [PR_f]; rw [if_neg (by decide), nxt_21, PR_f]; rw [if_neg (by decide)]; rw [q7, PR_f]; rw [if_neg (by decide)]; rw [q6, PR_f]; rw [if_pos ⟨rfl, rfl⟩]), List.forall_mem_cons.mpr ⟨fun _ => (by rw [PR_f]; rw [if_neg (by decide), nxt_21, PR_f]; rw [if_neg (by decide)]; rw [q7, PR_f]; rw [if_pos ⟨rfl, rfl⟩]), List.forall_mem_cons.mpr ⟨fun _ => (by rw [PR_f]; rw [if_neg (by decide), nxt_21, PR_f]; rw [if_pos ⟨rfl, rfl⟩]), List.forall_mem_cons.mpr ⟨fun _ => (by rw [PR_f]; rw [if_pos ⟨rfl, rfl⟩]), List.forall_mem_cons.mpr ⟨fun _ => ((hp 1 0 (by decide) (by decide)).trans pa), List.forall_mem_cons.mpr ⟨fun _ => ((hs 0 (by decide)).1.1), List.forall_mem_cons.mpr ⟨fun _ => ((hs 0 (by decide)).1.2.1), List.forall_mem_cons.mpr ⟨fun _ => ((hs 0 (by decide)).1.2.2), List.forall_mem_cons.mpr ⟨fun _ => ((hs 0 (by decide)).2.1.1), List.forall_mem_cons.mpr ⟨fun _ => ((hs 0 (by decide)).2.1.2.1), List.forall_mem_cons.mpr ⟨fun _ => ((hs 0 (by decide)).2.1.2.2), List.forall_mem_cons.mpr ⟨fun _ => ((hs 0 (by decide)).2.2.1), List.forall_mem_cons.mpr ⟨fun _ => ((hs 0 (by decide)).2.2.2.1), List.forall_mem_cons.mpr ⟨fun _ => ((hs 0 (by decide)).2.2.2.2), List.forall_mem_cons.mpr ⟨fun _ => ((hs 1 (by decide)).1.1), List.forall_mem_cons.mpr ⟨fun _ => ((hs 1 (by decide)).1.2.1), List.forall_mem_cons.mpr ⟨fun _ => ((hs 1 (by decide)).1.2.2), List.forall_mem_cons.mpr ⟨fun _ => ((hs 1 (by decide)).2.1.1), List.forall_mem_cons.mpr ⟨fun _ => ((hs 1 (by decide)).2.1.2.1), List.forall_mem_cons.mpr ⟨fun _ => ((hs 1 (by decide)).2.1.2.2), List.forall_mem_cons.mpr ⟨fun _ => ((hs 1 (by decide)).2.2.1), List.forall_mem_cons.mpr ⟨fun _ => ((hs 1 (by decide)).2.2.2.1), List.forall_mem_cons.mpr ⟨fun _ => ((hs 1 (by decide)).2.2.2.2), List.forall_mem_cons.mpr ⟨fun _ => ((hs 2 (by decide)).1.1), List.forall_mem_cons.mpr ⟨fun _ => ((hs 2 (by decide)).1.2.1), List.forall_mem_cons.mpr ⟨fun _ => ((hs 2 (by decide)).1.2.2), List.forall_mem_cons.mpr ⟨fun _ => ((hs 2 (by decide)).2.1.1), List.forall_mem_cons.mpr ⟨fun _ => ((hs 2 (by decide)).2.1.2.1), List.forall_mem_cons.mpr ⟨fun _ => ((hs 2 (by decide)).2.1.2.2), List.forall_mem_cons.mpr ⟨fun _ => ((hs 2 (by decide)).2.2.1), List.forall_mem_cons.mpr ⟨fun _ => ((hs 2 (by decide)).2.2.2.1), List.forall_mem_cons.mpr ⟨fun _ => ((hs 2 (by decide)).2.2.2.2), List.forall_mem_cons.mpr ⟨fun _ => ((hs 3 (by decide)).1.1), List.forall_mem_cons.mpr ⟨fun _ => ((hs 3 (by decide)).1.2.1), List.forall_mem_cons.mpr ⟨fun _ => ((hs 3 (by decide)).1.2.2), List.forall_mem_cons.mpr ⟨fun _ => ((hs 3 (by decide)).2.1.1), List.forall_mem_cons.mpr ⟨fun _ => ((hs 3 (by decide)).2.1.2.1), List.forall_mem_cons.mpr ⟨fun _ => ((hs 3 (by decide)).2.1.2.2), List.forall_mem_cons.mpr ⟨fun _ => ((hs 3 (by decide)).2.2.1), List.forall_mem_cons.mpr ⟨fun _ => ((hs 3 (by decide)).2.2.2.1), List.forall_mem_cons.mpr ⟨fun _ => ((hs 3 (by decide)).2.2.2.2), List.forall_mem_cons.mpr ⟨fun _ => ((hs 4 (by decide)).1.1), List.forall_mem_cons.mpr ⟨fun _ => ((hs 4 (by decide)).1.2.1), List.forall_mem_cons.mpr ⟨fun _ => ((hs 4 (by decide)).1.2.2), List.forall_mem_cons.mpr ⟨fun _ => ((hs 4 (by decide)).2.1.1), List.forall_mem_cons.mpr ⟨fun _ => ((hs 4 (by decide)).2.1.2.1), List.forall_mem_cons.mpr ⟨fun _ => ((hs 4 (by decide)).2.1.2.2), List.forall_mem_cons.mpr ⟨fun _ => ((hs 4 (by decide)).2.2.1), List.forall_mem_cons.mpr ⟨fun _ => ((hs 4 (by decide)).2.2.2.1), List.forall_mem_cons.mpr ⟨fun _ => ((hs 4 (by decide)).2.2.2.2), List.forall_mem_cons.mpr ⟨fun _ => ((hs 5 (by decide)).1.1), List.forall_mem_cons.mpr ⟨fun _ => ((hs 5 (by decide)).1.2.1), List.forall_mem_cons.mpr ⟨fun _ => ((hs 5 (by decide)).1.2.2), List.forall_mem_cons.mpr ⟨fun _ => ((hs 5 (by decide)).2.1.1), List.forall_mem_cons.mpr ⟨fun _ => ((hs 5 (by decide)).2.1.2.1), List.forall_mem_cons.mpr ⟨fun _ => ((hs 5 (by decide)).2.1.2.2), List.forall_mem_cons.mpr ⟨fun _ => ((hs 5 (by decide)).2.2.1), List.forall_mem_cons.mpr ⟨fun _ => ((hs 5 (by decide)).2.2.2.1), List.forall_mem_cons.mpr ⟨fun _ => ((hs 5 (by decide)).2.2.2.2), List.forall_mem_cons.mpr ⟨fun _ => ((hs 6 (by decide)).1.1), List.forall_mem_cons.mpr ⟨fun _ => ((hs 6 (by decide)).1.2.1), List.forall_mem_cons.mpr ⟨fun _ => ((hs 6 (by decide)).1.2.2), List.forall_mem_cons.mpr ⟨fun _ => ((hs 6 (by decide)).2.1.1), List.forall_mem_cons.mpr ⟨fun _ => ((hs 6 (by decide)).2.1.2.1), List.forall_mem_cons.mpr ⟨fun _ => ((hs 6 (by decide)).2.1.2.2), List.forall_mem_cons.mpr ⟨fun _ => ((hs 6 (by decide)).2.2.1), List.forall_mem_cons.mpr ⟨fun _ => ((hs 6 (by decide)).2.2.2.1), List.forall_mem_cons.mpr ⟨fun _ => ((hs 6 (by decide)).2.2.2.2), List.forall_mem_cons.mpr ⟨fun _ => (hs7.1.1), List.forall_mem_cons.mpr ⟨fun _ => (hs7.1.2.1), List.forall_mem_cons.mpr ⟨fun _ => (hs7.1.2.2), List.forall_mem_cons.mpr ⟨fun _ => (hs7.2.1.1), List.forall_mem_cons.mpr ⟨fun _ => (hs7.2.1.2.1), List.forall_mem_cons.mpr ⟨fun _ => (hs7.2.1.2.2), List.forall_mem_cons.mpr ⟨fun _ => (hs7.2.2.1), List.forall_mem_cons.mpr ⟨fun _ => (hs7.2.2.2.1), List.forall_mem_cons.mpr ⟨fun _ => (hs7.2.2.2.2), List.forall_mem_cons.mpr ⟨fun _ => ((w8 83 0 (by decide)).trans ((w7 83 0 (by decide) (by decide)).trans ((w6 83 0 (by decide) (by decide)).trans ((w5 83 0 (by decide) (by decide)).trans ((w4 83 0 (by decide) (by decide)).trans (p3.1)))))), List.forall_mem_cons.mpr ⟨fun _ => ((w8 83 1 (by decide)).trans ((w7 83 1 (by decide) (by decide)).trans ((w6 83 1 (by decide) (by decide)).trans ((w5 83 1 (by decide) (by decide)).trans ((w4 83 1 (by decide) (by decide)).trans (p3.2.1)))))), List.forall_mem_cons.mpr ⟨fun _ => ((w8 83 2 (by decide)).trans ((w7 83 2 (by decide) (by decide)).trans ((w6 83 2 (by decide) (by decide)).trans ((w5 83 2 (by decide) (by decide)).trans ((w4 83 2 (by decide) (by decide)).trans (p3.2.2)))))), List.forall_mem_cons.mpr ⟨fun _ => ((w8 87 0 (by decide)).trans ((w7 87 0 (by decide) (by decide)).trans ((w6 87 0 (by decide) (by decide)).trans ((w5 87 0 (by decide) (by decide)).trans (p4.1))))), List.forall_mem_cons.mpr ⟨fun _ => ((w8 87 1 (by decide)).trans ((w7 87 1 (by decide) (by decide)).trans ((w6 87 1 (by decide) (by decide)).trans ((w5 87 1 (by decide) (by decide)).trans (p4.2.1))))), List.forall_mem_cons.mpr ⟨fun _ => ((w8 87 2 (by decide)).trans ((w7 87 2 (by decide) (by decide)).trans ((w6 87 2 (by decide) (by decide)).trans ((w5 87 2 (by decide) (by decide)).trans (p4.2.2.1))))), List.forall_mem_cons.mpr ⟨fun _ => ((w8 87 3 (by decide)).trans ((w7 87 3 (by decide) (by decide)).trans ((w6 87 3 (by decide) (by decide)).trans ((w5 87 3 (by decide) (by decide)).trans (p4.2.2.2))))), List.forall_mem_cons.mpr ⟨fun _ => ((w8 92 0 (by decide)).trans ((w7 92 0 (by decide) (by decide)).trans ((w6 92 0 (by decide) (by decide)).trans (p5.1)))), List.forall_mem_cons.mpr ⟨fun _ => ((w8 92 1 (by decide)).trans ((w7 92 1 (by decide) (by decide)).trans ((w6 92 1 (by decide) (by decide)).trans (p5.2.1)))), List.forall_mem_cons.mpr ⟨fun _ => ((w8 92 2 (by decide)).trans ((w7 92 2 (by decide) (by decide)).trans ((w6 92 2 (by decide) (by decide)).trans (p5.2.2)))), List.forall_mem_cons.mpr ⟨fun _ => ((w8 96 0 (by decide)).trans ((w7 96 0 (by decide) (by decide)).trans (p6))), List.forall_mem_cons.mpr ⟨fun _ => ((w8 98 2 (by decide)).trans (p7.1)), List.forall_mem_cons.mpr ⟨fun _ => ((w8 98 3 (by decide)).trans (p7.2.1)), List.forall_mem_cons.mpr ⟨fun _ => ((w8 98 4 (by decide)).trans (p7.2.2.1)), List.forall_mem_cons.mpr ⟨fun _ => ((w8 98 5 (by decide)).trans (p7.2.2.2.1)), List.forall_mem_cons.mpr ⟨fun _ => ((w8 98 6 (by decide)).trans (p7.2.2.2.2.1)), List.forall_mem_cons.mpr ⟨fun _ => ((w8 98 7 (by decide)).trans (p7.2.2.2.2.2.1)), List.forall_mem_cons.mpr ⟨fun _ => ((w8 98 8 (by decide)).trans (p7.2.2.2.2.2.2.1)), List.forall_mem_cons.mpr ⟨fun _ => ((w8 98 9 (by decide)).trans (p7.2.2.2.2.2.2.2.1)), List.forall_mem_cons.mpr ⟨fun _ => ((w8 98 10 (by decide)).trans (p7.2.2.2.2.2.2.2.2)), List.forall_mem_cons.mpr ⟨fun y => absurd y (by decide), List.forall_mem_cons.mpr ⟨fun y => absurd y (by decide), List.forall_mem_cons.mpr ⟨fun y => absurd y (by decide), List.forall_mem_cons.mpr ⟨fun y => absurd y (by decide), List.forall_mem_cons.mpr ⟨fun y => absurd y (by decide), List.forall_mem_cons.mpr ⟨fun y => absurd y (by decide), List.forall_mem_cons.mpr ⟨fun y => absurd y (by decide), List.forall_mem_cons.mpr ⟨fun y => absurd y (by decide), List.forall_mem_cons.mpr ⟨fun y => absurd y (by decide), List.forall_mem_cons.mpr ⟨fun y => absurd y (by decide), List.forall_mem_cons.mpr ⟨fun y => absurd y (by decide), List.forall_mem_cons.mpr ⟨fun y => absurd y (by decide), List.forall_mem_cons.mpr ⟨fun y => absurd y (by decide), List.forall_mem_cons.mpr ⟨fun y => absurd y (by decide), List.forall_mem_cons.mpr ⟨fun y => absurd y (by decide), List.forall_mem_cons.mpr ⟨fun y => absurd y (by decide), List.forall_mem_cons.mpr ⟨fun y => absurd y (by decide), List.forall_mem_cons.mpr ⟨fun y => absurd y (by decide), List.forall_mem_cons.mpr ⟨fun y => absurd y (by decide), List.forall_mem_cons.mpr ⟨fun y => absurd y (by decide), List.forall_mem_cons.mpr ⟨fun y => absurd y (by decide), List.forall_mem_cons.mpr ⟨fun y => absurd y (by decide), List.forall_mem_cons.mpr ⟨fun y => absurd y (by decide), fun _ h => absurd h List.not_mem_nil⟩⟩⟩⟩⟩⟩⟩⟩⟩⟩⟩⟩⟩⟩⟩⟩⟩⟩⟩⟩⟩⟩⟩⟩⟩⟩⟩⟩⟩⟩⟩⟩⟩⟩⟩⟩⟩⟩⟩⟩⟩⟩⟩⟩⟩⟩⟩⟩⟩⟩⟩⟩⟩⟩⟩⟩⟩⟩⟩⟩⟩⟩⟩⟩⟩⟩⟩⟩⟩⟩⟩⟩⟩⟩⟩⟩⟩⟩⟩⟩⟩⟩⟩⟩⟩⟩⟩⟩⟩⟩⟩⟩⟩⟩⟩⟩⟩⟩⟩⟩⟩⟩⟩⟩⟩⟩⟩⟩⟩⟩⟩⟩⟩⟩⟩⟩⟩⟩⟩⟩⟩⟩⟩⟩
  · rw [hp 2 j (by decide) (by decide)]; exact (pd j hj).1
  · exact (pe (by decide)).eqs (fun a h1 h2 j => hn1 a j (by omega))
  · rw [hn1 1 1 (by decide)]; exact pb
  · rw [hn1 1 2 (by decide)]; exact pc
  · rw [hn1 0 0 (by decide), (f1 0 0 (by decide)).1, nxt_1, P1_eq]
  · show σ7.1 x j = _
    by_cases y7 : 98 ≤ x
    · exact v7 x j y7 hx9
    · rw [u7 x j (by omega)]
      by_cases y6 : 96 ≤ x
      · exact v6 x j y6 (by omega)
      · rw [u6 x j (by omega)]
        by_cases y5 : 92 ≤ x
        · exact v5 x j y5 (by omega)
        · rw [u5 x j (by omega)]
          by_cases y4 : 87 ≤ x
          · exact v4 x j y4 (by omega)
          · rw [u4 x j (by omega)]
            exact v3 x j hx (by omega)
def im (x j : Nat) : Int := if x = 109 ∧ (j = 6 ∨ j = 7) then 1 else if x = 109 ∧ j = 19 then 20 else if x = 109 ∧ j = 20 then 8 else if x = 110 ∧ j = 0 then 47 else if x = 110 ∧ (j = 1 ∨ j = 2 ∨ j = 4 ∨ j = 9 ∨ (3193 ≤ j ∧ j < 3205)) then -1 else if x = 113 ∧ j = 0 then -1 else if x = 116 ∧ j < 9 then 100 else 0
theorem Str_of {P : Nat → Nat → Option Nat} (h : ∀ e ∈ strL, P e.1 e.2.1 = some e.2.2) : Str P := by
  intro a k hs
  unfold strF at hs ⊢
  cases hf : strL.find? (fun e => e.1 == a && e.2.1 == k) with
  | none => rw [hf] at hs; cases hs
  | some e =>
    have h1 := List.find?_some hf
    have h2 := List.mem_of_find?_eq_some hf
    simp only [Bool.and_eq_true, beq_iff_eq] at h1
    have h3 := h e h2
    rw [h1.1, h1.2] at h3
    exact h3
theorem baS_n {s : St} {u t : Int} {x j : Nat} (h : x ≠ 110) : (baS s u t).1 x j = s.1 x j := if_neg (fun z => h z.1)
theorem baS_y {s : St} {j : Nat} (h : j < 10) : (baS s 0 10).1 110 j = bv j := by
  show (if (110 : Nat) = 110 ∧ 10 * (0 : Int) ≤ (j : Int) ∧ (j : Int) < 10 * (0 : Int) + 10 then bv ((j : Int) - 10 * (0 : Int)) else s.1 110 j) = _
  rw [if_pos ⟨rfl, by omega, by omega⟩, show (j : Int) - 10 * 0 = j by omega]
theorem baS_o {s : St} {j : Nat} (h : 10 ≤ j) : (baS s 0 10).1 110 j = s.1 110 j := if_neg (fun z => by omega)
theorem mk_tail {B : St} (hSB : Str B.2.1) {b : Nat × Nat} {z : Int} : Go (fun _ => 0) 2 mX10_init b 284 [vA 109, vI z] [] B (vT 8 0, M1 (baS B 0 10) 110 (10 * 0 + 0) 47) := by
  refine go_aload_n (at_of tX10_init 9 0 rfl) rfl ?_
  refine go_iconst (at_of tX10_init 9 1 rfl) (by unfold in32; omega) ?_
  refine go_cV (m_bares (σ := B) hSB (u := 0) (by decide)) lk_X10_95 rfl G_109 (at_of tX10_init 9 2 rfl) rfl (by decide) rfl (Nat.le_of_ble_eq_true rfl) rfl ⟨Nat.zero_le _, Nat.zero_le _⟩ ?_
  refine go_aload_n (at_of tX10_init 9 3 rfl) rfl ?_
  refine go_iconst (at_of tX10_init 9 4 rfl) (by unfold in32; omega) ?_
  refine go_iconst (at_of tX10_init 9 5 rfl) (by unfold in32; omega) ?_
  refine go_bipush (at_of tX10_init 9 6 rfl) (by decide) ?_
  refine go_cV (m_setAt (σ := baS B 0 10) hSB (u := 0) (p := 0) (z := 47) (by decide)) lk_X10_99 rfl G_109 (at_of tX10_init 9 7 rfl) rfl (by decide) rfl (Nat.le_of_ble_eq_true rfl) rfl ⟨Nat.zero_le _, Nat.zero_le _⟩ ?_
  exact go_retv (at_of tX10_init 9 8 rfl) rfl
theorem mk_model (hc : σ.2.2 = 110) (hz : Zr σ) (h0 : ∀ j, σ.1 109 j = 0) (hcl : ∀ e ∈ strL, e.1 < 109 → σ.2.1 e.1 e.2.1 = some e.2.2) : ∃ σ', Con 2 mX10_init 23 49784 [vA 109] σ (vT 8 0, σ') ∧ Nw 109 133 σ σ' ∧ Str σ'.2.1 ∧ ∀ x j, 109 ≤ x → x < 133 → σ'.1 x j = im x j := by
  have hB : ∀ x j, x ≠ 109 → (M1 (M1 (M1 (M1 (M1 (M1 (M1 (M1 (M1 (M1 (M1 (M1 (M1 (M1 (M1 (M1 (M1 (M1 (M1 (M1 (M1 (M1 (PR (nxt (PR (nxt (PR (nxt (PR (nxt (PR (nxt (PR (nxt (PR (nxt (PR (nxt (PR (nxt (PR (nxt (PR (nxt (P1 (P1 (PR (nxt (PR (nxt (PR (nxt (PR (nxt (PR (nxt (PR (nxt (PR (nxt (PR (nxt (PR (nxt (P1 (P1 (PR (nxt (PR (nxt (PR (nxt σ) 109 1 110)) 109 2 111)) 109 3 112) 109 6 1) 109 7 1)) 109 8 113)) 109 9 114)) 109 10 115)) 109 11 116)) 109 12 117)) 109 14 118)) 109 15 119)) 109 16 120)) 109 17 121) 109 19 20) 109 20 8)) 109 22 122)) 109 23 123)) 109 24 124)) 109 25 125)) 109 26 126)) 109 27 127)) 109 29 128)) 109 30 129)) 109 31 130)) 109 34 131)) 109 35 132) 113 0 (-1)) 116 0 100) 116 (0 + 1) 100) 116 ((0 + 1) + 1) 100) 116 (((0 + 1) + 1) + 1) 100) 116 ((((0 + 1) + 1) + 1) + 1) 100) 116 (((((0 + 1) + 1) + 1) + 1) + 1) 100) 116 ((((((0 + 1) + 1) + 1) + 1) + 1) + 1) 100) 116 (((((((0 + 1) + 1) + 1) + 1) + 1) + 1) + 1) 100) 116 ((((((((0 + 1) + 1) + 1) + 1) + 1) + 1) + 1) + 1) 100) 110 (3193 + 0) (-1)) 110 (3199 + 0) (-1)) 110 (3193 + (0 + 1)) (-1)) 110 (3199 + (0 + 1)) (-1)) 110 (3193 + ((0 + 1) + 1)) (-1)) 110 (3199 + ((0 + 1) + 1)) (-1)) 110 (3193 + (((0 + 1) + 1) + 1)) (-1)) 110 (3199 + (((0 + 1) + 1) + 1)) (-1)) 110 (3193 + ((((0 + 1) + 1) + 1) + 1)) (-1)) 110 (3199 + ((((0 + 1) + 1) + 1) + 1)) (-1)) 110 (3193 + (((((0 + 1) + 1) + 1) + 1) + 1)) (-1)) 110 (3199 + (((((0 + 1) + 1) + 1) + 1) + 1)) (-1)).2.1 x j = σ.2.1 x j := fun x j hn => by
    simp only [PR_f, nxt_21, P1_2, M1_2]
    repeat rw [if_neg (fun y => hn y.1)]
  have hSB : Str (M1 (M1 (M1 (M1 (M1 (M1 (M1 (M1 (M1 (M1 (M1 (M1 (M1 (M1 (M1 (M1 (M1 (M1 (M1 (M1 (M1 (M1 (PR (nxt (PR (nxt (PR (nxt (PR (nxt (PR (nxt (PR (nxt (PR (nxt (PR (nxt (PR (nxt (PR (nxt (PR (nxt (P1 (P1 (PR (nxt (PR (nxt (PR (nxt (PR (nxt (PR (nxt (PR (nxt (PR (nxt (PR (nxt (PR (nxt (P1 (P1 (PR (nxt (PR (nxt (PR (nxt σ) 109 1 110)) 109 2 111)) 109 3 112) 109 6 1) 109 7 1)) 109 8 113)) 109 9 114)) 109 10 115)) 109 11 116)) 109 12 117)) 109 14 118)) 109 15 119)) 109 16 120)) 109 17 121) 109 19 20) 109 20 8)) 109 22 122)) 109 23 123)) 109 24 124)) 109 25 125)) 109 26 126)) 109 27 127)) 109 29 128)) 109 30 129)) 109 31 130)) 109 34 131)) 109 35 132) 113 0 (-1)) 116 0 100) 116 (0 + 1) 100) 116 ((0 + 1) + 1) 100) 116 (((0 + 1) + 1) + 1) 100) 116 ((((0 + 1) + 1) + 1) + 1) 100) 116 (((((0 + 1) + 1) + 1) + 1) + 1) 100) 116 ((((((0 + 1) + 1) + 1) + 1) + 1) + 1) 100) 116 (((((((0 + 1) + 1) + 1) + 1) + 1) + 1) + 1) 100) 116 ((((((((0 + 1) + 1) + 1) + 1) + 1) + 1) + 1) + 1) 100) 110 (3193 + 0) (-1)) 110 (3199 + 0) (-1)) 110 (3193 + (0 + 1)) (-1)) 110 (3199 + (0 + 1)) (-1)) 110 (3193 + ((0 + 1) + 1)) (-1)) 110 (3199 + ((0 + 1) + 1)) (-1)) 110 (3193 + (((0 + 1) + 1) + 1)) (-1)) 110 (3199 + (((0 + 1) + 1) + 1)) (-1)) 110 (3193 + ((((0 + 1) + 1) + 1) + 1)) (-1)) 110 (3199 + ((((0 + 1) + 1) + 1) + 1)) (-1)) 110 (3193 + (((((0 + 1) + 1) + 1) + 1) + 1)) (-1)) 110 (3199 + (((((0 + 1) + 1) + 1) + 1) + 1)) (-1)).2.1 := Str_of (List.forall_mem_cons.mpr ⟨(hB 0 1 (by decide)).trans (hcl (0, 1, 1) (List.mem_of_getElem? (i := 0) rfl) (by decide)), List.forall_mem_cons.mpr ⟨(hB 0 2 (by decide)).trans (hcl (0, 2, 73) (List.mem_of_getElem? (i := 1) rfl) (by decide)), List.forall_mem_cons.mpr ⟨(hB 0 3 (by decide)).trans (hcl (0, 3, 83) (List.mem_of_getElem? (i := 2) rfl) (by decide)), List.forall_mem_cons.mpr ⟨(hB 0 4 (by decide)).trans (hcl (0, 4, 87) (List.mem_of_getElem? (i := 3) rfl) (by decide)), List.forall_mem_cons.mpr ⟨(hB 0 5 (by decide)).trans (hcl (0, 5, 92) (List.mem_of_getElem? (i := 4) rfl) (by decide)), List.forall_mem_cons.mpr ⟨(hB 0 6 (by decide)).trans (hcl (0, 6, 96) (List.mem_of_getElem? (i := 5) rfl) (by decide)), List.forall_mem_cons.mpr ⟨(hB 0 7 (by decide)).trans (hcl (0, 7, 98) (List.mem_of_getElem? (i := 6) rfl) (by decide)), List.forall_mem_cons.mpr ⟨(hB 0 8 (by decide)).trans (hcl (0, 8, 108) (List.mem_of_getElem? (i := 7) rfl) (by decide)), List.forall_mem_cons.mpr ⟨(hB 1 0 (by decide)).trans (hcl (1, 0, 2) (List.mem_of_getElem? (i := 8) rfl) (by decide)), List.forall_mem_cons.mpr ⟨(hB 3 0 (by decide)).trans (hcl (3, 0, 4) (List.mem_of_getElem? (i := 9) rfl) (by decide)), List.forall_mem_cons.mpr ⟨(hB 3 1 (by decide)).trans (hcl (3, 1, 8) (List.mem_of_getElem? (i := 10) rfl) (by decide)), List.forall_mem_cons.mpr ⟨(hB 3 2 (by decide)).trans (hcl (3, 2, 12) (List.mem_of_getElem? (i := 11) rfl) (by decide)), List.forall_mem_cons.mpr ⟨(hB 4 0 (by decide)).trans (hcl (4, 0, 5) (List.mem_of_getElem? (i := 12) rfl) (by decide)), List.forall_mem_cons.mpr ⟨(hB 4 1 (by decide)).trans (hcl (4, 1, 6) (List.mem_of_getElem? (i := 13) rfl) (by decide)), List.forall_mem_cons.mpr ⟨(hB 4 2 (by decide)).trans (hcl (4, 2, 7) (List.mem_of_getElem? (i := 14) rfl) (by decide)), List.forall_mem_cons.mpr ⟨(hB 8 0 (by decide)).trans (hcl (8, 0, 9) (List.mem_of_getElem? (i := 15) rfl) (by decide)), List.forall_mem_cons.mpr ⟨(hB 8 1 (by decide)).trans (hcl (8, 1, 10) (List.mem_of_getElem? (i := 16) rfl) (by decide)), List.forall_mem_cons.mpr ⟨(hB 8 2 (by decide)).trans (hcl (8, 2, 11) (List.mem_of_getElem? (i := 17) rfl) (by decide)), List.forall_mem_cons.mpr ⟨(hB 13 0 (by decide)).trans (hcl (13, 0, 14) (List.mem_of_getElem? (i := 18) rfl) (by decide)), List.forall_mem_cons.mpr ⟨(hB 13 1 (by decide)).trans (hcl (13, 1, 18) (List.mem_of_getElem? (i := 19) rfl) (by decide)), List.forall_mem_cons.mpr ⟨(hB 13 2 (by decide)).trans (hcl (13, 2, 22) (List.mem_of_getElem? (i := 20) rfl) (by decide)), List.forall_mem_cons.mpr ⟨(hB 14 0 (by decide)).trans (hcl (14, 0, 15) (List.mem_of_getElem? (i := 21) rfl) (by decide)), List.forall_mem_cons.mpr ⟨(hB 14 1 (by decide)).trans (hcl (14, 1, 16) (List.mem_of_getElem? (i := 22) rfl) (by decide)), List.forall_mem_cons.mpr ⟨(hB 14 2 (by decide)).trans (hcl (14, 2, 17) (List.mem_of_getElem? (i := 23) rfl) (by decide)), List.forall_mem_cons.mpr ⟨(hB 18 0 (by decide)).trans (hcl (18, 0, 19) (List.mem_of_getElem? (i := 24) rfl) (by decide)), List.forall_mem_cons.mpr ⟨(hB 18 1 (by decide)).trans (hcl (18, 1, 20) (List.mem_of_getElem? (i := 25) rfl) (by decide)), List.forall_mem_cons.mpr ⟨(hB 18 2 (by decide)).trans (hcl (18, 2, 21) (List.mem_of_getElem? (i := 26) rfl) (by decide)), List.forall_mem_cons.mpr ⟨(hB 23 0 (by decide)).trans (hcl (23, 0, 24) (List.mem_of_getElem? (i := 27) rfl) (by decide)), List.forall_mem_cons.mpr ⟨(hB 23 1 (by decide)).trans (hcl (23, 1, 28) (List.mem_of_getElem? (i := 28) rfl) (by decide)), List.forall_mem_cons.mpr ⟨(hB 23 2 (by decide)).trans (hcl (23, 2, 32) (List.mem_of_getElem? (i := 29) rfl) (by decide)), List.forall_mem_cons.mpr ⟨(hB 24 0 (by decide)).trans (hcl (24, 0, 25) (List.mem_of_getElem? (i := 30) rfl) (by decide)), List.forall_mem_cons.mpr ⟨(hB 24 1 (by decide)).trans (hcl (24, 1, 26) (List.mem_of_getElem? (i := 31) rfl) (by decide)), List.forall_mem_cons.mpr ⟨(hB 24 2 (by decide)).trans (hcl (24, 2, 27) (List.mem_of_getElem? (i := 32) rfl) (by decide)), List.forall_mem_cons.mpr ⟨(hB 28 0 (by decide)).trans (hcl (28, 0, 29) (List.mem_of_getElem? (i := 33) rfl) (by decide)), List.forall_mem_cons.mpr ⟨(hB 28 1 (by decide)).trans (hcl (28, 1, 30) (List.mem_of_getElem? (i := 34) rfl) (by decide)), List.forall_mem_cons.mpr ⟨(hB 28 2 (by decide)).trans (hcl (28, 2, 31) (List.mem_of_getElem? (i := 35) rfl) (by decide)), List.forall_mem_cons.mpr ⟨(hB 33 0 (by decide)).trans (hcl (33, 0, 34) (List.mem_of_getElem? (i := 36) rfl) (by decide)), List.forall_mem_cons.mpr ⟨(hB 33 1 (by decide)).trans (hcl (33, 1, 38) (List.mem_of_getElem? (i := 37) rfl) (by decide)), List.forall_mem_cons.mpr ⟨(hB 33 2 (by decide)).trans (hcl (33, 2, 42) (List.mem_of_getElem? (i := 38) rfl) (by decide)), List.forall_mem_cons.mpr ⟨(hB 34 0 (by decide)).trans (hcl (34, 0, 35) (List.mem_of_getElem? (i := 39) rfl) (by decide)), List.forall_mem_cons.mpr ⟨(hB 34 1 (by decide)).trans (hcl (34, 1, 36) (List.mem_of_getElem? (i := 40) rfl) (by decide)), List.forall_mem_cons.mpr ⟨(hB 34 2 (by decide)).trans (hcl (34, 2, 37) (List.mem_of_getElem? (i := 41) rfl) (by decide)), List.forall_mem_cons.mpr ⟨(hB 38 0 (by decide)).trans (hcl (38, 0, 39) (List.mem_of_getElem? (i := 42) rfl) (by decide)), List.forall_mem_cons.mpr ⟨(hB 38 1 (by decide)).trans (hcl (38, 1, 40) (List.mem_of_getElem? (i := 43) rfl) (by decide)), List.forall_mem_cons.mpr ⟨(hB 38 2 (by decide)).trans (hcl (38, 2, 41) (List.mem_of_getElem? (i := 44) rfl) (by decide)), List.forall_mem_cons.mpr ⟨(hB 43 0 (by decide)).trans (hcl (43, 0, 44) (List.mem_of_getElem? (i := 45) rfl) (by decide)), List.forall_mem_cons.mpr ⟨(hB 43 1 (by decide)).trans (hcl (43, 1, 48) (List.mem_of_getElem? (i := 46) rfl) (by decide)), List.forall_mem_cons.mpr ⟨(hB 43 2 (by decide)).trans (hcl (43, 2, 52) (List.mem_of_getElem? (i := 47) rfl) (by decide)), List.forall_mem_cons.mpr ⟨(hB 44 0 (by decide)).trans (hcl (44, 0, 45) (List.mem_of_getElem? (i := 48) rfl) (by decide)), List.forall_mem_cons.mpr ⟨(hB 44 1 (by decide)).trans (hcl (44, 1, 46) (List.mem_of_getElem? (i := 49) rfl) (by decide)), List.forall_mem_cons.mpr ⟨(hB 44 2 (by decide)).trans (hcl (44, 2, 47) (List.mem_of_getElem? (i := 50) rfl) (by decide)), List.forall_mem_cons.mpr ⟨(hB 48 0 (by decide)).trans (hcl (48, 0, 49) (List.mem_of_getElem? (i := 51) rfl) (by decide)), List.forall_mem_cons.mpr ⟨(hB 48 1 (by decide)).trans (hcl (48, 1, 50) (List.mem_of_getElem? (i := 52) rfl) (by decide)), List.forall_mem_cons.mpr ⟨(hB 48 2 (by decide)).trans (hcl (48, 2, 51) (List.mem_of_getElem? (i := 53) rfl) (by decide)), List.forall_mem_cons.mpr ⟨(hB 53 0 (by decide)).trans (hcl (53, 0, 54) (List.mem_of_getElem? (i := 54) rfl) (by decide)), List.forall_mem_cons.mpr ⟨(hB 53 1 (by decide)).trans (hcl (53, 1, 58) (List.mem_of_getElem? (i := 55) rfl) (by decide)), List.forall_mem_cons.mpr ⟨(hB 53 2 (by decide)).trans (hcl (53, 2, 62) (List.mem_of_getElem? (i := 56) rfl) (by decide)), List.forall_mem_cons.mpr ⟨(hB 54 0 (by decide)).trans (hcl (54, 0, 55) (List.mem_of_getElem? (i := 57) rfl) (by decide)), List.forall_mem_cons.mpr ⟨(hB 54 1 (by decide)).trans (hcl (54, 1, 56) (List.mem_of_getElem? (i := 58) rfl) (by decide)), List.forall_mem_cons.mpr ⟨(hB 54 2 (by decide)).trans (hcl (54, 2, 57) (List.mem_of_getElem? (i := 59) rfl) (by decide)), List.forall_mem_cons.mpr ⟨(hB 58 0 (by decide)).trans (hcl (58, 0, 59) (List.mem_of_getElem? (i := 60) rfl) (by decide)), List.forall_mem_cons.mpr ⟨(hB 58 1 (by decide)).trans (hcl (58, 1, 60) (List.mem_of_getElem? (i := 61) rfl) (by decide)), List.forall_mem_cons.mpr ⟨(hB 58 2 (by decide)).trans (hcl (58, 2, 61) (List.mem_of_getElem? (i := 62) rfl) (by decide)), List.forall_mem_cons.mpr ⟨(hB 63 0 (by decide)).trans (hcl (63, 0, 64) (List.mem_of_getElem? (i := 63) rfl) (by decide)), List.forall_mem_cons.mpr ⟨(hB 63 1 (by decide)).trans (hcl (63, 1, 68) (List.mem_of_getElem? (i := 64) rfl) (by decide)), List.forall_mem_cons.mpr ⟨(hB 63 2 (by decide)).trans (hcl (63, 2, 72) (List.mem_of_getElem? (i := 65) rfl) (by decide)), List.forall_mem_cons.mpr ⟨(hB 64 0 (by decide)).trans (hcl (64, 0, 65) (List.mem_of_getElem? (i := 66) rfl) (by decide)), List.forall_mem_cons.mpr ⟨(hB 64 1 (by decide)).trans (hcl (64, 1, 66) (List.mem_of_getElem? (i := 67) rfl) (by decide)), List.forall_mem_cons.mpr ⟨(hB 64 2 (by decide)).trans (hcl (64, 2, 67) (List.mem_of_getElem? (i := 68) rfl) (by decide)), List.forall_mem_cons.mpr ⟨(hB 68 0 (by decide)).trans (hcl (68, 0, 69) (List.mem_of_getElem? (i := 69) rfl) (by decide)), List.forall_mem_cons.mpr ⟨(hB 68 1 (by decide)).trans (hcl (68, 1, 70) (List.mem_of_getElem? (i := 70) rfl) (by decide)), List.forall_mem_cons.mpr ⟨(hB 68 2 (by decide)).trans (hcl (68, 2, 71) (List.mem_of_getElem? (i := 71) rfl) (by decide)), List.forall_mem_cons.mpr ⟨(hB 73 0 (by decide)).trans (hcl (73, 0, 74) (List.mem_of_getElem? (i := 72) rfl) (by decide)), List.forall_mem_cons.mpr ⟨(hB 73 1 (by decide)).trans (hcl (73, 1, 78) (List.mem_of_getElem? (i := 73) rfl) (by decide)), List.forall_mem_cons.mpr ⟨(hB 73 2 (by decide)).trans (hcl (73, 2, 82) (List.mem_of_getElem? (i := 74) rfl) (by decide)), List.forall_mem_cons.mpr ⟨(hB 74 0 (by decide)).trans (hcl (74, 0, 75) (List.mem_of_getElem? (i := 75) rfl) (by decide)), List.forall_mem_cons.mpr ⟨(hB 74 1 (by decide)).trans (hcl (74, 1, 76) (List.mem_of_getElem? (i := 76) rfl) (by decide)), List.forall_mem_cons.mpr ⟨(hB 74 2 (by decide)).trans (hcl (74, 2, 77) (List.mem_of_getElem? (i := 77) rfl) (by decide)), List.forall_mem_cons.mpr ⟨(hB 78 0 (by decide)).trans (hcl (78, 0, 79) (List.mem_of_getElem? (i := 78) rfl) (by decide)), List.forall_mem_cons.mpr ⟨(hB 78 1 (by decide)).trans (hcl (78, 1, 80) (List.mem_of_getElem? (i := 79) rfl) (by decide)), List.forall_mem_cons.mpr ⟨(hB 78 2 (by decide)).trans (hcl (78, 2, 81) (List.mem_of_getElem? (i := 80) rfl) (by decide)), List.forall_mem_cons.mpr ⟨(hB 83 0 (by decide)).trans (hcl (83, 0, 84) (List.mem_of_getElem? (i := 81) rfl) (by decide)), List.forall_mem_cons.mpr ⟨(hB 83 1 (by decide)).trans (hcl (83, 1, 85) (List.mem_of_getElem? (i := 82) rfl) (by decide)), List.forall_mem_cons.mpr ⟨(hB 83 2 (by decide)).trans (hcl (83, 2, 86) (List.mem_of_getElem? (i := 83) rfl) (by decide)), List.forall_mem_cons.mpr ⟨(hB 87 0 (by decide)).trans (hcl (87, 0, 88) (List.mem_of_getElem? (i := 84) rfl) (by decide)), List.forall_mem_cons.mpr ⟨(hB 87 1 (by decide)).trans (hcl (87, 1, 89) (List.mem_of_getElem? (i := 85) rfl) (by decide)), List.forall_mem_cons.mpr ⟨(hB 87 2 (by decide)).trans (hcl (87, 2, 90) (List.mem_of_getElem? (i := 86) rfl) (by decide)), List.forall_mem_cons.mpr ⟨(hB 87 3 (by decide)).trans (hcl (87, 3, 91) (List.mem_of_getElem? (i := 87) rfl) (by decide)), List.forall_mem_cons.mpr ⟨(hB 92 0 (by decide)).trans (hcl (92, 0, 93) (List.mem_of_getElem? (i := 88) rfl) (by decide)), List.forall_mem_cons.mpr ⟨(hB 92 1 (by decide)).trans (hcl (92, 1, 94) (List.mem_of_getElem? (i := 89) rfl) (by decide)), List.forall_mem_cons.mpr ⟨(hB 92 2 (by decide)).trans (hcl (92, 2, 95) (List.mem_of_getElem? (i := 90) rfl) (by decide)), List.forall_mem_cons.mpr ⟨(hB 96 0 (by decide)).trans (hcl (96, 0, 97) (List.mem_of_getElem? (i := 91) rfl) (by decide)), List.forall_mem_cons.mpr ⟨(hB 98 2 (by decide)).trans (hcl (98, 2, 99) (List.mem_of_getElem? (i := 92) rfl) (by decide)), List.forall_mem_cons.mpr ⟨(hB 98 3 (by decide)).trans (hcl (98, 3, 100) (List.mem_of_getElem? (i := 93) rfl) (by decide)), List.forall_mem_cons.mpr ⟨(hB 98 4 (by decide)).trans (hcl (98, 4, 101) (List.mem_of_getElem? (i := 94) rfl) (by decide)), List.forall_mem_cons.mpr ⟨(hB 98 5 (by decide)).trans (hcl (98, 5, 102) (List.mem_of_getElem? (i := 95) rfl) (by decide)), List.forall_mem_cons.mpr ⟨(hB 98 6 (by decide)).trans (hcl (98, 6, 103) (List.mem_of_getElem? (i := 96) rfl) (by decide)), List.forall_mem_cons.mpr ⟨(hB 98 7 (by decide)).trans (hcl (98, 7, 104) (List.mem_of_getElem? (i := 97) rfl) (by decide)), List.forall_mem_cons.mpr ⟨(hB 98 8 (by decide)).trans (hcl (98, 8, 105) (List.mem_of_getElem? (i := 98) rfl) (by decide)), List.forall_mem_cons.mpr ⟨(hB 98 9 (by decide)).trans (hcl (98, 9, 106) (List.mem_of_getElem? (i := 99) rfl) (by decide)), List.forall_mem_cons.mpr ⟨(hB 98 10 (by decide)).trans (hcl (98, 10, 107) (List.mem_of_getElem? (i := 100) rfl) (by decide)), List.forall_mem_cons.mpr ⟨(by simp [PR_f, nxt_21, P1_2, M1_2]), List.forall_mem_cons.mpr ⟨(by simp [PR_f, nxt_21, P1_2, M1_2]), List.forall_mem_cons.mpr ⟨(by simp [PR_f, nxt_21, P1_2, M1_2]), List.forall_mem_cons.mpr ⟨(by simp [PR_f, nxt_21, P1_2, M1_2]), List.forall_mem_cons.mpr ⟨(by simp [PR_f, nxt_21, P1_2, M1_2]), List.forall_mem_cons.mpr ⟨(by simp [PR_f, nxt_21, P1_2, M1_2]), List.forall_mem_cons.mpr ⟨(by simp [PR_f, nxt_21, P1_2, M1_2]), List.forall_mem_cons.mpr ⟨(by simp [PR_f, nxt_21, P1_2, M1_2]), List.forall_mem_cons.mpr ⟨(by simp [PR_f, nxt_21, P1_2, M1_2]), List.forall_mem_cons.mpr ⟨(by simp [PR_f, nxt_21, P1_2, M1_2]), List.forall_mem_cons.mpr ⟨(by simp [PR_f, nxt_21, P1_2, M1_2]), List.forall_mem_cons.mpr ⟨(by simp [PR_f, nxt_21, P1_2, M1_2]), List.forall_mem_cons.mpr ⟨(by simp [PR_f, nxt_21, P1_2, M1_2]), List.forall_mem_cons.mpr ⟨(by simp [PR_f, nxt_21, P1_2, M1_2]), List.forall_mem_cons.mpr ⟨(by simp [PR_f, nxt_21, P1_2, M1_2]), List.forall_mem_cons.mpr ⟨(by simp [PR_f, nxt_21, P1_2, M1_2]), List.forall_mem_cons.mpr ⟨(by simp [PR_f, nxt_21, P1_2, M1_2]), List.forall_mem_cons.mpr ⟨(by simp [PR_f, nxt_21, P1_2, M1_2]), List.forall_mem_cons.mpr ⟨(by simp [PR_f, nxt_21, P1_2, M1_2]), List.forall_mem_cons.mpr ⟨(by simp [PR_f, nxt_21, P1_2, M1_2]), List.forall_mem_cons.mpr ⟨(by simp [PR_f, nxt_21, P1_2, M1_2]), List.forall_mem_cons.mpr ⟨(by simp [PR_f, nxt_21, P1_2, M1_2]), List.forall_mem_cons.mpr ⟨(by simp [PR_f, nxt_21, P1_2, M1_2]), fun _ h => absurd h List.not_mem_nil⟩⟩⟩⟩⟩⟩⟩⟩⟩⟩⟩⟩⟩⟩⟩⟩⟩⟩⟩⟩⟩⟩⟩⟩⟩⟩⟩⟩⟩⟩⟩⟩⟩⟩⟩⟩⟩⟩⟩⟩⟩⟩⟩⟩⟩⟩⟩⟩⟩⟩⟩⟩⟩⟩⟩⟩⟩⟩⟩⟩⟩⟩⟩⟩⟩⟩⟩⟩⟩⟩⟩⟩⟩⟩⟩⟩⟩⟩⟩⟩⟩⟩⟩⟩⟩⟩⟩⟩⟩⟩⟩⟩⟩⟩⟩⟩⟩⟩⟩⟩⟩⟩⟩⟩⟩⟩⟩⟩⟩⟩⟩⟩⟩⟩⟩⟩⟩⟩⟩⟩⟩⟩⟩⟩)
  have hz1 : ∀ x j, 109 ≤ x → σ.1 x j = 0 := fun x j hx => by
    by_cases q : x = 109
    · rw [q]; exact h0 j
    · exact (hz x j (by omega)).1
  refine ⟨(M1 (baS (M1 (M1 (M1 (M1 (M1 (M1 (M1 (M1 (M1 (M1 (M1 (M1 (M1 (M1 (M1 (M1 (M1 (M1 (M1 (M1 (M1 (M1 (PR (nxt (PR (nxt (PR (nxt (PR (nxt (PR (nxt (PR (nxt (PR (nxt (PR (nxt (PR (nxt (PR (nxt (PR (nxt (P1 (P1 (PR (nxt (PR (nxt (PR (nxt (PR (nxt (PR (nxt (PR (nxt (PR (nxt (PR (nxt (PR (nxt (P1 (P1 (PR (nxt (PR (nxt (PR (nxt σ) 109 1 110)) 109 2 111)) 109 3 112) 109 6 1) 109 7 1)) 109 8 113)) 109 9 114)) 109 10 115)) 109 11 116)) 109 12 117)) 109 14 118)) 109 15 119)) 109 16 120)) 109 17 121) 109 19 20) 109 20 8)) 109 22 122)) 109 23 123)) 109 24 124)) 109 25 125)) 109 26 126)) 109 27 127)) 109 29 128)) 109 30 129)) 109 31 130)) 109 34 131)) 109 35 132) 113 0 (-1)) 116 0 100) 116 (0 + 1) 100) 116 ((0 + 1) + 1) 100) 116 (((0 + 1) + 1) + 1) 100) 116 ((((0 + 1) + 1) + 1) + 1) 100) 116 (((((0 + 1) + 1) + 1) + 1) + 1) 100) 116 ((((((0 + 1) + 1) + 1) + 1) + 1) + 1) 100) 116 (((((((0 + 1) + 1) + 1) + 1) + 1) + 1) + 1) 100) 116 ((((((((0 + 1) + 1) + 1) + 1) + 1) + 1) + 1) + 1) 100) 110 (3193 + 0) (-1)) 110 (3199 + 0) (-1)) 110 (3193 + (0 + 1)) (-1)) 110 (3199 + (0 + 1)) (-1)) 110 (3193 + ((0 + 1) + 1)) (-1)) 110 (3199 + ((0 + 1) + 1)) (-1)) 110 (3193 + (((0 + 1) + 1) + 1)) (-1)) 110 (3199 + (((0 + 1) + 1) + 1)) (-1)) 110 (3193 + ((((0 + 1) + 1) + 1) + 1)) (-1)) 110 (3199 + ((((0 + 1) + 1) + 1) + 1)) (-1)) 110 (3193 + (((((0 + 1) + 1) + 1) + 1) + 1)) (-1)) 110 (3199 + (((((0 + 1) + 1) + 1) + 1) + 1)) (-1)) 0 10) 110 (10 * 0 + 0) 47), ?_, ⟨?_, fun x j hx => ⟨?_, ?_⟩, fun x j hx => ⟨?_, ?_⟩⟩, hSB, fun x j hx hx9 => ?_⟩
  · refine con_of_go mfX10_init.1 trivial (Nat.le_of_ble_eq_true rfl) rfl (by decide) ?_
    show Go _ _ _ _ 0 [vA _, vT 9 0] [] _ _
    refine go_aload_n (at_of tX10_init 0 0 rfl) rfl ?_
    refine go_objInit (inL 1507 (by decide +kernel) (by decide +kernel)) (at_of tX10_init 0 1 rfl) (Nat.le_of_ble_eq_true rfl) ?_
    refine go_aload_n (at_of tX10_init 0 2 rfl) rfl ?_
    refine go_sipush (at_of tX10_init 0 3 rfl) (by decide) ?_
    refine go_newI (a := 110) (n := 3225) (by show σ.2.2 = _; omega) G_110 (by decide) (inL 165 (by decide +kernel) (by decide +kernel)) ⟨by decide, by decide⟩ (at_of tX10_init 0 4 rfl) ?_
    refine go_putR fp_X10_7 rfl (Or.inr ⟨rfl, rfl, rfl⟩) G_109 (at_of tX10_init 0 5 rfl) ?_
    refine go_aload_n (at_of tX10_init 0 6 rfl) rfl ?_
    refine go_sipush (at_of tX10_init 0 7 rfl) (by decide) ?_
    refine go_newI (a := 111) (n := 19350) (by show σ.2.2 + 1 = _; omega) G_111 (by decide) (inL 165 (by decide +kernel) (by decide +kernel)) ⟨by decide, by decide⟩ (at_of tX10_init 0 8 rfl) ?_
    refine go_putR fp_X10_13 rfl (Or.inr ⟨rfl, rfl, rfl⟩) G_109 (at_of tX10_init 0 9 rfl) ?_
    refine go_aload_n (at_of tX10_init 0 10 rfl) rfl ?_
    refine go_sipush (at_of tX10_init 0 11 rfl) (by decide) ?_
    refine go_newI (a := 112) (n := 19350) (by show σ.2.2 + 1 + 1 = _; omega) G_112 (by decide) (inL 165 (by decide +kernel) (by decide +kernel)) ⟨by decide, by decide⟩ (at_of tX10_init 0 12 rfl) ?_
    refine go_putR fp_X10_16 rfl (Or.inr ⟨rfl, rfl, rfl⟩) G_109 (at_of tX10_init 0 13 rfl) ?_
    refine go_aload_n (at_of tX10_init 0 14 rfl) rfl ?_
    refine go_iconst (at_of tX10_init 0 15 rfl) (by unfold in32; omega) ?_
    refine go_put1 fp_X10_19 rfl (Or.inl rfl) G_109 (Or.inr (by omega)) (at_of tX10_init 1 0 rfl) ?_
    refine go_aload_n (at_of tX10_init 1 1 rfl) rfl ?_
    refine go_iconst (at_of tX10_init 1 2 rfl) (by unfold in32; omega) ?_
    refine go_put1 fp_X10_23 rfl (Or.inl rfl) G_109 (Or.inl rfl) (at_of tX10_init 1 3 rfl) ?_
    refine go_aload_n (at_of tX10_init 1 4 rfl) rfl ?_
    refine go_bipush (at_of tX10_init 1 5 rfl) (by decide) ?_
    refine go_newI (a := 113) (n := 8) (by show σ.2.2 + 1 + 1 + 1 = _; omega) G_113 (by decide) (inL 165 (by decide +kernel) (by decide +kernel)) ⟨by decide, by decide⟩ (at_of tX10_init 1 6 rfl) ?_
    refine go_putR fp_X10_27 rfl (Or.inr ⟨rfl, rfl, rfl⟩) G_109 (at_of tX10_init 1 7 rfl) ?_
    refine go_aload_n (at_of tX10_init 1 8 rfl) rfl ?_
    refine go_bipush (at_of tX10_init 1 9 rfl) (by decide) ?_
    refine go_newZ (a := 114) (n := 8) (by show σ.2.2 + 1 + 1 + 1 + 1 = _; omega) G_114 (by decide) (inL 251 (by decide +kernel) (by decide +kernel)) ⟨by decide, by decide⟩ (at_of tX10_init 1 10 rfl) ?_
    refine go_putR fp_X10_30 rfl (Or.inr ⟨rfl, rfl, rfl⟩) G_109 (at_of tX10_init 1 11 rfl) ?_
    refine go_aload_n (at_of tX10_init 1 12 rfl) rfl ?_
    refine go_bipush (at_of tX10_init 1 13 rfl) (by decide) ?_
    refine go_newI (a := 115) (n := 8) (by show σ.2.2 + 1 + 1 + 1 + 1 + 1 = _; omega) G_115 (by decide) (inL 165 (by decide +kernel) (by decide +kernel)) ⟨by decide, by decide⟩ (at_of tX10_init 1 14 rfl) ?_
    refine go_putR fp_X10_34 rfl (Or.inr ⟨rfl, rfl, rfl⟩) G_109 (at_of tX10_init 1 15 rfl) ?_
    refine go_aload_n (at_of tX10_init 2 0 rfl) rfl ?_
    refine go_bipush (at_of tX10_init 2 1 rfl) (by decide) ?_
    refine go_newC (a := 116) (n := 9) (by show σ.2.2 + 1 + 1 + 1 + 1 + 1 + 1 = _; omega) G_116 (by decide) (inL 252 (by decide +kernel) (by decide +kernel)) ⟨by decide, by decide⟩ (at_of tX10_init 2 2 rfl) ?_
    refine go_putR fp_X10_37 rfl (Or.inr ⟨rfl, rfl, rfl⟩) G_109 (at_of tX10_init 2 3 rfl) ?_
    refine go_aload_n (at_of tX10_init 2 4 rfl) rfl ?_
    refine go_iconst (at_of tX10_init 2 5 rfl) (by unfold in32; omega) ?_
    refine go_newZ (a := 117) (n := 3) (by show σ.2.2 + 1 + 1 + 1 + 1 + 1 + 1 + 1 = _; omega) G_117 (by decide) (inL 251 (by decide +kernel) (by decide +kernel)) ⟨by decide, by decide⟩ (at_of tX10_init 2 6 rfl) ?_
    refine go_putR fp_X10_41 rfl (Or.inr ⟨rfl, rfl, rfl⟩) G_109 (at_of tX10_init 2 7 rfl) ?_
    refine go_aload_n (at_of tX10_init 2 8 rfl) rfl ?_
    refine go_bipush (at_of tX10_init 2 9 rfl) (by decide) ?_
    refine go_newC (a := 118) (n := 20) (by show σ.2.2 + 1 + 1 + 1 + 1 + 1 + 1 + 1 + 1 = _; omega) G_118 (by decide) (inL 252 (by decide +kernel) (by decide +kernel)) ⟨by decide, by decide⟩ (at_of tX10_init 2 10 rfl) ?_
    refine go_putR fp_X10_44 rfl (Or.inr ⟨rfl, rfl, rfl⟩) G_109 (at_of tX10_init 2 11 rfl) ?_
    refine go_aload_n (at_of tX10_init 2 12 rfl) rfl ?_
    refine go_bipush (at_of tX10_init 2 13 rfl) (by decide) ?_
    refine go_newI (a := 119) (n := 20) (by show σ.2.2 + 1 + 1 + 1 + 1 + 1 + 1 + 1 + 1 + 1 = _; omega) G_119 (by decide) (inL 165 (by decide +kernel) (by decide +kernel)) ⟨by decide, by decide⟩ (at_of tX10_init 2 14 rfl) ?_
    refine go_putR fp_X10_47 rfl (Or.inr ⟨rfl, rfl, rfl⟩) G_109 (at_of tX10_init 2 15 rfl) ?_
    refine go_aload_n (at_of tX10_init 3 0 rfl) rfl ?_
    refine go_bipush (at_of tX10_init 3 1 rfl) (by decide) ?_
    refine go_newZ (a := 120) (n := 20) (by show σ.2.2 + 1 + 1 + 1 + 1 + 1 + 1 + 1 + 1 + 1 + 1 = _; omega) G_120 (by decide) (inL 251 (by decide +kernel) (by decide +kernel)) ⟨by decide, by decide⟩ (at_of tX10_init 3 2 rfl) ?_
    refine go_putR fp_X10_50 rfl (Or.inr ⟨rfl, rfl, rfl⟩) G_109 (at_of tX10_init 3 3 rfl) ?_
    refine go_aload_n (at_of tX10_init 3 4 rfl) rfl ?_
    refine go_bipush (at_of tX10_init 3 5 rfl) (by decide) ?_
    refine go_newI (a := 121) (n := 15) (by show σ.2.2 + 1 + 1 + 1 + 1 + 1 + 1 + 1 + 1 + 1 + 1 + 1 = _; omega) G_121 (by decide) (inL 165 (by decide +kernel) (by decide +kernel)) ⟨by decide, by decide⟩ (at_of tX10_init 3 6 rfl) ?_
    refine go_putR fp_X10_53 rfl (Or.inr ⟨rfl, rfl, rfl⟩) G_109 (at_of tX10_init 3 7 rfl) ?_
    refine go_aload_n (at_of tX10_init 3 8 rfl) rfl ?_
    refine go_bipush (at_of tX10_init 3 9 rfl) (by decide) ?_
    refine go_put1 fp_X10_56 rfl (Or.inl rfl) G_109 (Or.inl rfl) (at_of tX10_init 3 10 rfl) ?_
    refine go_aload_n (at_of tX10_init 3 11 rfl) rfl ?_
    refine go_bipush (at_of tX10_init 3 12 rfl) (by decide) ?_
    refine go_put1 fp_X10_59 rfl (Or.inl rfl) G_109 (Or.inl rfl) (at_of tX10_init 3 13 rfl) ?_
    refine go_aload_n (at_of tX10_init 3 14 rfl) rfl ?_
    refine go_sipush (at_of tX10_init 3 15 rfl) (by decide) ?_
    refine go_newC (a := 122) (n := 200) (by show σ.2.2 + 1 + 1 + 1 + 1 + 1 + 1 + 1 + 1 + 1 + 1 + 1 + 1 = _; omega) G_122 (by decide) (inL 252 (by decide +kernel) (by decide +kernel)) ⟨by decide, by decide⟩ (at_of tX10_init 4 0 rfl) ?_
    refine go_putR fp_X10_62 rfl (Or.inr ⟨rfl, rfl, rfl⟩) G_109 (at_of tX10_init 4 1 rfl) ?_
    refine go_aload_n (at_of tX10_init 4 2 rfl) rfl ?_
    refine go_iconst (at_of tX10_init 4 3 rfl) (by unfold in32; omega) ?_
    refine go_newI (a := 123) (n := 3) (by show σ.2.2 + 1 + 1 + 1 + 1 + 1 + 1 + 1 + 1 + 1 + 1 + 1 + 1 + 1 = _; omega) G_123 (by decide) (inL 165 (by decide +kernel) (by decide +kernel)) ⟨by decide, by decide⟩ (at_of tX10_init 4 4 rfl) ?_
    refine go_putR fp_X10_65 rfl (Or.inr ⟨rfl, rfl, rfl⟩) G_109 (at_of tX10_init 4 5 rfl) ?_
    refine go_aload_n (at_of tX10_init 4 6 rfl) rfl ?_
    refine go_bipush (at_of tX10_init 4 7 rfl) (by decide) ?_
    refine go_newI (a := 124) (n := 20) (by show σ.2.2 + 1 + 1 + 1 + 1 + 1 + 1 + 1 + 1 + 1 + 1 + 1 + 1 + 1 + 1 = _; omega) G_124 (by decide) (inL 165 (by decide +kernel) (by decide +kernel)) ⟨by decide, by decide⟩ (at_of tX10_init 4 8 rfl) ?_
    refine go_putR fp_X10_68 rfl (Or.inr ⟨rfl, rfl, rfl⟩) G_109 (at_of tX10_init 4 9 rfl) ?_
    refine go_aload_n (at_of tX10_init 4 10 rfl) rfl ?_
    refine go_bipush (at_of tX10_init 4 11 rfl) (by decide) ?_
    refine go_newI (a := 125) (n := 20) (by show σ.2.2 + 1 + 1 + 1 + 1 + 1 + 1 + 1 + 1 + 1 + 1 + 1 + 1 + 1 + 1 + 1 = _; omega) G_125 (by decide) (inL 165 (by decide +kernel) (by decide +kernel)) ⟨by decide, by decide⟩ (at_of tX10_init 4 12 rfl) ?_
    refine go_putR fp_X10_71 rfl (Or.inr ⟨rfl, rfl, rfl⟩) G_109 (at_of tX10_init 4 13 rfl) ?_
    refine go_aload_n (at_of tX10_init 4 14 rfl) rfl ?_
    refine go_sipush (at_of tX10_init 4 15 rfl) (by decide) ?_
    refine go_newI (a := 126) (n := 301) (by show σ.2.2 + 1 + 1 + 1 + 1 + 1 + 1 + 1 + 1 + 1 + 1 + 1 + 1 + 1 + 1 + 1 + 1 = _; omega) G_126 (by decide) (inL 165 (by decide +kernel) (by decide +kernel)) ⟨by decide, by decide⟩ (at_of tX10_init 5 0 rfl) ?_
    refine go_putR fp_X10_74 rfl (Or.inr ⟨rfl, rfl, rfl⟩) G_109 (at_of tX10_init 5 1 rfl) ?_
    refine go_aload_n (at_of tX10_init 5 2 rfl) rfl ?_
    refine go_sipush (at_of tX10_init 5 3 rfl) (by decide) ?_
    refine go_newI (a := 127) (n := 301) (by show σ.2.2 + 1 + 1 + 1 + 1 + 1 + 1 + 1 + 1 + 1 + 1 + 1 + 1 + 1 + 1 + 1 + 1 + 1 = _; omega) G_127 (by decide) (inL 165 (by decide +kernel) (by decide +kernel)) ⟨by decide, by decide⟩ (at_of tX10_init 5 4 rfl) ?_
    refine go_putR fp_X10_77 rfl (Or.inr ⟨rfl, rfl, rfl⟩) G_109 (at_of tX10_init 5 5 rfl) ?_
    refine go_aload_n (at_of tX10_init 5 6 rfl) rfl ?_
    refine go_sipush (at_of tX10_init 5 7 rfl) (by decide) ?_
    refine go_newI (a := 128) (n := 301) (by show σ.2.2 + 1 + 1 + 1 + 1 + 1 + 1 + 1 + 1 + 1 + 1 + 1 + 1 + 1 + 1 + 1 + 1 + 1 + 1 = _; omega) G_128 (by decide) (inL 165 (by decide +kernel) (by decide +kernel)) ⟨by decide, by decide⟩ (at_of tX10_init 5 8 rfl) ?_
    refine go_putR fp_X10_80 rfl (Or.inr ⟨rfl, rfl, rfl⟩) G_109 (at_of tX10_init 5 9 rfl) ?_
    refine go_aload_n (at_of tX10_init 5 10 rfl) rfl ?_
    refine go_sipush (at_of tX10_init 5 11 rfl) (by decide) ?_
    refine go_newI (a := 129) (n := 301) (by show σ.2.2 + 1 + 1 + 1 + 1 + 1 + 1 + 1 + 1 + 1 + 1 + 1 + 1 + 1 + 1 + 1 + 1 + 1 + 1 + 1 = _; omega) G_129 (by decide) (inL 165 (by decide +kernel) (by decide +kernel)) ⟨by decide, by decide⟩ (at_of tX10_init 5 12 rfl) ?_
    refine go_putR fp_X10_83 rfl (Or.inr ⟨rfl, rfl, rfl⟩) G_109 (at_of tX10_init 5 13 rfl) ?_
    refine go_aload_n (at_of tX10_init 5 14 rfl) rfl ?_
    refine go_sipush (at_of tX10_init 5 15 rfl) (by decide) ?_
    refine go_newI (a := 130) (n := 301) (by show σ.2.2 + 1 + 1 + 1 + 1 + 1 + 1 + 1 + 1 + 1 + 1 + 1 + 1 + 1 + 1 + 1 + 1 + 1 + 1 + 1 + 1 = _; omega) G_130 (by decide) (inL 165 (by decide +kernel) (by decide +kernel)) ⟨by decide, by decide⟩ (at_of tX10_init 6 0 rfl) ?_
    refine go_putR fp_X10_86 rfl (Or.inr ⟨rfl, rfl, rfl⟩) G_109 (at_of tX10_init 6 1 rfl) ?_
    refine go_aload_n (at_of tX10_init 6 2 rfl) rfl ?_
    refine go_sipush (at_of tX10_init 6 3 rfl) (by decide) ?_
    refine go_newI (a := 131) (n := 3000) (by show σ.2.2 + 1 + 1 + 1 + 1 + 1 + 1 + 1 + 1 + 1 + 1 + 1 + 1 + 1 + 1 + 1 + 1 + 1 + 1 + 1 + 1 + 1 = _; omega) G_131 (by decide) (inL 165 (by decide +kernel) (by decide +kernel)) ⟨by decide, by decide⟩ (at_of tX10_init 6 4 rfl) ?_
    refine go_putR fp_X10_89 rfl (Or.inr ⟨rfl, rfl, rfl⟩) G_109 (at_of tX10_init 6 5 rfl) ?_
    refine go_aload_n (at_of tX10_init 6 6 rfl) rfl ?_
    refine go_sipush (at_of tX10_init 6 7 rfl) (by decide) ?_
    refine go_newZ (a := 132) (n := 3000) (by show σ.2.2 + 1 + 1 + 1 + 1 + 1 + 1 + 1 + 1 + 1 + 1 + 1 + 1 + 1 + 1 + 1 + 1 + 1 + 1 + 1 + 1 + 1 + 1 = _; omega) G_132 (by decide) (inL 251 (by decide +kernel) (by decide +kernel)) ⟨by decide, by decide⟩ (at_of tX10_init 6 8 rfl) ?_
    refine go_putR fp_X10_92 rfl (Or.inr ⟨rfl, rfl, rfl⟩) G_109 (at_of tX10_init 6 9 rfl) ?_
    refine go_aload_n (at_of tX10_init 6 10 rfl) rfl ?_
    refine go_getr (q := 113) fl_X10_27 rfl G_109 (by simp [PR, nxt, P1, M1, updP, upd2]) (at_of tX10_init 6 11 rfl) ?_
    refine go_iconst (at_of tX10_init 6 12 rfl) (by unfold in32; omega) ?_
    refine go_iconst (at_of tX10_init 6 13 rfl) (by unfold in32; omega) ?_
    refine go_iast1 G_113 (by omega) (by omega) (at_of tX10_init 6 14 rfl) ?_
    refine go_iconst (at_of tX10_init 6 15 rfl) (by unfold in32; omega) ?_
    refine go_istore_n (at_of tX10_init 7 0 rfl) rfl rfl ?_
    refine go_iload_n (at_of tX10_init 7 1 rfl) rfl ?_
    refine go_bipush (at_of tX10_init 7 2 rfl) (by decide) ?_
    refine go_icmp_ge (tgt := 248) (at_of tX10_init 7 3 rfl) (by decide) (fun hz_ => ?_) (fun hz_ => ?_)
    · exfalso; omega
    clear hz_
    refine go_aload_n (at_of tX10_init 7 4 rfl) rfl ?_
    refine go_getr (q := 116) fl_X10_37 rfl G_109 (by simp [PR, nxt, P1, M1, updP, upd2]) (at_of tX10_init 7 5 rfl) ?_
    refine go_iload_n (at_of tX10_init 7 6 rfl) rfl ?_
    refine go_bipush (at_of tX10_init 7 7 rfl) (by decide) ?_
    refine go_cast1 G_116 (by omega) (by omega) (by omega) (at_of tX10_init 7 8 rfl) ?_
    refine go_iinc (at_of tX10_init 7 9 rfl) rfl (by unfold in32; omega) rfl rfl ?_
    refine go_goto (tgt := 228) (at_of tX10_init 7 10 rfl) (by decide) ?_
    refine go_iload_n (at_of tX10_init 7 1 rfl) rfl ?_
    refine go_bipush (at_of tX10_init 7 2 rfl) (by decide) ?_
    refine go_icmp_ge (tgt := 248) (at_of tX10_init 7 3 rfl) (by decide) (fun hz_ => ?_) (fun hz_ => ?_)
    · exfalso; omega
    clear hz_
    refine go_aload_n (at_of tX10_init 7 4 rfl) rfl ?_
    refine go_getr (q := 116) fl_X10_37 rfl G_109 (by simp [PR, nxt, P1, M1, updP, upd2]) (at_of tX10_init 7 5 rfl) ?_
    refine go_iload_n (at_of tX10_init 7 6 rfl) rfl ?_
    refine go_bipush (at_of tX10_init 7 7 rfl) (by decide) ?_
    refine go_cast1 G_116 (by omega) (by omega) (by omega) (at_of tX10_init 7 8 rfl) ?_
    refine go_iinc (at_of tX10_init 7 9 rfl) rfl (by unfold in32; omega) rfl rfl ?_
    refine go_goto (tgt := 228) (at_of tX10_init 7 10 rfl) (by decide) ?_
    refine go_iload_n (at_of tX10_init 7 1 rfl) rfl ?_
    refine go_bipush (at_of tX10_init 7 2 rfl) (by decide) ?_
    refine go_icmp_ge (tgt := 248) (at_of tX10_init 7 3 rfl) (by decide) (fun hz_ => ?_) (fun hz_ => ?_)
    · exfalso; omega
    clear hz_
    refine go_aload_n (at_of tX10_init 7 4 rfl) rfl ?_
    refine go_getr (q := 116) fl_X10_37 rfl G_109 (by simp [PR, nxt, P1, M1, updP, upd2]) (at_of tX10_init 7 5 rfl) ?_
    refine go_iload_n (at_of tX10_init 7 6 rfl) rfl ?_
    refine go_bipush (at_of tX10_init 7 7 rfl) (by decide) ?_
    refine go_cast1 G_116 (by omega) (by omega) (by omega) (at_of tX10_init 7 8 rfl) ?_
    refine go_iinc (at_of tX10_init 7 9 rfl) rfl (by unfold in32; omega) rfl rfl ?_
    refine go_goto (tgt := 228) (at_of tX10_init 7 10 rfl) (by decide) ?_
    refine go_iload_n (at_of tX10_init 7 1 rfl) rfl ?_
    refine go_bipush (at_of tX10_init 7 2 rfl) (by decide) ?_
    refine go_icmp_ge (tgt := 248) (at_of tX10_init 7 3 rfl) (by decide) (fun hz_ => ?_) (fun hz_ => ?_)
    · exfalso; omega
    clear hz_
    refine go_aload_n (at_of tX10_init 7 4 rfl) rfl ?_
    refine go_getr (q := 116) fl_X10_37 rfl G_109 (by simp [PR, nxt, P1, M1, updP, upd2]) (at_of tX10_init 7 5 rfl) ?_
    refine go_iload_n (at_of tX10_init 7 6 rfl) rfl ?_
    refine go_bipush (at_of tX10_init 7 7 rfl) (by decide) ?_
    refine go_cast1 G_116 (by omega) (by omega) (by omega) (at_of tX10_init 7 8 rfl) ?_
    refine go_iinc (at_of tX10_init 7 9 rfl) rfl (by unfold in32; omega) rfl rfl ?_
    refine go_goto (tgt := 228) (at_of tX10_init 7 10 rfl) (by decide) ?_
    refine go_iload_n (at_of tX10_init 7 1 rfl) rfl ?_
    refine go_bipush (at_of tX10_init 7 2 rfl) (by decide) ?_
    refine go_icmp_ge (tgt := 248) (at_of tX10_init 7 3 rfl) (by decide) (fun hz_ => ?_) (fun hz_ => ?_)
    · exfalso; omega
    clear hz_
    refine go_aload_n (at_of tX10_init 7 4 rfl) rfl ?_
    refine go_getr (q := 116) fl_X10_37 rfl G_109 (by simp [PR, nxt, P1, M1, updP, upd2]) (at_of tX10_init 7 5 rfl) ?_
    refine go_iload_n (at_of tX10_init 7 6 rfl) rfl ?_
    refine go_bipush (at_of tX10_init 7 7 rfl) (by decide) ?_
    refine go_cast1 G_116 (by omega) (by omega) (by omega) (at_of tX10_init 7 8 rfl) ?_
    refine go_iinc (at_of tX10_init 7 9 rfl) rfl (by unfold in32; omega) rfl rfl ?_
    refine go_goto (tgt := 228) (at_of tX10_init 7 10 rfl) (by decide) ?_
    refine go_iload_n (at_of tX10_init 7 1 rfl) rfl ?_
    refine go_bipush (at_of tX10_init 7 2 rfl) (by decide) ?_
    refine go_icmp_ge (tgt := 248) (at_of tX10_init 7 3 rfl) (by decide) (fun hz_ => ?_) (fun hz_ => ?_)
    · exfalso; omega
    clear hz_
    refine go_aload_n (at_of tX10_init 7 4 rfl) rfl ?_
    refine go_getr (q := 116) fl_X10_37 rfl G_109 (by simp [PR, nxt, P1, M1, updP, upd2]) (at_of tX10_init 7 5 rfl) ?_
    refine go_iload_n (at_of tX10_init 7 6 rfl) rfl ?_
    refine go_bipush (at_of tX10_init 7 7 rfl) (by decide) ?_
    refine go_cast1 G_116 (by omega) (by omega) (by omega) (at_of tX10_init 7 8 rfl) ?_
    refine go_iinc (at_of tX10_init 7 9 rfl) rfl (by unfold in32; omega) rfl rfl ?_
    refine go_goto (tgt := 228) (at_of tX10_init 7 10 rfl) (by decide) ?_
    refine go_iload_n (at_of tX10_init 7 1 rfl) rfl ?_
    refine go_bipush (at_of tX10_init 7 2 rfl) (by decide) ?_
    refine go_icmp_ge (tgt := 248) (at_of tX10_init 7 3 rfl) (by decide) (fun hz_ => ?_) (fun hz_ => ?_)
    · exfalso; omega
    clear hz_
    refine go_aload_n (at_of tX10_init 7 4 rfl) rfl ?_
    refine go_getr (q := 116) fl_X10_37 rfl G_109 (by simp [PR, nxt, P1, M1, updP, upd2]) (at_of tX10_init 7 5 rfl) ?_
    refine go_iload_n (at_of tX10_init 7 6 rfl) rfl ?_
    refine go_bipush (at_of tX10_init 7 7 rfl) (by decide) ?_
    refine go_cast1 G_116 (by omega) (by omega) (by omega) (at_of tX10_init 7 8 rfl) ?_
    refine go_iinc (at_of tX10_init 7 9 rfl) rfl (by unfold in32; omega) rfl rfl ?_
    refine go_goto (tgt := 228) (at_of tX10_init 7 10 rfl) (by decide) ?_
    refine go_iload_n (at_of tX10_init 7 1 rfl) rfl ?_
    refine go_bipush (at_of tX10_init 7 2 rfl) (by decide) ?_
    refine go_icmp_ge (tgt := 248) (at_of tX10_init 7 3 rfl) (by decide) (fun hz_ => ?_) (fun hz_ => ?_)
    · exfalso; omega
    clear hz_
    refine go_aload_n (at_of tX10_init 7 4 rfl) rfl ?_
    refine go_getr (q := 116) fl_X10_37 rfl G_109 (by simp [PR, nxt, P1, M1, updP, upd2]) (at_of tX10_init 7 5 rfl) ?_
    refine go_iload_n (at_of tX10_init 7 6 rfl) rfl ?_
    refine go_bipush (at_of tX10_init 7 7 rfl) (by decide) ?_
    refine go_cast1 G_116 (by omega) (by omega) (by omega) (at_of tX10_init 7 8 rfl) ?_
    refine go_iinc (at_of tX10_init 7 9 rfl) rfl (by unfold in32; omega) rfl rfl ?_
    refine go_goto (tgt := 228) (at_of tX10_init 7 10 rfl) (by decide) ?_
    refine go_iload_n (at_of tX10_init 7 1 rfl) rfl ?_
    refine go_bipush (at_of tX10_init 7 2 rfl) (by decide) ?_
    refine go_icmp_ge (tgt := 248) (at_of tX10_init 7 3 rfl) (by decide) (fun hz_ => ?_) (fun hz_ => ?_)
    · exfalso; omega
    clear hz_
    refine go_aload_n (at_of tX10_init 7 4 rfl) rfl ?_
    refine go_getr (q := 116) fl_X10_37 rfl G_109 (by simp [PR, nxt, P1, M1, updP, upd2]) (at_of tX10_init 7 5 rfl) ?_
    refine go_iload_n (at_of tX10_init 7 6 rfl) rfl ?_
    refine go_bipush (at_of tX10_init 7 7 rfl) (by decide) ?_
    refine go_cast1 G_116 (by omega) (by omega) (by omega) (at_of tX10_init 7 8 rfl) ?_
    refine go_iinc (at_of tX10_init 7 9 rfl) rfl (by unfold in32; omega) rfl rfl ?_
    refine go_goto (tgt := 228) (at_of tX10_init 7 10 rfl) (by decide) ?_
    refine go_iload_n (at_of tX10_init 7 1 rfl) rfl ?_
    refine go_bipush (at_of tX10_init 7 2 rfl) (by decide) ?_
    refine go_icmp_ge (tgt := 248) (at_of tX10_init 7 3 rfl) (by decide) (fun hz_ => ?_) (fun hz_ => ?_)
    rotate_left
    · exfalso; omega
    clear hz_
    refine go_iconst (at_of tX10_init 7 11 rfl) (by unfold in32; omega) ?_
    refine go_istore_n (at_of tX10_init 7 12 rfl) rfl rfl ?_
    refine go_iload_n (at_of tX10_init 7 13 rfl) rfl ?_
    refine go_bipush (at_of tX10_init 7 14 rfl) (by decide) ?_
    refine go_icmp_ge (tgt := 284) (at_of tX10_init 7 15 rfl) (by decide) (fun hz_ => ?_) (fun hz_ => ?_)
    · exfalso; omega
    clear hz_
    refine go_aload_n (at_of tX10_init 8 0 rfl) rfl ?_
    refine go_getr (q := 110) fl_X10_7 rfl G_109 (by simp [PR, nxt, P1, M1, updP, upd2]) (at_of tX10_init 8 1 rfl) ?_
    refine go_sipush (at_of tX10_init 8 2 rfl) (by decide) ?_
    refine go_iload_n (at_of tX10_init 8 3 rfl) rfl ?_
    refine go_iadd (at_of tX10_init 8 4 rfl) (by unfold in32; omega) ?_
    refine go_iconst (at_of tX10_init 8 5 rfl) (by unfold in32; omega) ?_
    refine go_iast1 G_110 (by omega) (by omega) (at_of tX10_init 8 6 rfl) ?_
    refine go_aload_n (at_of tX10_init 8 7 rfl) rfl ?_
    refine go_getr (q := 110) fl_X10_7 rfl G_109 (by simp [PR, nxt, P1, M1, updP, upd2]) (at_of tX10_init 8 8 rfl) ?_
    refine go_sipush (at_of tX10_init 8 9 rfl) (by decide) ?_
    refine go_iload_n (at_of tX10_init 8 10 rfl) rfl ?_
    refine go_iadd (at_of tX10_init 8 11 rfl) (by unfold in32; omega) ?_
    refine go_iconst (at_of tX10_init 8 12 rfl) (by unfold in32; omega) ?_
    refine go_iast1 G_110 (by omega) (by omega) (at_of tX10_init 8 13 rfl) ?_
    refine go_iinc (at_of tX10_init 8 14 rfl) rfl (by unfold in32; omega) rfl rfl ?_
    refine go_goto (tgt := 250) (at_of tX10_init 8 15 rfl) (by decide) ?_
    refine go_iload_n (at_of tX10_init 7 13 rfl) rfl ?_
    refine go_bipush (at_of tX10_init 7 14 rfl) (by decide) ?_
    refine go_icmp_ge (tgt := 284) (at_of tX10_init 7 15 rfl) (by decide) (fun hz_ => ?_) (fun hz_ => ?_)
    · exfalso; omega
    clear hz_
    refine go_aload_n (at_of tX10_init 8 0 rfl) rfl ?_
    refine go_getr (q := 110) fl_X10_7 rfl G_109 (by simp [PR, nxt, P1, M1, updP, upd2]) (at_of tX10_init 8 1 rfl) ?_
    refine go_sipush (at_of tX10_init 8 2 rfl) (by decide) ?_
    refine go_iload_n (at_of tX10_init 8 3 rfl) rfl ?_
    refine go_iadd (at_of tX10_init 8 4 rfl) (by unfold in32; omega) ?_
    refine go_iconst (at_of tX10_init 8 5 rfl) (by unfold in32; omega) ?_
    refine go_iast1 G_110 (by omega) (by omega) (at_of tX10_init 8 6 rfl) ?_
    refine go_aload_n (at_of tX10_init 8 7 rfl) rfl ?_
    refine go_getr (q := 110) fl_X10_7 rfl G_109 (by simp [PR, nxt, P1, M1, updP, upd2]) (at_of tX10_init 8 8 rfl) ?_
    refine go_sipush (at_of tX10_init 8 9 rfl) (by decide) ?_
    refine go_iload_n (at_of tX10_init 8 10 rfl) rfl ?_
    refine go_iadd (at_of tX10_init 8 11 rfl) (by unfold in32; omega) ?_
    refine go_iconst (at_of tX10_init 8 12 rfl) (by unfold in32; omega) ?_
    refine go_iast1 G_110 (by omega) (by omega) (at_of tX10_init 8 13 rfl) ?_
    refine go_iinc (at_of tX10_init 8 14 rfl) rfl (by unfold in32; omega) rfl rfl ?_
    refine go_goto (tgt := 250) (at_of tX10_init 8 15 rfl) (by decide) ?_
    refine go_iload_n (at_of tX10_init 7 13 rfl) rfl ?_
    refine go_bipush (at_of tX10_init 7 14 rfl) (by decide) ?_
    refine go_icmp_ge (tgt := 284) (at_of tX10_init 7 15 rfl) (by decide) (fun hz_ => ?_) (fun hz_ => ?_)
    · exfalso; omega
    clear hz_
    refine go_aload_n (at_of tX10_init 8 0 rfl) rfl ?_
    refine go_getr (q := 110) fl_X10_7 rfl G_109 (by simp [PR, nxt, P1, M1, updP, upd2]) (at_of tX10_init 8 1 rfl) ?_
    refine go_sipush (at_of tX10_init 8 2 rfl) (by decide) ?_
    refine go_iload_n (at_of tX10_init 8 3 rfl) rfl ?_
    refine go_iadd (at_of tX10_init 8 4 rfl) (by unfold in32; omega) ?_
    refine go_iconst (at_of tX10_init 8 5 rfl) (by unfold in32; omega) ?_
    refine go_iast1 G_110 (by omega) (by omega) (at_of tX10_init 8 6 rfl) ?_
    refine go_aload_n (at_of tX10_init 8 7 rfl) rfl ?_
    refine go_getr (q := 110) fl_X10_7 rfl G_109 (by simp [PR, nxt, P1, M1, updP, upd2]) (at_of tX10_init 8 8 rfl) ?_
    refine go_sipush (at_of tX10_init 8 9 rfl) (by decide) ?_
    refine go_iload_n (at_of tX10_init 8 10 rfl) rfl ?_
    refine go_iadd (at_of tX10_init 8 11 rfl) (by unfold in32; omega) ?_
    refine go_iconst (at_of tX10_init 8 12 rfl) (by unfold in32; omega) ?_
    refine go_iast1 G_110 (by omega) (by omega) (at_of tX10_init 8 13 rfl) ?_
    refine go_iinc (at_of tX10_init 8 14 rfl) rfl (by unfold in32; omega) rfl rfl ?_
    refine go_goto (tgt := 250) (at_of tX10_init 8 15 rfl) (by decide) ?_
    refine go_iload_n (at_of tX10_init 7 13 rfl) rfl ?_
    refine go_bipush (at_of tX10_init 7 14 rfl) (by decide) ?_
    refine go_icmp_ge (tgt := 284) (at_of tX10_init 7 15 rfl) (by decide) (fun hz_ => ?_) (fun hz_ => ?_)
    · exfalso; omega
    clear hz_
    refine go_aload_n (at_of tX10_init 8 0 rfl) rfl ?_
    refine go_getr (q := 110) fl_X10_7 rfl G_109 (by simp [PR, nxt, P1, M1, updP, upd2]) (at_of tX10_init 8 1 rfl) ?_
    refine go_sipush (at_of tX10_init 8 2 rfl) (by decide) ?_
    refine go_iload_n (at_of tX10_init 8 3 rfl) rfl ?_
    refine go_iadd (at_of tX10_init 8 4 rfl) (by unfold in32; omega) ?_
    refine go_iconst (at_of tX10_init 8 5 rfl) (by unfold in32; omega) ?_
    refine go_iast1 G_110 (by omega) (by omega) (at_of tX10_init 8 6 rfl) ?_
    refine go_aload_n (at_of tX10_init 8 7 rfl) rfl ?_
    refine go_getr (q := 110) fl_X10_7 rfl G_109 (by simp [PR, nxt, P1, M1, updP, upd2]) (at_of tX10_init 8 8 rfl) ?_
    refine go_sipush (at_of tX10_init 8 9 rfl) (by decide) ?_
    refine go_iload_n (at_of tX10_init 8 10 rfl) rfl ?_
    refine go_iadd (at_of tX10_init 8 11 rfl) (by unfold in32; omega) ?_
    refine go_iconst (at_of tX10_init 8 12 rfl) (by unfold in32; omega) ?_
    refine go_iast1 G_110 (by omega) (by omega) (at_of tX10_init 8 13 rfl) ?_
    refine go_iinc (at_of tX10_init 8 14 rfl) rfl (by unfold in32; omega) rfl rfl ?_
    refine go_goto (tgt := 250) (at_of tX10_init 8 15 rfl) (by decide) ?_
    refine go_iload_n (at_of tX10_init 7 13 rfl) rfl ?_
    refine go_bipush (at_of tX10_init 7 14 rfl) (by decide) ?_
    refine go_icmp_ge (tgt := 284) (at_of tX10_init 7 15 rfl) (by decide) (fun hz_ => ?_) (fun hz_ => ?_)
    · exfalso; omega
    clear hz_
    refine go_aload_n (at_of tX10_init 8 0 rfl) rfl ?_
    refine go_getr (q := 110) fl_X10_7 rfl G_109 (by simp [PR, nxt, P1, M1, updP, upd2]) (at_of tX10_init 8 1 rfl) ?_
    refine go_sipush (at_of tX10_init 8 2 rfl) (by decide) ?_
    refine go_iload_n (at_of tX10_init 8 3 rfl) rfl ?_
    refine go_iadd (at_of tX10_init 8 4 rfl) (by unfold in32; omega) ?_
    refine go_iconst (at_of tX10_init 8 5 rfl) (by unfold in32; omega) ?_
    refine go_iast1 G_110 (by omega) (by omega) (at_of tX10_init 8 6 rfl) ?_
    refine go_aload_n (at_of tX10_init 8 7 rfl) rfl ?_
    refine go_getr (q := 110) fl_X10_7 rfl G_109 (by simp [PR, nxt, P1, M1, updP, upd2]) (at_of tX10_init 8 8 rfl) ?_
    refine go_sipush (at_of tX10_init 8 9 rfl) (by decide) ?_
    refine go_iload_n (at_of tX10_init 8 10 rfl) rfl ?_
    refine go_iadd (at_of tX10_init 8 11 rfl) (by unfold in32; omega) ?_
    refine go_iconst (at_of tX10_init 8 12 rfl) (by unfold in32; omega) ?_
    refine go_iast1 G_110 (by omega) (by omega) (at_of tX10_init 8 13 rfl) ?_
    refine go_iinc (at_of tX10_init 8 14 rfl) rfl (by unfold in32; omega) rfl rfl ?_
    refine go_goto (tgt := 250) (at_of tX10_init 8 15 rfl) (by decide) ?_
    refine go_iload_n (at_of tX10_init 7 13 rfl) rfl ?_
    refine go_bipush (at_of tX10_init 7 14 rfl) (by decide) ?_
    refine go_icmp_ge (tgt := 284) (at_of tX10_init 7 15 rfl) (by decide) (fun hz_ => ?_) (fun hz_ => ?_)
    · exfalso; omega
    clear hz_
    refine go_aload_n (at_of tX10_init 8 0 rfl) rfl ?_
    refine go_getr (q := 110) fl_X10_7 rfl G_109 (by simp [PR, nxt, P1, M1, updP, upd2]) (at_of tX10_init 8 1 rfl) ?_
    refine go_sipush (at_of tX10_init 8 2 rfl) (by decide) ?_
    refine go_iload_n (at_of tX10_init 8 3 rfl) rfl ?_
    refine go_iadd (at_of tX10_init 8 4 rfl) (by unfold in32; omega) ?_
    refine go_iconst (at_of tX10_init 8 5 rfl) (by unfold in32; omega) ?_
    refine go_iast1 G_110 (by omega) (by omega) (at_of tX10_init 8 6 rfl) ?_
    refine go_aload_n (at_of tX10_init 8 7 rfl) rfl ?_
    refine go_getr (q := 110) fl_X10_7 rfl G_109 (by simp [PR, nxt, P1, M1, updP, upd2]) (at_of tX10_init 8 8 rfl) ?_
    refine go_sipush (at_of tX10_init 8 9 rfl) (by decide) ?_
    refine go_iload_n (at_of tX10_init 8 10 rfl) rfl ?_
    refine go_iadd (at_of tX10_init 8 11 rfl) (by unfold in32; omega) ?_
    refine go_iconst (at_of tX10_init 8 12 rfl) (by unfold in32; omega) ?_
    refine go_iast1 G_110 (by omega) (by omega) (at_of tX10_init 8 13 rfl) ?_
    refine go_iinc (at_of tX10_init 8 14 rfl) rfl (by unfold in32; omega) rfl rfl ?_
    refine go_goto (tgt := 250) (at_of tX10_init 8 15 rfl) (by decide) ?_
    refine go_iload_n (at_of tX10_init 7 13 rfl) rfl ?_
    refine go_bipush (at_of tX10_init 7 14 rfl) (by decide) ?_
    refine go_icmp_ge (tgt := 284) (at_of tX10_init 7 15 rfl) (by decide) (fun hz_ => ?_) (fun hz_ => ?_)
    rotate_left
    · exfalso; omega
    clear hz_
    exact mk_tail hSB
  · show σ.2.2 + 1 + 1 + 1 + 1 + 1 + 1 + 1 + 1 + 1 + 1 + 1 + 1 + 1 + 1 + 1 + 1 + 1 + 1 + 1 + 1 + 1 + 1 + 1 = _
    omega
  · rw [M1_f, if_neg (by omega), baS_n (by omega)]
    simp only [PR_1, nxt_1, P1_f, M1_f]
    repeat rw [if_neg (by omega)]
  · exact hB x j (by omega)
  · have hx2 : σ.2.2 + 1 + 1 + 1 + 1 + 1 + 1 + 1 + 1 + 1 + 1 + 1 + 1 + 1 + 1 + 1 + 1 + 1 + 1 + 1 + 1 + 1 + 1 + 1 ≤ x := hx
    rw [M1_f, if_neg (by omega), baS_n (by omega)]
    simp only [PR_1, nxt_1, P1_f, M1_f]
    repeat rw [if_neg (by omega)]
    exact (hz x j (by omega)).1
  · have hx2 : σ.2.2 + 1 + 1 + 1 + 1 + 1 + 1 + 1 + 1 + 1 + 1 + 1 + 1 + 1 + 1 + 1 + 1 + 1 + 1 + 1 + 1 + 1 + 1 + 1 ≤ x := hx
    exact (hB x j (by omega)).trans (hz x j (by omega)).2
  · have e := hz1 x j hx
    have ng : ∀ {z : Int}, ¬ (x = 109 ∧ (j = 6 ∨ j = 7 ∨ j = 19 ∨ j = 20)) → ¬ (x = 110 ∧ (j = 0 ∨ j = 1 ∨ j = 2 ∨ j = 4 ∨ j = 9 ∨ (3193 ≤ j ∧ j < 3205))) → ¬ (x = 113 ∧ j = 0) → ¬ (x = 116 ∧ j < 9) → im x j = 0 := fun {z} a b c d => by
      unfold im
      rw [if_neg (by omega), if_neg (by omega), if_neg (by omega), if_neg (by omega), if_neg (by omega), if_neg (by omega), if_neg (by omega)]
    by_cases y : x = 110
    · subst y
      by_cases y2 : j < 10
      · have hj : j = 0 ∨ j = 1 ∨ j = 2 ∨ j = 3 ∨ j = 4 ∨ j = 5 ∨ j = 6 ∨ j = 7 ∨ j = 8 ∨ j = 9 := by omega
        rw [M1_f]
        rcases hj with rfl | rfl | rfl | rfl | rfl | rfl | rfl | rfl | rfl | rfl
        · rfl
        all_goals (rw [if_neg (by decide), baS_y (by decide)]; rfl)
      · rw [M1_f, if_neg (by omega), baS_o (by omega)]
        by_cases y3 : 3193 ≤ j ∧ j < 3205
        · have hj : j = 3193 ∨ j = 3194 ∨ j = 3195 ∨ j = 3196 ∨ j = 3197 ∨ j = 3198 ∨ j = 3199 ∨ j = 3200 ∨ j = 3201 ∨ j = 3202 ∨ j = 3203 ∨ j = 3204 := by omega
          rcases hj with rfl | rfl | rfl | rfl | rfl | rfl | rfl | rfl | rfl | rfl | rfl | rfl <;> rfl
        · simp only [PR_1, nxt_1, P1_f, M1_f]
          repeat rw [if_neg (by omega)]
          rw [e, ng (z := 0) (by omega) (by omega) (by omega) (by omega)]
    · rw [M1_f, if_neg (fun z => y z.1), baS_n y]
      by_cases y9 : x = 109 ∧ (j = 6 ∨ j = 7 ∨ j = 19 ∨ j = 20)
      · obtain ⟨rfl, hj⟩ := y9
        rcases hj with rfl | rfl | rfl | rfl <;> rfl
      · by_cases y3 : x = 113 ∧ j = 0
        · obtain ⟨rfl, rfl⟩ := y3
          rfl
        · by_cases y4 : x = 116 ∧ j < 9
          · obtain ⟨rfl, y5⟩ := y4
            have hj : j = 0 ∨ j = 1 ∨ j = 2 ∨ j = 3 ∨ j = 4 ∨ j = 5 ∨ j = 6 ∨ j = 7 ∨ j = 8 := by omega
            rcases hj with rfl | rfl | rfl | rfl | rfl | rfl | rfl | rfl | rfl <;> rfl
          · simp only [PR_1, nxt_1, P1_f, M1_f]
            repeat rw [if_neg (by omega)]
            rw [e, ng (z := 0) (by omega) (by omega) (by omega) (by omega)]
end Made3
