/-! The office's layout: pages are filled, and asked. -/
section LayPages
variable {σ : St}
/-- the place of what comes next, counted over all pages; at least so many lines stand on this page -/
def PU (σ : St) (h p lo : Int) : Prop := 0 ≤ σ.1 98 14 ∧ lo ≤ σ.1 98 15 ∧ σ.1 98 15 ≤ h ∧ σ.1 98 14 * h + σ.1 98 15 = p
/-- lines and keeping of paragraphs -/
def LsW (σ : St) (ls kp : Int → Int) (E : Int) : Prop := σ.1 98 12 = E ∧ 1 ≤ E ∧ E ≤ 201 ∧ (∀ q, 0 ≤ q → q ≤ E → σ.1 104 q.toNat = ls q) ∧ ls 0 = 0 ∧ (∀ q, 0 ≤ q → q < E → ls q < ls (q + 1)) ∧ ls E ≤ 800 ∧ ∀ q, 0 ≤ q → q < E → σ.1 105 q.toNat = kp q ∧ (kp q = 0 ∨ kp q = 1)
theorem ls_le {ls : Int → Int} {E q q' : Int} (hf : ∀ q, 0 ≤ q → q < E → ls q < ls (q + 1)) (h0 : 0 ≤ q) (h1 : q ≤ q') (h2 : q' ≤ E) : ls q ≤ ls q' := fs_le (fun q a b => Int.le_of_lt (hf q a b)) h0 h1 h2
theorem tgF_E {kp : Int → Int} {E q : Int} (h : q ≤ E) : q ≤ tgF kp (E - q).toNat q ∧ tgF kp (E - q).toNat q ≤ E := by
  have := tgF_b (kp := kp) (E - q).toNat q
  omega
theorem con_keepsAt (hS : Str σ.2.1) {q : Int} : Con 1 mX1_keepsAt 0 0 [vA 98, vI q] σ (vI (bI (0 ≤ q ∧ q < 202 ∧ σ.1 105 q.toNat ≠ 0)), σ) := by
  by_cases hq : 0 ≤ q ∧ q < 202
  · by_cases hk : σ.1 105 q.toNat = 0
    · rw [bI_f (fun z => z.2.2 hk)]
      refine con_of_go mfX1_keepsAt.1 (Or.inl rfl) (Nat.le_of_ble_eq_true rfl) rfl (by decide) ?_
      show Go _ _ _ _ 0 [vA _, vI _] [] _ _
      refine go_iload_n (at_of tX1_keepsAt 0 0 rfl) rfl ?_
      refine go_sipush (at_of tX1_keepsAt 0 1 rfl) (by decide) ?_
      refine go_cN (con_isWithin) lk_X1_111 rfl (at_of tX1_keepsAt 0 2 rfl) rfl (by decide) rfl (Nat.le_of_ble_eq_true rfl) rfl (by first | decide | exact ⟨Nat.zero_le _, Nat.zero_le _⟩) ?_
      refine go_if_eq (tgt := 23) (at_of tX1_keepsAt 0 3 rfl) (by decide) (fun h7 => ?_) (fun h7 => ?_)
      · exfalso; exact bI_0.mp h7 hq
      refine go_aload_n (at_of tX1_keepsAt 0 4 rfl) rfl ?_
      refine go_getr (q := 105) fl_X1_38 rfl G_98 ((hS _ _ rfl).trans rfl) (at_of tX1_keepsAt 0 5 rfl) ?_
      refine go_iload_n (at_of tX1_keepsAt 0 6 rfl) rfl ?_
      refine go_bald G_105 (by omega) (by omega) (at_of tX1_keepsAt 0 7 rfl) ?_
      refine go_if_eq (tgt := 23) (at_of tX1_keepsAt 0 8 rfl) (by decide) (fun h16 => ?_) (fun h16 => ?_)
      rotate_left
      · exfalso; exact h16 hk
      refine go_iconst (at_of tX1_keepsAt 0 11 rfl) (by unfold in32; omega) ?_
      first | exact go_reti (at_of tX1_keepsAt 0 12 rfl) rfl | exact go_reti (at_of tX1_keepsAt 0 12 rfl) (le_i (by omega)) | exact go_reti (at_of tX1_keepsAt 0 12 rfl) (le_i (by first | exact bI_t (by omega) | exact bI_f (by omega)))
    · rw [bI_t ⟨hq.1, hq.2, hk⟩]
      refine con_of_go mfX1_keepsAt.1 (Or.inr rfl) (Nat.le_of_ble_eq_true rfl) rfl (by decide) ?_
      show Go _ _ _ _ 0 [vA _, vI _] [] _ _
      refine go_iload_n (at_of tX1_keepsAt 0 0 rfl) rfl ?_
      refine go_sipush (at_of tX1_keepsAt 0 1 rfl) (by decide) ?_
      refine go_cN (con_isWithin) lk_X1_111 rfl (at_of tX1_keepsAt 0 2 rfl) rfl (by decide) rfl (Nat.le_of_ble_eq_true rfl) rfl (by first | decide | exact ⟨Nat.zero_le _, Nat.zero_le _⟩) ?_
      refine go_if_eq (tgt := 23) (at_of tX1_keepsAt 0 3 rfl) (by decide) (fun h7 => ?_) (fun h7 => ?_)
      · exfalso; exact bI_0.mp h7 hq
      refine go_aload_n (at_of tX1_keepsAt 0 4 rfl) rfl ?_
      refine go_getr (q := 105) fl_X1_38 rfl G_98 ((hS _ _ rfl).trans rfl) (at_of tX1_keepsAt 0 5 rfl) ?_
      refine go_iload_n (at_of tX1_keepsAt 0 6 rfl) rfl ?_
      refine go_bald G_105 (by omega) (by omega) (at_of tX1_keepsAt 0 7 rfl) ?_
      refine go_if_eq (tgt := 23) (at_of tX1_keepsAt 0 8 rfl) (by decide) (fun h16 => ?_) (fun h16 => ?_)
      · exfalso; exact hk h16
      refine go_iconst (at_of tX1_keepsAt 0 9 rfl) (by unfold in32; omega) ?_
      refine go_goto (tgt := 24) (at_of tX1_keepsAt 0 10 rfl) (by decide) ?_
      first | exact go_reti (at_of tX1_keepsAt 0 12 rfl) rfl | exact go_reti (at_of tX1_keepsAt 0 12 rfl) (le_i (by omega)) | exact go_reti (at_of tX1_keepsAt 0 12 rfl) (le_i (by first | exact bI_t (by omega) | exact bI_f (by omega)))
  · rw [bI_f (fun z => hq ⟨z.1, z.2.1⟩)]
    refine con_of_go mfX1_keepsAt.1 (Or.inl rfl) (Nat.le_of_ble_eq_true rfl) rfl (by decide) ?_
    show Go _ _ _ _ 0 [vA _, vI _] [] _ _
    refine go_iload_n (at_of tX1_keepsAt 0 0 rfl) rfl ?_
    refine go_sipush (at_of tX1_keepsAt 0 1 rfl) (by decide) ?_
    refine go_cN (con_isWithin) lk_X1_111 rfl (at_of tX1_keepsAt 0 2 rfl) rfl (by decide) rfl (Nat.le_of_ble_eq_true rfl) rfl (by first | decide | exact ⟨Nat.zero_le _, Nat.zero_le _⟩) ?_
    refine go_if_eq (tgt := 23) (at_of tX1_keepsAt 0 3 rfl) (by decide) (fun h7 => ?_) (fun h7 => ?_)
    rotate_left
    · exfalso; exact hq (bI_1.mp h7)
    refine go_iconst (at_of tX1_keepsAt 0 11 rfl) (by unfold in32; omega) ?_
    first | exact go_reti (at_of tX1_keepsAt 0 12 rfl) rfl | exact go_reti (at_of tX1_keepsAt 0 12 rfl) (le_i (by omega)) | exact go_reti (at_of tX1_keepsAt 0 12 rfl) (le_i (by first | exact bI_t (by omega) | exact bI_f (by omega)))
theorem con_linesTogether (hS : Str σ.2.1) {ls kp : Int → Int} {E : Int} (hL : LsW σ ls kp E) {f : Int} (hf : 0 ≤ f ∧ f < E) : Con 2 mX1_linesTogether 0 0 [vA 98, vI f] σ (vI (togF ls kp E f), σ) := by
  obtain ⟨k1, k2, k3, k4, k5, k6, k7, k8⟩ := hL
  have tE := tgF_E (kp := kp) (E := E) (q := f) (by omega)
  have l1 := ls_le k6 (q := f) (q' := tgF kp (E - f).toNat f) hf.1 tE.1 tE.2
  have l2 := ls_le k6 (q := 0) (q' := f) (by omega) hf.1 (by omega)
  have l3 := ls_le k6 (q := tgF kp (E - f).toNat f) (q' := E) (by omega) tE.2 (by omega)
  have c1 := k4 f hf.1 (by omega)
  have c2 := k4 (tgF kp (E - f).toNat f) (by omega) tE.2
  have key : ∀ (m : Nat) (b : Nat × Nat) (q : Int) (out : MV × St), 0 ≤ q → q + m = E → (∀ b, Go (fun _ => 0) 2 mX1_linesTogether b 29 [vA 98, vI f, vI (tgF kp m q), vI (tgF kp m q)] [] σ out) → Go (fun _ => 0) 2 mX1_linesTogether b 4 [vA 98, vI f, vI q, vI q] [] σ out := by
    intro m
    induction m with
    | zero =>
      intro b q out h0 h1 K
      refine go_iload_n (at_of tX1_linesTogether 0 4 rfl) rfl ?_
      refine go_aload_n (at_of tX1_linesTogether 0 5 rfl) rfl ?_
      refine go_getf fl_X1_50 rfl G_98 (at_of tX1_linesTogether 0 6 rfl) ?_
      refine go_icmp_ge (tgt := 29) (at_of tX1_linesTogether 0 7 rfl) (by decide) (fun h9 => ?_) (fun h9 => ?_)
      rotate_left
      · exfalso; omega
      exact K _
    | succ m ih =>
      intro b q out h0 h1 K
      rw [tgF] at K
      have k9 := k8 q h0 (by omega)
      by_cases hk : kp q = 1
      · rw [if_pos hk] at K
        refine go_iload_n (at_of tX1_linesTogether 0 4 rfl) rfl ?_
        refine go_aload_n (at_of tX1_linesTogether 0 5 rfl) rfl ?_
        refine go_getf fl_X1_50 rfl G_98 (at_of tX1_linesTogether 0 6 rfl) ?_
        refine go_icmp_ge (tgt := 29) (at_of tX1_linesTogether 0 7 rfl) (by decide) (fun h9 => ?_) (fun h9 => ?_)
        · exfalso; omega
        refine go_aload_n (at_of tX1_linesTogether 0 8 rfl) rfl ?_
        refine go_iload_n (at_of tX1_linesTogether 0 9 rfl) rfl ?_
        refine go_cV (con_keepsAt hS) lk_X1_125 rfl G_98 (at_of tX1_linesTogether 0 10 rfl) rfl (by decide) rfl (Nat.le_of_ble_eq_true rfl) rfl (by first | decide | exact ⟨Nat.zero_le _, Nat.zero_le _⟩) ?_
        refine go_if_eq (tgt := 29) (at_of tX1_linesTogether 0 11 rfl) (by decide) (fun h17 => ?_) (fun h17 => ?_)
        · exfalso; exact bI_0.mp h17 ⟨h0, by omega, by omega⟩
        refine go_iinc (at_of tX1_linesTogether 0 12 rfl) rfl (by unfold in32; omega) rfl rfl ?_
        refine go_iinc (at_of tX1_linesTogether 0 13 rfl) rfl (by unfold in32; omega) rfl rfl ?_
        refine go_goto (tgt := 4) (at_of tX1_linesTogether 0 14 rfl) (by decide) ?_
        exact ih _ _ _ (by omega) (by omega) K
      · rw [if_neg hk] at K
        refine go_iload_n (at_of tX1_linesTogether 0 4 rfl) rfl ?_
        refine go_aload_n (at_of tX1_linesTogether 0 5 rfl) rfl ?_
        refine go_getf fl_X1_50 rfl G_98 (at_of tX1_linesTogether 0 6 rfl) ?_
        refine go_icmp_ge (tgt := 29) (at_of tX1_linesTogether 0 7 rfl) (by decide) (fun h9 => ?_) (fun h9 => ?_)
        · exfalso; omega
        refine go_aload_n (at_of tX1_linesTogether 0 8 rfl) rfl ?_
        refine go_iload_n (at_of tX1_linesTogether 0 9 rfl) rfl ?_
        refine go_cV (con_keepsAt hS) lk_X1_125 rfl G_98 (at_of tX1_linesTogether 0 10 rfl) rfl (by decide) rfl (Nat.le_of_ble_eq_true rfl) rfl (by first | decide | exact ⟨Nat.zero_le _, Nat.zero_le _⟩) ?_
        refine go_if_eq (tgt := 29) (at_of tX1_linesTogether 0 11 rfl) (by decide) (fun h17 => ?_) (fun h17 => ?_)
        rotate_left
        · exfalso; exact (bI_1.mp h17).2.2 (by omega)
        exact K _
  obtain ⟨x, hx⟩ : ∃ x, x = tgF kp (E - f).toNat f := ⟨_, rfl⟩
  unfold togF
  rw [← hx] at l1 l3 c2 tE ⊢
  refine con_of_go mfX1_linesTogether.1 trivial (Nat.le_of_ble_eq_true rfl) rfl (by decide) ?_
  show Go _ _ _ _ 0 [vA _, vI _, vT 9 0, vT 9 0] [] _ _
  refine go_iload_n (at_of tX1_linesTogether 0 0 rfl) rfl ?_
  refine go_istore_n (at_of tX1_linesTogether 0 1 rfl) rfl rfl ?_
  refine go_iload_n (at_of tX1_linesTogether 0 2 rfl) rfl ?_
  refine go_istore_n (at_of tX1_linesTogether 0 3 rfl) rfl rfl ?_
  refine key (E - f).toNat _ f _ hf.1 (by omega) (fun b => ?_)
  rw [← hx]
  refine go_aload_n (at_of tX1_linesTogether 0 15 rfl) rfl ?_
  refine go_getr (q := 104) fl_X1_35 rfl G_98 ((hS _ _ rfl).trans rfl) (at_of tX1_linesTogether 1 0 rfl) ?_
  refine go_iload_n (at_of tX1_linesTogether 1 1 rfl) rfl ?_
  refine go_cN (con_cell G_104 (by omega) (by omega)) lk_X1_76 rfl (at_of tX1_linesTogether 1 2 rfl) rfl (by decide) rfl (Nat.le_of_ble_eq_true rfl) rfl (by first | decide | exact ⟨Nat.zero_le _, Nat.zero_le _⟩) ?_
  rw [c2]
  refine go_aload_n (at_of tX1_linesTogether 1 3 rfl) rfl ?_
  refine go_getr (q := 104) fl_X1_35 rfl G_98 ((hS _ _ rfl).trans rfl) (at_of tX1_linesTogether 1 4 rfl) ?_
  refine go_iload_n (at_of tX1_linesTogether 1 5 rfl) rfl ?_
  refine go_cN (con_cell G_104 (by omega) (by omega)) lk_X1_76 rfl (at_of tX1_linesTogether 1 6 rfl) rfl (by decide) rfl (Nat.le_of_ble_eq_true rfl) rfl (by first | decide | exact ⟨Nat.zero_le _, Nat.zero_le _⟩) ?_
  rw [c1]
  refine go_isub (at_of tX1_linesTogether 1 7 rfl) (by unfold in32; omega) ?_
  refine go_istore_n (at_of tX1_linesTogether 1 8 rfl) rfl rfl ?_
  refine go_iload_n (at_of tX1_linesTogether 1 9 rfl) rfl ?_
  refine go_aload_n (at_of tX1_linesTogether 1 10 rfl) rfl ?_
  refine go_getf fl_X1_50 rfl G_98 (at_of tX1_linesTogether 1 11 rfl) ?_
  refine go_icmp_ge (tgt := 61) (at_of tX1_linesTogether 1 12 rfl) (by decide) (fun h52 => ?_) (fun h52 => ?_)
  · refine go_iload_n (at_of tX1_linesTogether 2 1 rfl) rfl ?_
    exact go_reti (at_of tX1_linesTogether 2 2 rfl) (le_i (by first | (rw [if_pos (by omega)]) | (rw [if_neg (by omega), Int.add_zero])))
  · refine go_iload_n (at_of tX1_linesTogether 1 13 rfl) rfl ?_
    refine go_iconst (at_of tX1_linesTogether 1 14 rfl) (by unfold in32; omega) ?_
    refine go_iadd (at_of tX1_linesTogether 1 15 rfl) (by unfold in32; omega) ?_
    refine go_goto (tgt := 62) (at_of tX1_linesTogether 2 0 rfl) (by decide) ?_
    exact go_reti (at_of tX1_linesTogether 2 2 rfl) (le_i (by first | (rw [if_pos (by omega)]) | (rw [if_neg (by omega), Int.add_zero])))
theorem con_turnPageFor (hS : Str σ.2.1) (hW : WH σ) {p t : Int} (hP : PU σ (σ.1 98 1) p 0) (hp : σ.1 98 14 ≤ 2000) : ∃ σ', Con 0 mX1_turnPageFor 0 0 [vA 98, vI t] σ (vT 8 0, σ') ∧ σ'.2 = σ.2 ∧ (∀ x j : Nat, ¬ (x = 98 ∧ (j = 14 ∨ j = 15)) → σ'.1 x j = σ.1 x j) ∧ PU σ' (σ.1 98 1) (mvP (σ.1 98 1) p t) 0 ∧ σ'.1 98 14 ≤ σ.1 98 14 + 1 := by
  obtain ⟨hw1, hw2, hw3, hw4⟩ := hW
  obtain ⟨u1, u2, u3, u4⟩ := hP
  have dv : (σ.1 98 15 < σ.1 98 1 → p / σ.1 98 1 = σ.1 98 14 ∧ p % σ.1 98 1 = σ.1 98 15) ∧ (σ.1 98 15 = σ.1 98 1 → p % σ.1 98 1 = 0) := by
    refine ⟨fun q => ?_, fun q => ?_⟩
    · rw [← u4]; exact pu_div u2 q
    · rw [← u4, q]; exact (pu_full (by omega)).2
  have e1 : (σ.1 98 14 + 1) * σ.1 98 1 = σ.1 98 14 * σ.1 98 1 + σ.1 98 1 := by rw [Int.add_mul, Int.one_mul]
  unfold mvP
  by_cases hc : σ.1 98 1 < p % σ.1 98 1 + t ∧ t ≤ σ.1 98 1
  · rw [if_pos hc]
    have hlt : σ.1 98 15 < σ.1 98 1 := by
      rcases Int.lt_or_eq_of_le u3 with q | q
      · exact q
      · have := dv.2 q; omega
    have dv1 := dv.1 hlt
    refine ⟨P1 (P1 σ 98 14 (σ.1 98 14 + 1)) 98 15 0, ?_, rfl, fun x j z => ?_, ⟨?_, ?_, ?_, ?_⟩, ?_⟩
    · skip
      refine con_of_go mfX1_turnPageFor.1 trivial (Nat.le_of_ble_eq_true rfl) rfl (by decide) ?_
      show Go _ _ _ _ 0 [vA _, vI _, vT 9 0] [] _ _
      refine go_aload_n (at_of tX1_turnPageFor 0 0 rfl) rfl ?_
      refine go_getf fl_X1_59 rfl G_98 (at_of tX1_turnPageFor 0 1 rfl) ?_
      refine go_aload_n (at_of tX1_turnPageFor 0 2 rfl) rfl ?_
      refine go_getf fl_X1_15 rfl G_98 (at_of tX1_turnPageFor 0 3 rfl) ?_
      refine go_icmp_lt (tgt := 18) (at_of tX1_turnPageFor 0 4 rfl) (by decide) (fun h8 => ?_) (fun h8 => ?_)
      rotate_left
      · exfalso; omega
      refine go_aload_n (at_of tX1_turnPageFor 0 8 rfl) rfl ?_
      refine go_getf fl_X1_15 rfl G_98 (at_of tX1_turnPageFor 0 9 rfl) ?_
      refine go_aload_n (at_of tX1_turnPageFor 0 10 rfl) rfl ?_
      refine go_getf fl_X1_59 rfl G_98 (at_of tX1_turnPageFor 0 11 rfl) ?_
      refine go_isub (at_of tX1_turnPageFor 0 12 rfl) (by unfold in32; omega) ?_
      refine go_istore_n (at_of tX1_turnPageFor 0 13 rfl) rfl rfl ?_
      refine go_iload_n (at_of tX1_turnPageFor 0 14 rfl) rfl ?_
      refine go_iload_n (at_of tX1_turnPageFor 0 15 rfl) rfl ?_
      refine go_icmp_le (tgt := 56) (at_of tX1_turnPageFor 1 0 rfl) (by decide) (fun h30 => ?_) (fun h30 => ?_)
      · exfalso; omega
      refine go_iload_n (at_of tX1_turnPageFor 1 1 rfl) rfl ?_
      refine go_aload_n (at_of tX1_turnPageFor 1 2 rfl) rfl ?_
      refine go_getf fl_X1_15 rfl G_98 (at_of tX1_turnPageFor 1 3 rfl) ?_
      refine go_icmp_gt (tgt := 56) (at_of tX1_turnPageFor 1 4 rfl) (by decide) (fun h38 => ?_) (fun h38 => ?_)
      · exfalso; omega
      refine go_aload_n (at_of tX1_turnPageFor 1 5 rfl) rfl ?_
      refine go_dup (at_of tX1_turnPageFor 1 6 rfl) rfl ?_
      refine go_getf fl_X1_56 rfl G_98 (at_of tX1_turnPageFor 1 7 rfl) ?_
      refine go_iconst (at_of tX1_turnPageFor 1 8 rfl) (by unfold in32; omega) ?_
      refine go_iadd (at_of tX1_turnPageFor 1 9 rfl) (by unfold in32; omega) ?_
      refine go_put1 fp_X1_56 rfl (Or.inl rfl) G_98 (Or.inl rfl) (at_of tX1_turnPageFor 1 10 rfl) ?_
      refine go_aload_n (at_of tX1_turnPageFor 1 11 rfl) rfl ?_
      refine go_iconst (at_of tX1_turnPageFor 1 12 rfl) (by unfold in32; omega) ?_
      refine go_put1 fp_X1_59 rfl (Or.inl rfl) G_98 (Or.inl rfl) (at_of tX1_turnPageFor 1 13 rfl) ?_
      exact go_retv (at_of tX1_turnPageFor 1 14 rfl) rfl
    · by_cases hx : x = 98
      · rw [P1_nj (by omega), P1_nj (by omega)]
      · rw [P1_ne hx, P1_ne hx]
    · rw [P1_nj (by omega), P1_eq]; omega
    · rw [P1_eq]; omega
    · rw [P1_eq]; omega
    · rw [P1_eq, P1_nj (by omega), P1_eq, e1, dv1.1, Int.add_zero]
    · rw [P1_nj (by omega), P1_eq]; omega
  · rw [if_neg hc]
    refine ⟨σ, ?_, rfl, fun x j z => rfl, ⟨u1, u2, u3, u4⟩, by omega⟩
    rcases Int.lt_or_eq_of_le u3 with q | q
    · have dv1 := dv.1 q
      refine con_of_go mfX1_turnPageFor.1 trivial (Nat.le_of_ble_eq_true rfl) rfl (by decide) ?_
      show Go _ _ _ _ 0 [vA _, vI _, vT 9 0] [] _ _
      refine go_aload_n (at_of tX1_turnPageFor 0 0 rfl) rfl ?_
      refine go_getf fl_X1_59 rfl G_98 (at_of tX1_turnPageFor 0 1 rfl) ?_
      refine go_aload_n (at_of tX1_turnPageFor 0 2 rfl) rfl ?_
      refine go_getf fl_X1_15 rfl G_98 (at_of tX1_turnPageFor 0 3 rfl) ?_
      refine go_icmp_lt (tgt := 18) (at_of tX1_turnPageFor 0 4 rfl) (by decide) (fun h8 => ?_) (fun h8 => ?_)
      rotate_left
      · exfalso; omega
      refine go_aload_n (at_of tX1_turnPageFor 0 8 rfl) rfl ?_
      refine go_getf fl_X1_15 rfl G_98 (at_of tX1_turnPageFor 0 9 rfl) ?_
      refine go_aload_n (at_of tX1_turnPageFor 0 10 rfl) rfl ?_
      refine go_getf fl_X1_59 rfl G_98 (at_of tX1_turnPageFor 0 11 rfl) ?_
      refine go_isub (at_of tX1_turnPageFor 0 12 rfl) (by unfold in32; omega) ?_
      refine go_istore_n (at_of tX1_turnPageFor 0 13 rfl) rfl rfl ?_
      refine go_iload_n (at_of tX1_turnPageFor 0 14 rfl) rfl ?_
      refine go_iload_n (at_of tX1_turnPageFor 0 15 rfl) rfl ?_
      refine go_icmp_le (tgt := 56) (at_of tX1_turnPageFor 1 0 rfl) (by decide) (fun h30 => ?_) (fun h30 => ?_)
      · first
        | exfalso; omega
        | exact go_retv (at_of tX1_turnPageFor 1 14 rfl) rfl
      · first
        | exfalso; omega
        | refine go_iload_n (at_of tX1_turnPageFor 1 1 rfl) rfl ?_
          refine go_aload_n (at_of tX1_turnPageFor 1 2 rfl) rfl ?_
          refine go_getf fl_X1_15 rfl G_98 (at_of tX1_turnPageFor 1 3 rfl) ?_
          refine go_icmp_gt (tgt := 56) (at_of tX1_turnPageFor 1 4 rfl) (by decide) (fun h38 => ?_) (fun h38 => ?_)
          · first
            | exfalso; omega
            | exact go_retv (at_of tX1_turnPageFor 1 14 rfl) rfl
          · first
            | exfalso; omega
            | refine go_aload_n (at_of tX1_turnPageFor 1 5 rfl) rfl ?_
              refine go_dup (at_of tX1_turnPageFor 1 6 rfl) rfl ?_
              refine go_getf fl_X1_56 rfl G_98 (at_of tX1_turnPageFor 1 7 rfl) ?_
              refine go_iconst (at_of tX1_turnPageFor 1 8 rfl) (by unfold in32; omega) ?_
              refine go_iadd (at_of tX1_turnPageFor 1 9 rfl) (by unfold in32; omega) ?_
              refine go_put1 fp_X1_56 rfl (Or.inl rfl) G_98 (Or.inl rfl) (at_of tX1_turnPageFor 1 10 rfl) ?_
              refine go_aload_n (at_of tX1_turnPageFor 1 11 rfl) rfl ?_
              refine go_iconst (at_of tX1_turnPageFor 1 12 rfl) (by unfold in32; omega) ?_
              refine go_put1 fp_X1_59 rfl (Or.inl rfl) G_98 (Or.inl rfl) (at_of tX1_turnPageFor 1 13 rfl) ?_
              exact go_retv (at_of tX1_turnPageFor 1 14 rfl) rfl
    · have dv1 := dv.2 q
      refine con_of_go mfX1_turnPageFor.1 trivial (Nat.le_of_ble_eq_true rfl) rfl (by decide) ?_
      show Go _ _ _ _ 0 [vA _, vI _, vT 9 0] [] _ _
      refine go_aload_n (at_of tX1_turnPageFor 0 0 rfl) rfl ?_
      refine go_getf fl_X1_59 rfl G_98 (at_of tX1_turnPageFor 0 1 rfl) ?_
      refine go_aload_n (at_of tX1_turnPageFor 0 2 rfl) rfl ?_
      refine go_getf fl_X1_15 rfl G_98 (at_of tX1_turnPageFor 0 3 rfl) ?_
      refine go_icmp_lt (tgt := 18) (at_of tX1_turnPageFor 0 4 rfl) (by decide) (fun h8 => ?_) (fun h8 => ?_)
      · exfalso; omega
      refine go_aload_n (at_of tX1_turnPageFor 0 5 rfl) rfl ?_
      refine go_getf fl_X1_15 rfl G_98 (at_of tX1_turnPageFor 0 6 rfl) ?_
      refine go_goto (tgt := 27) (at_of tX1_turnPageFor 0 7 rfl) (by decide) ?_
      refine go_istore_n (at_of tX1_turnPageFor 0 13 rfl) rfl rfl ?_
      refine go_iload_n (at_of tX1_turnPageFor 0 14 rfl) rfl ?_
      refine go_iload_n (at_of tX1_turnPageFor 0 15 rfl) rfl ?_
      refine go_icmp_le (tgt := 56) (at_of tX1_turnPageFor 1 0 rfl) (by decide) (fun h30 => ?_) (fun h30 => ?_)
      · first
        | exfalso; omega
        | exact go_retv (at_of tX1_turnPageFor 1 14 rfl) rfl
      · first
        | exfalso; omega
        | refine go_iload_n (at_of tX1_turnPageFor 1 1 rfl) rfl ?_
          refine go_aload_n (at_of tX1_turnPageFor 1 2 rfl) rfl ?_
          refine go_getf fl_X1_15 rfl G_98 (at_of tX1_turnPageFor 1 3 rfl) ?_
          refine go_icmp_gt (tgt := 56) (at_of tX1_turnPageFor 1 4 rfl) (by decide) (fun h38 => ?_) (fun h38 => ?_)
          · first
            | exfalso; omega
            | exact go_retv (at_of tX1_turnPageFor 1 14 rfl) rfl
          · first
            | exfalso; omega
            | refine go_aload_n (at_of tX1_turnPageFor 1 5 rfl) rfl ?_
              refine go_dup (at_of tX1_turnPageFor 1 6 rfl) rfl ?_
              refine go_getf fl_X1_56 rfl G_98 (at_of tX1_turnPageFor 1 7 rfl) ?_
              refine go_iconst (at_of tX1_turnPageFor 1 8 rfl) (by unfold in32; omega) ?_
              refine go_iadd (at_of tX1_turnPageFor 1 9 rfl) (by unfold in32; omega) ?_
              refine go_put1 fp_X1_56 rfl (Or.inl rfl) G_98 (Or.inl rfl) (at_of tX1_turnPageFor 1 10 rfl) ?_
              refine go_aload_n (at_of tX1_turnPageFor 1 11 rfl) rfl ?_
              refine go_iconst (at_of tX1_turnPageFor 1 12 rfl) (by unfold in32; omega) ?_
              refine go_put1 fp_X1_59 rfl (Or.inl rfl) G_98 (Or.inl rfl) (at_of tX1_turnPageFor 1 13 rfl) ?_
              exact go_retv (at_of tX1_turnPageFor 1 14 rfl) rfl
theorem con_placeLine (hS : Str σ.2.1) (hW : WH σ) {p l : Int} (hP : PU σ (σ.1 98 1) p 0) (hp : σ.1 98 14 ≤ 2000) (hl : 0 ≤ l ∧ l < 1024) : ∃ σ', Con 1 mX1_placeLine 0 0 [vA 98, vI l] σ (vT 8 0, σ') ∧ σ'.2 = σ.2 ∧ (∀ x j : Nat, ¬ (x = 106 ∨ x = 107 ∨ (x = 98 ∧ (j = 14 ∨ j = 15))) → σ'.1 x j = σ.1 x j) ∧ PU σ' (σ.1 98 1) (p + 1) 1 ∧ σ'.1 98 14 ≤ σ.1 98 14 + 1 ∧
  σ'.1 106 l.toNat = p / σ.1 98 1 ∧ σ'.1 107 l.toNat = p % σ.1 98 1 ∧ ∀ j : Nat, j ≠ l.toNat → σ'.1 106 j = σ.1 106 j ∧ σ'.1 107 j = σ.1 107 j := by
  obtain ⟨hw1, hw2, hw3, hw4⟩ := hW
  obtain ⟨u1, u2, u3, u4⟩ := hP
  have fin : ∀ (g u : Int) (σ1 : St), σ1.2 = σ.2 → (∀ x j : Nat, ¬ (x = 98 ∧ (j = 14 ∨ j = 15)) → σ1.1 x j = σ.1 x j) → σ1.1 98 14 = g → σ1.1 98 15 = u → 0 ≤ g → g ≤ σ.1 98 14 + 1 → 0 ≤ u → u < σ.1 98 1 → g * σ.1 98 1 + u = p →
      ∃ σ', σ' = P1 (M1 (M1 σ1 106 l g) 107 l u) 98 15 (u + 1) ∧ σ'.2 = σ.2 ∧ (∀ x j : Nat, ¬ (x = 106 ∨ x = 107 ∨ (x = 98 ∧ (j = 14 ∨ j = 15))) → σ'.1 x j = σ.1 x j) ∧ PU σ' (σ.1 98 1) (p + 1) 1 ∧ σ'.1 98 14 ≤ σ.1 98 14 + 1 ∧
      σ'.1 106 l.toNat = p / σ.1 98 1 ∧ σ'.1 107 l.toNat = p % σ.1 98 1 ∧ ∀ j : Nat, j ≠ l.toNat → σ'.1 106 j = σ.1 106 j ∧ σ'.1 107 j = σ.1 107 j := by
    intro g u σ1 z1 z2 z3 z4 z5 z6 z7 z8 z9
    have dv := pu_div (g := g) (h := σ.1 98 1) z7 z8
    rw [z9] at dv
    refine ⟨_, rfl, z1, fun x j q => ?_, ⟨?_, ?_, ?_, ?_⟩, ?_, ?_, ?_, fun j q => ⟨?_, ?_⟩⟩
    · by_cases hx : x = 98
      · rw [P1_nj (by omega), M1_ne (by omega), M1_ne (by omega)]; exact z2 x j (by omega)
      · rw [P1_ne hx, M1_ne (by omega), M1_ne (by omega)]; exact z2 x j (by omega)
    · rw [P1_nj (by omega), M1_ne (by omega), M1_ne (by omega), z3]; exact z5
    · rw [P1_eq]; omega
    · rw [P1_eq]; omega
    · rw [P1_eq, P1_nj (by omega), M1_ne (by omega), M1_ne (by omega), z3]; omega
    · rw [P1_nj (by omega), M1_ne (by omega), M1_ne (by omega), z3]; exact z6
    · rw [P1_ne (by omega), M1_ne (by omega), M1_eq rfl, dv.1]
    · rw [P1_ne (by omega), M1_eq rfl, dv.2]
    · rw [P1_ne (by omega), M1_ne (by omega), M1_nj q]; exact z2 _ _ (by omega)
    · rw [P1_ne (by omega), M1_nj q, M1_ne (by omega)]; exact z2 _ _ (by omega)
  by_cases hq : σ.1 98 15 < σ.1 98 1
  · obtain ⟨σ', r0, r⟩ := fin (σ.1 98 14) (σ.1 98 15) σ rfl (fun _ _ _ => rfl) rfl rfl u1 (by omega) u2 hq u4
    refine ⟨σ', ?_, r⟩
    rw [r0]
    refine con_of_go mfX1_placeLine.1 trivial (Nat.le_of_ble_eq_true rfl) rfl (by decide) ?_
    show Go _ _ _ _ 0 [vA _, vI _] [] _ _
    refine go_aload_n (at_of tX1_placeLine 0 0 rfl) rfl ?_
    refine go_getf fl_X1_59 rfl G_98 (at_of tX1_placeLine 0 1 rfl) ?_
    refine go_aload_n (at_of tX1_placeLine 0 2 rfl) rfl ?_
    refine go_getf fl_X1_15 rfl G_98 (at_of tX1_placeLine 0 3 rfl) ?_
    refine go_icmp_lt (tgt := 26) (at_of tX1_placeLine 0 4 rfl) (by decide) (fun h8 => ?_) (fun h8 => ?_)
    rotate_left
    · exfalso; omega
    refine go_aload_n (at_of tX1_placeLine 0 14 rfl) rfl ?_
    refine go_getr (q := 106) fl_X1_41 rfl G_98 ((hS _ _ rfl).trans rfl) (at_of tX1_placeLine 0 15 rfl) ?_
    refine go_iload_n (at_of tX1_placeLine 1 0 rfl) rfl ?_
    refine go_aload_n (at_of tX1_placeLine 1 1 rfl) rfl ?_
    refine go_getf fl_X1_56 rfl G_98 (at_of tX1_placeLine 1 2 rfl) ?_
    refine go_cN (con_setCell G_106 (by omega) (by omega)) lk_X1_80 rfl (at_of tX1_placeLine 1 3 rfl) rfl (by decide) rfl (Nat.le_of_ble_eq_true rfl) rfl (by first | decide | exact ⟨Nat.zero_le _, Nat.zero_le _⟩) ?_
    refine go_aload_n (at_of tX1_placeLine 1 4 rfl) rfl ?_
    refine go_getr (q := 107) fl_X1_44 rfl G_98 ((hS _ _ rfl).trans rfl) (at_of tX1_placeLine 1 5 rfl) ?_
    refine go_iload_n (at_of tX1_placeLine 1 6 rfl) rfl ?_
    refine go_aload_n (at_of tX1_placeLine 1 7 rfl) rfl ?_
    refine go_getf fl_X1_59 rfl G_98 (at_of tX1_placeLine 1 8 rfl) ?_
    rw [M1_ne (by omega)]
    refine go_cN (con_setCell G_107 (by omega) (by omega)) lk_X1_80 rfl (at_of tX1_placeLine 1 9 rfl) rfl (by decide) rfl (Nat.le_of_ble_eq_true rfl) rfl (by first | decide | exact ⟨Nat.zero_le _, Nat.zero_le _⟩) ?_
    refine go_aload_n (at_of tX1_placeLine 1 10 rfl) rfl ?_
    refine go_dup (at_of tX1_placeLine 1 11 rfl) rfl ?_
    refine go_getf fl_X1_59 rfl G_98 (at_of tX1_placeLine 1 12 rfl) ?_
    rw [M1_ne (by omega), M1_ne (by omega)]
    refine go_iconst (at_of tX1_placeLine 1 13 rfl) (by unfold in32; omega) ?_
    refine go_iadd (at_of tX1_placeLine 1 14 rfl) (by unfold in32; omega) ?_
    refine go_put1 fp_X1_59 rfl (Or.inl rfl) G_98 (Or.inl rfl) (at_of tX1_placeLine 1 15 rfl) ?_
    exact go_retv (at_of tX1_placeLine 2 0 rfl) rfl
  · have e1 : (σ.1 98 14 + 1) * σ.1 98 1 = σ.1 98 14 * σ.1 98 1 + σ.1 98 1 := by rw [Int.add_mul, Int.one_mul]
    obtain ⟨σ', r0, r⟩ := fin (σ.1 98 14 + 1) 0 (P1 (P1 σ 98 14 (σ.1 98 14 + 1)) 98 15 0) rfl (fun x j z => by
      by_cases hx : x = 98
      · rw [P1_nj (by omega), P1_nj (by omega)]
      · rw [P1_ne hx, P1_ne hx]) (by rw [P1_nj (by omega), P1_eq]) P1_eq (by omega) (by omega) (by omega) (by omega) (by omega)
    refine ⟨σ', ?_, r⟩
    rw [r0]
    refine con_of_go mfX1_placeLine.1 trivial (Nat.le_of_ble_eq_true rfl) rfl (by decide) ?_
    show Go _ _ _ _ 0 [vA _, vI _] [] _ _
    refine go_aload_n (at_of tX1_placeLine 0 0 rfl) rfl ?_
    refine go_getf fl_X1_59 rfl G_98 (at_of tX1_placeLine 0 1 rfl) ?_
    refine go_aload_n (at_of tX1_placeLine 0 2 rfl) rfl ?_
    refine go_getf fl_X1_15 rfl G_98 (at_of tX1_placeLine 0 3 rfl) ?_
    refine go_icmp_lt (tgt := 26) (at_of tX1_placeLine 0 4 rfl) (by decide) (fun h8 => ?_) (fun h8 => ?_)
    · exfalso; omega
    refine go_aload_n (at_of tX1_placeLine 0 5 rfl) rfl ?_
    refine go_dup (at_of tX1_placeLine 0 6 rfl) rfl ?_
    refine go_getf fl_X1_56 rfl G_98 (at_of tX1_placeLine 0 7 rfl) ?_
    refine go_iconst (at_of tX1_placeLine 0 8 rfl) (by unfold in32; omega) ?_
    refine go_iadd (at_of tX1_placeLine 0 9 rfl) (by unfold in32; omega) ?_
    refine go_put1 fp_X1_56 rfl (Or.inl rfl) G_98 (Or.inl rfl) (at_of tX1_placeLine 0 10 rfl) ?_
    refine go_aload_n (at_of tX1_placeLine 0 11 rfl) rfl ?_
    refine go_iconst (at_of tX1_placeLine 0 12 rfl) (by unfold in32; omega) ?_
    refine go_put1 fp_X1_59 rfl (Or.inl rfl) G_98 (Or.inl rfl) (at_of tX1_placeLine 0 13 rfl) ?_
    refine go_aload_n (at_of tX1_placeLine 0 14 rfl) rfl ?_
    refine go_getr (q := 106) fl_X1_41 rfl G_98 ((hS _ _ rfl).trans rfl) (at_of tX1_placeLine 0 15 rfl) ?_
    refine go_iload_n (at_of tX1_placeLine 1 0 rfl) rfl ?_
    refine go_aload_n (at_of tX1_placeLine 1 1 rfl) rfl ?_
    refine go_getf fl_X1_56 rfl G_98 (at_of tX1_placeLine 1 2 rfl) ?_
    rw [P1_nj (by omega), P1_eq]
    refine go_cN (con_setCell G_106 (by omega) (by omega)) lk_X1_80 rfl (at_of tX1_placeLine 1 3 rfl) rfl (by decide) rfl (Nat.le_of_ble_eq_true rfl) rfl (by first | decide | exact ⟨Nat.zero_le _, Nat.zero_le _⟩) ?_
    refine go_aload_n (at_of tX1_placeLine 1 4 rfl) rfl ?_
    refine go_getr (q := 107) fl_X1_44 rfl G_98 ((hS _ _ rfl).trans rfl) (at_of tX1_placeLine 1 5 rfl) ?_
    refine go_iload_n (at_of tX1_placeLine 1 6 rfl) rfl ?_
    refine go_aload_n (at_of tX1_placeLine 1 7 rfl) rfl ?_
    refine go_getf fl_X1_59 rfl G_98 (at_of tX1_placeLine 1 8 rfl) ?_
    rw [M1_ne (by omega), P1_eq]
    refine go_cN (con_setCell G_107 (by omega) (by omega)) lk_X1_80 rfl (at_of tX1_placeLine 1 9 rfl) rfl (by decide) rfl (Nat.le_of_ble_eq_true rfl) rfl (by first | decide | exact ⟨Nat.zero_le _, Nat.zero_le _⟩) ?_
    refine go_aload_n (at_of tX1_placeLine 1 10 rfl) rfl ?_
    refine go_dup (at_of tX1_placeLine 1 11 rfl) rfl ?_
    refine go_getf fl_X1_59 rfl G_98 (at_of tX1_placeLine 1 12 rfl) ?_
    rw [M1_ne (by omega), M1_ne (by omega), P1_eq]
    refine go_iconst (at_of tX1_placeLine 1 13 rfl) (by unfold in32; omega) ?_
    refine go_iadd (at_of tX1_placeLine 1 14 rfl) (by unfold in32; omega) ?_
    refine go_put1 fp_X1_59 rfl (Or.inl rfl) G_98 (Or.inl rfl) (at_of tX1_placeLine 1 15 rfl) ?_
    exact go_retv (at_of tX1_placeLine 2 0 rfl) rfl
def psI (ls kp : Int → Int) (E h q : Int) : Int := psF ls kp E h q.toNat
def pgI (ls kp : Int → Int) (E h q : Int) : Int := pgF ls kp E h (psI ls kp E h q) q
theorem psI_s {ls kp : Int → Int} {E h q : Int} (h0 : 0 ≤ q) : psI ls kp E h (q + 1) = pgI ls kp E h q + (ls (q + 1) - ls q) := by
  unfold pgI psI; rw [show (q + 1).toNat = q.toNat + 1 by omega, psF, show ((q.toNat : Nat) : Int) = q by omega]
def FlI (σ0 σ : St) (ls kp : Int → Int) (E q : Int) : Prop :=
  (σ.2 = σ0.2 ∧ ∀ x j : Nat, ¬ (x = 106 ∨ x = 107 ∨ (x = 98 ∧ (j = 14 ∨ j = 15))) → σ.1 x j = σ0.1 x j) ∧ PU σ (σ0.1 98 1) (psI ls kp E (σ0.1 98 1) q) (if 0 < q then 1 else 0) ∧ σ.1 98 14 ≤ ls q + q ∧
  ∀ u t : Int, 0 ≤ u → u < q → 0 ≤ t → t < ls (u + 1) - ls u → σ.1 106 (ls u + t).toNat = (pgI ls kp E (σ0.1 98 1) u + t) / σ0.1 98 1 ∧ σ.1 107 (ls u + t).toNat = (pgI ls kp E (σ0.1 98 1) u + t) % σ0.1 98 1
theorem con_fillPages (hS : Str σ.2.1) (hW : WH σ) {ls kp : Int → Int} {E : Int} (hL : LsW σ ls kp E) : ∃ σ', Con 3 mX1_fillPages 0 0 [vA 98] σ (vT 8 0, σ') ∧ FlI σ σ' ls kp E E := by
  obtain ⟨σ0, hσ0⟩ : ∃ σ0, σ0 = σ := ⟨σ, rfl⟩
  have start : FlI σ0 (P1 (P1 σ 98 14 0) 98 15 0) ls kp E 0 := by
    refine ⟨⟨by rw [hσ0]; rfl, fun x j z => ?_⟩, ⟨?_, ?_, ?_, ?_⟩, ?_, fun u t a b => by omega⟩
    · rw [hσ0]
      by_cases hx : x = 98
      · rw [P1_nj (by omega), P1_nj (by omega)]
      · rw [P1_ne hx, P1_ne hx]
    · rw [P1_nj (by omega), P1_eq]; omega
    · rw [P1_eq]; decide
    · rw [P1_eq, hσ0]; have := hW.2.2.1; omega
    · rw [P1_eq, P1_nj (by omega), P1_eq, Int.zero_mul]; rfl
    · rw [P1_nj (by omega), P1_eq, hL.2.2.2.2.1]; omega
  have hL0 := hL
  have hW0 := hW
  rw [← hσ0] at hL0 hW0
  obtain ⟨k1, k2, k3, k4, k5, k6, k7, k8⟩ := id hL0
  obtain ⟨hw1, hw2, hw3, hw4⟩ := id hW0
  have key := loop_up (α := Unit) (Rep := fun σ' _ q => FlI σ0 σ' ls kp E q ∧ 0 ≤ q) (f := fun _ _ => ()) (hi := E)
    (G := fun b _ q σ out => ∀ v2 v3 : MV, Go (fun _ => 0) 3 mX1_fillPages b 12 [vA 98, vI q, v2, v3] [] σ out) (fun σ _ q h hlo => ?_) E.toNat (P1 (P1 σ 98 14 0) 98 15 0) () 0 ⟨start, by omega⟩ (by omega)
  · obtain ⟨σ1, ⟨q1, -⟩, q3⟩ := key
    refine ⟨σ1, ?_, by rw [hσ0] at q1; exact q1⟩
    have E1 : σ1.1 98 12 = E := by rw [q1.1.2 _ _ (by omega)]; exact k1
    refine con_of_go mfX1_fillPages.1 trivial (Nat.le_of_ble_eq_true rfl) rfl (by decide) ?_
    show Go _ _ _ _ 0 [vA _, vT 9 0, vT 9 0, vT 9 0] [] _ _
    refine go_aload_n (at_of tX1_fillPages 0 0 rfl) rfl ?_
    refine go_iconst (at_of tX1_fillPages 0 1 rfl) (by unfold in32; omega) ?_
    refine go_put1 fp_X1_56 rfl (Or.inl rfl) G_98 (Or.inl rfl) (at_of tX1_fillPages 0 2 rfl) ?_
    refine go_aload_n (at_of tX1_fillPages 0 3 rfl) rfl ?_
    refine go_iconst (at_of tX1_fillPages 0 4 rfl) (by unfold in32; omega) ?_
    refine go_put1 fp_X1_59 rfl (Or.inl rfl) G_98 (Or.inl rfl) (at_of tX1_fillPages 0 5 rfl) ?_
    refine go_iconst (at_of tX1_fillPages 0 6 rfl) (by unfold in32; omega) ?_
    refine go_istore_n (at_of tX1_fillPages 0 7 rfl) rfl rfl ?_
    refine q3 _ _ (fun b v2 v3 => ?_) _ _
    refine go_iload_n (at_of tX1_fillPages 0 8 rfl) rfl ?_
    refine go_aload_n (at_of tX1_fillPages 0 9 rfl) rfl ?_
    refine go_getf fl_X1_50 rfl G_98 (at_of tX1_fillPages 0 10 rfl) ?_
    refine go_icmp_ge (tgt := 89) (at_of tX1_fillPages 0 11 rfl) (by decide) (fun h17 => ?_) (fun h17 => ?_)
    rotate_left
    · exfalso; omega
    exact go_retv (at_of tX1_fillPages 3 1 rfl) rfl
  · have hS0 : Str σ0.2.1 := by rw [hσ0]; exact hS
    clear start hσ0 hS hL hW
    obtain ⟨⟨⟨f0, f1⟩, f2, f3, f4⟩, hq⟩ := h
    have hS : Str σ.2.1 := by rw [f0]; exact hS0
    have hL : LsW σ ls kp E := ⟨by rw [f1 _ _ (by omega)]; exact k1, k2, k3, fun q a b => by rw [f1 _ _ (by omega)]; exact k4 q a b, k5, k6, k7, fun q a b => by rw [f1 _ _ (by omega)]; exact k8 q a b⟩
    have eh : σ.1 98 1 = σ0.1 98 1 := f1 _ _ (by omega)
    have hW : WH σ := ⟨by rw [f1 _ _ (by omega)]; exact hw1, by rw [f1 _ _ (by omega)]; exact hw2, by rw [eh]; exact hw3, by rw [eh]; exact hw4⟩
    have l0 := ls_le k6 (q := 0) (q' := q) (by omega) hq (by omega)
    have l1 := k6 q hq hlo
    have l2 := ls_le k6 (q := q + 1) (q' := E) (by omega) (by omega) (by omega)
    have kq := k8 q hq hlo
    -- the page turned, or not
    have mid : ∃ σ1, σ1.2 = σ.2 ∧ (∀ x j : Nat, ¬ (x = 98 ∧ (j = 14 ∨ j = 15)) → σ1.1 x j = σ.1 x j) ∧ PU σ1 (σ0.1 98 1) (pgI ls kp E (σ0.1 98 1) q) 0 ∧ σ1.1 98 14 ≤ σ.1 98 14 + 1 ∧ ∀ (b : Nat × Nat) (out : MV × St) (v2 v3 : MV), (∀ b', Go (fun _ => 0) 3 mX1_fillPages b' 47 [vA 98, vI q, v2, v3] [] σ1 out) → Go (fun _ => 0) 3 mX1_fillPages b 12 [vA 98, vI q, v2, v3] [] σ out := by
      have f2' : PU σ (σ.1 98 1) (psI ls kp E (σ0.1 98 1) q) 0 := by
        rw [eh]
        refine ⟨f2.1, ?_, f2.2.2⟩
        have := f2.2.1
        split at this <;> omega
      unfold pgI pgF
      by_cases hk : kp q = 1 ∧ ¬ (0 < q ∧ kp (q - 1) = 1)
      · rw [if_pos hk]
        have cl := con_linesTogether hS hL (f := q) ⟨hq, hlo⟩
        obtain ⟨σ1, c1, c2, c3, c4, c5⟩ := con_turnPageFor hS hW (t := togF ls kp E q) f2' (by omega)
        rw [eh] at c4
        refine ⟨σ1, c2, c3, c4, c5, fun b out v2 v3 K => ?_⟩
        have z2 : ¬ (0 ≤ q - 1 ∧ q - 1 < 202 ∧ σ.1 105 (q - 1).toNat ≠ 0) := fun z => by
          have y := k8 (q - 1) z.1 (by omega)
          have x : σ.1 105 (q - 1).toNat = kp (q - 1) := by rw [f1 _ _ (by omega)]; exact y.1
          exact hk.2 ⟨by omega, by omega⟩
        have z1 : 0 ≤ q ∧ q < 202 ∧ σ.1 105 q.toNat ≠ 0 := ⟨hq, by omega, by rw [f1 _ _ (by omega)]; omega⟩
        refine go_iload_n (at_of tX1_fillPages 0 8 rfl) rfl ?_
        refine go_aload_n (at_of tX1_fillPages 0 9 rfl) rfl ?_
        refine go_getf fl_X1_50 rfl G_98 (at_of tX1_fillPages 0 10 rfl) ?_
        refine go_icmp_ge (tgt := 89) (at_of tX1_fillPages 0 11 rfl) (by decide) (fun h17 => ?_) (fun h17 => ?_)
        · exfalso; rw [hL.1] at h17; omega
        refine go_aload_n (at_of tX1_fillPages 0 12 rfl) rfl ?_
        refine go_iload_n (at_of tX1_fillPages 0 13 rfl) rfl ?_
        refine go_cV (con_keepsAt hS) lk_X1_125 rfl G_98 (at_of tX1_fillPages 0 14 rfl) rfl (by decide) rfl (Nat.le_of_ble_eq_true rfl) rfl (by first | decide | exact ⟨Nat.zero_le _, Nat.zero_le _⟩) ?_
        refine go_if_eq (tgt := 47) (at_of tX1_fillPages 0 15 rfl) (by decide) (fun h25 => ?_) (fun h25 => ?_)
        · exfalso; exact bI_0.mp h25 z1
        refine go_aload_n (at_of tX1_fillPages 1 0 rfl) rfl ?_
        refine go_iload_n (at_of tX1_fillPages 1 1 rfl) rfl ?_
        refine go_iconst (at_of tX1_fillPages 1 2 rfl) (by unfold in32; omega) ?_
        refine go_isub (at_of tX1_fillPages 1 3 rfl) (by unfold in32; omega) ?_
        refine go_cV (con_keepsAt hS) lk_X1_125 rfl G_98 (at_of tX1_fillPages 1 4 rfl) rfl (by decide) rfl (Nat.le_of_ble_eq_true rfl) rfl (by first | decide | exact ⟨Nat.zero_le _, Nat.zero_le _⟩) ?_
        refine go_if_ne (tgt := 47) (at_of tX1_fillPages 1 5 rfl) (by decide) (fun h35 => ?_) (fun h35 => ?_)
        · exfalso; exact z2 (bI_1.mp h35)
        refine go_aload_n (at_of tX1_fillPages 1 6 rfl) rfl ?_
        refine go_aload_n (at_of tX1_fillPages 1 7 rfl) rfl ?_
        refine go_iload_n (at_of tX1_fillPages 1 8 rfl) rfl ?_
        refine go_cV (cl) lk_X1_128 rfl G_98 (at_of tX1_fillPages 1 9 rfl) rfl (by decide) rfl (Nat.le_of_ble_eq_true rfl) rfl (by first | decide | exact ⟨Nat.zero_le _, Nat.zero_le _⟩) ?_
        refine go_cV (c1) lk_X1_131 rfl G_98 (at_of tX1_fillPages 1 10 rfl) rfl (by decide) rfl (Nat.le_of_ble_eq_true rfl) rfl (by first | decide | exact ⟨Nat.zero_le _, Nat.zero_le _⟩) ?_
        exact K _
      · rw [if_neg hk]
        refine ⟨σ, rfl, fun _ _ _ => rfl, by have z := f2'; rw [eh] at z; exact z, by omega, fun b out v2 v3 K => ?_⟩
        by_cases hk1 : kp q = 1
        · have z3 : 0 < q ∧ kp (q - 1) = 1 := by
            by_cases z : 0 < q ∧ kp (q - 1) = 1
            · exact z
            · exact absurd ⟨hk1, z⟩ hk
          have y := k8 (q - 1) (by omega) (by omega)
          have z2 : 0 ≤ q - 1 ∧ q - 1 < 202 ∧ σ.1 105 (q - 1).toNat ≠ 0 := ⟨by omega, by omega, by rw [f1 _ _ (by omega)]; omega⟩
          have z1 : 0 ≤ q ∧ q < 202 ∧ σ.1 105 q.toNat ≠ 0 := ⟨hq, by omega, by rw [f1 _ _ (by omega)]; omega⟩
          refine go_iload_n (at_of tX1_fillPages 0 8 rfl) rfl ?_
          refine go_aload_n (at_of tX1_fillPages 0 9 rfl) rfl ?_
          refine go_getf fl_X1_50 rfl G_98 (at_of tX1_fillPages 0 10 rfl) ?_
          refine go_icmp_ge (tgt := 89) (at_of tX1_fillPages 0 11 rfl) (by decide) (fun h17 => ?_) (fun h17 => ?_)
          · exfalso; rw [hL.1] at h17; omega
          refine go_aload_n (at_of tX1_fillPages 0 12 rfl) rfl ?_
          refine go_iload_n (at_of tX1_fillPages 0 13 rfl) rfl ?_
          refine go_cV (con_keepsAt hS) lk_X1_125 rfl G_98 (at_of tX1_fillPages 0 14 rfl) rfl (by decide) rfl (Nat.le_of_ble_eq_true rfl) rfl (by first | decide | exact ⟨Nat.zero_le _, Nat.zero_le _⟩) ?_
          refine go_if_eq (tgt := 47) (at_of tX1_fillPages 0 15 rfl) (by decide) (fun h25 => ?_) (fun h25 => ?_)
          · exfalso; exact bI_0.mp h25 z1
          refine go_aload_n (at_of tX1_fillPages 1 0 rfl) rfl ?_
          refine go_iload_n (at_of tX1_fillPages 1 1 rfl) rfl ?_
          refine go_iconst (at_of tX1_fillPages 1 2 rfl) (by unfold in32; omega) ?_
          refine go_isub (at_of tX1_fillPages 1 3 rfl) (by unfold in32; omega) ?_
          refine go_cV (con_keepsAt hS) lk_X1_125 rfl G_98 (at_of tX1_fillPages 1 4 rfl) rfl (by decide) rfl (Nat.le_of_ble_eq_true rfl) rfl (by first | decide | exact ⟨Nat.zero_le _, Nat.zero_le _⟩) ?_
          refine go_if_ne (tgt := 47) (at_of tX1_fillPages 1 5 rfl) (by decide) (fun h35 => ?_) (fun h35 => ?_)
          rotate_left
          · exfalso; exact absurd h35 (by rw [bI_t z2]; decide)
          exact K _
        · have z1 : ¬ (0 ≤ q ∧ q < 202 ∧ σ.1 105 q.toNat ≠ 0) := fun z => by
            have x : σ.1 105 q.toNat = kp q := by rw [f1 _ _ (by omega)]; exact kq.1
            omega
          refine go_iload_n (at_of tX1_fillPages 0 8 rfl) rfl ?_
          refine go_aload_n (at_of tX1_fillPages 0 9 rfl) rfl ?_
          refine go_getf fl_X1_50 rfl G_98 (at_of tX1_fillPages 0 10 rfl) ?_
          refine go_icmp_ge (tgt := 89) (at_of tX1_fillPages 0 11 rfl) (by decide) (fun h17 => ?_) (fun h17 => ?_)
          · exfalso; rw [hL.1] at h17; omega
          refine go_aload_n (at_of tX1_fillPages 0 12 rfl) rfl ?_
          refine go_iload_n (at_of tX1_fillPages 0 13 rfl) rfl ?_
          refine go_cV (con_keepsAt hS) lk_X1_125 rfl G_98 (at_of tX1_fillPages 0 14 rfl) rfl (by decide) rfl (Nat.le_of_ble_eq_true rfl) rfl (by first | decide | exact ⟨Nat.zero_le _, Nat.zero_le _⟩) ?_
          refine go_if_eq (tgt := 47) (at_of tX1_fillPages 0 15 rfl) (by decide) (fun h25 => ?_) (fun h25 => ?_)
          rotate_left
          · exfalso; exact z1 (bI_1.mp h25)
          exact K _
    obtain ⟨σ1, m1, m2, m3, m4, m5⟩ := mid
    have inner := loop_up (α := Unit) (Rep := fun σ' _ l => (σ'.2 = σ.2 ∧ ∀ x j : Nat, ¬ (x = 106 ∨ x = 107 ∨ (x = 98 ∧ (j = 14 ∨ j = 15))) → σ'.1 x j = σ.1 x j) ∧ ls q ≤ l ∧ PU σ' (σ0.1 98 1) (pgI ls kp E (σ0.1 98 1) q + (l - ls q)) (if ls q < l then 1 else 0) ∧ σ'.1 98 14 ≤ l + q + 1 ∧
        (∀ t : Int, 0 ≤ t → t < l - ls q → σ'.1 106 (ls q + t).toNat = (pgI ls kp E (σ0.1 98 1) q + t) / σ0.1 98 1 ∧ σ'.1 107 (ls q + t).toNat = (pgI ls kp E (σ0.1 98 1) q + t) % σ0.1 98 1) ∧
        ∀ j : Nat, (j : Int) < ls q → σ'.1 106 j = σ.1 106 j ∧ σ'.1 107 j = σ.1 107 j) (f := fun _ _ => ()) (hi := ls (q + 1))
      (G := fun b _ l σ out => Go (fun _ => 0) 3 mX1_fillPages b 67 [vA 98, vI q, vI (ls (q + 1)), vI l] [] σ out) (fun σ2 _ l h hll => ?_) (ls (q + 1) - ls q).toNat σ1 () (ls q) ⟨⟨m1, fun x j z => m2 x j (by omega)⟩, by omega, by
        rw [Int.sub_self, Int.add_zero, if_neg (by omega)]; exact m3, by omega, fun t a b => by omega, fun j _ => ⟨m2 _ _ (by omega), m2 _ _ (by omega)⟩⟩ (by omega)
    · obtain ⟨σ3, ⟨⟨i0, i1⟩, i2, i3, i4, i5, i6⟩, i7⟩ := inner
      rw [if_pos (by omega)] at i3
      refine ⟨σ3, ⟨⟨⟨i0.trans f0, fun x j z => (i1 x j z).trans (f1 x j z)⟩, ?_, by omega, fun u t a b c d => ?_⟩, by omega⟩, fun b out K v2 v3 => ?_⟩
      · rw [psI_s hq, if_pos (by omega)]; exact i3
      · by_cases hu : u = q
        · rw [hu] at d ⊢; exact i5 t c d
        · have y0 := ls_le k6 (q := 0) (q' := u) (by omega) a (by omega)
          have y := ls_le k6 (q := u + 1) (q' := q) (by omega) (by omega) (by omega)
          have := i6 (ls u + t).toNat (by omega)
          rw [this.1, this.2]
          exact f4 u t a (by omega) c d
      · refine m5 b out v2 v3 (fun b => ?_)
        have hS1 : Str σ1.2.1 := by rw [m1]; exact hS
        have G1 : σ1.1 104 (q + 1).toNat = ls (q + 1) := by rw [m2 _ _ (by omega), f1 _ _ (by omega)]; exact k4 _ (by omega) (by omega)
        have G2 : σ1.1 104 q.toNat = ls q := by rw [m2 _ _ (by omega), f1 _ _ (by omega)]; exact k4 _ hq (by omega)
        refine go_aload_n (at_of tX1_fillPages 1 11 rfl) rfl ?_
        refine go_getr (q := 104) fl_X1_35 rfl G_98 ((hS1 _ _ rfl).trans rfl) (at_of tX1_fillPages 1 12 rfl) ?_
        refine go_iload_n (at_of tX1_fillPages 1 13 rfl) rfl ?_
        refine go_iconst (at_of tX1_fillPages 1 14 rfl) (by unfold in32; omega) ?_
        refine go_iadd (at_of tX1_fillPages 1 15 rfl) (by unfold in32; omega) ?_
        refine go_cN (con_cell G_104 (by omega) (by omega)) lk_X1_76 rfl (at_of tX1_fillPages 2 0 rfl) rfl (by decide) rfl (Nat.le_of_ble_eq_true rfl) rfl (by first | decide | exact ⟨Nat.zero_le _, Nat.zero_le _⟩) ?_
        rw [G1]
        refine go_istore_n (at_of tX1_fillPages 2 1 rfl) rfl rfl ?_
        refine go_aload_n (at_of tX1_fillPages 2 2 rfl) rfl ?_
        refine go_getr (q := 104) fl_X1_35 rfl G_98 ((hS1 _ _ rfl).trans rfl) (at_of tX1_fillPages 2 3 rfl) ?_
        refine go_iload_n (at_of tX1_fillPages 2 4 rfl) rfl ?_
        refine go_cN (con_cell G_104 (by omega) (by omega)) lk_X1_76 rfl (at_of tX1_fillPages 2 5 rfl) rfl (by decide) rfl (Nat.le_of_ble_eq_true rfl) rfl (by first | decide | exact ⟨Nat.zero_le _, Nat.zero_le _⟩) ?_
        rw [G2]
        refine go_istore_n (at_of tX1_fillPages 2 6 rfl) rfl rfl ?_
        refine i7 _ _ (fun b => ?_)
        refine go_iload_n (at_of tX1_fillPages 2 7 rfl) rfl ?_
        refine go_iload_n (at_of tX1_fillPages 2 8 rfl) rfl ?_
        refine go_icmp_ge (tgt := 83) (at_of tX1_fillPages 2 9 rfl) (by decide) (fun h69 => ?_) (fun h69 => ?_)
        rotate_left
        · exfalso; omega
        refine go_iinc (at_of tX1_fillPages 2 15 rfl) rfl (by unfold in32; omega) rfl rfl ?_
        refine go_goto (tgt := 12) (at_of tX1_fillPages 3 0 rfl) (by decide) ?_
        exact K _ _ _
    · obtain ⟨⟨i0, i1⟩, i2, i3, i4, i5, i6⟩ := h
      have eh2 : σ2.1 98 1 = σ0.1 98 1 := (i1 _ _ (by omega)).trans eh
      have hW2 : WH σ2 := ⟨by rw [i1 _ _ (by omega)]; exact hW.1, by rw [i1 _ _ (by omega)]; exact hW.2.1, by rw [eh2]; exact hw3, by rw [eh2]; exact hw4⟩
      have i3' : PU σ2 (σ2.1 98 1) (pgI ls kp E (σ0.1 98 1) q + (l - ls q)) 0 := by
        rw [eh2]
        refine ⟨i3.1, ?_, i3.2.2⟩
        have := i3.2.1
        split at this <;> omega
      have hS2 : Str σ2.2.1 := by rw [i0]; exact hS
      obtain ⟨σ3, c1, c2, c3, c4, c5, c6, c7, c8⟩ := con_placeLine hS2 hW2 i3' (l := l) (by omega) (by omega)
      rw [eh2] at c4 c6 c7
      refine ⟨σ3, ⟨⟨c2.trans i0, fun x j z => (c3 x j z).trans (i1 x j z)⟩, by omega, ?_, by omega, fun t a b => ?_, fun j a => ?_⟩, fun b out K => ?_⟩
      · rw [if_pos (by omega), show pgI ls kp E (σ0.1 98 1) q + (l + 1 - ls q) = pgI ls kp E (σ0.1 98 1) q + (l - ls q) + 1 by omega]; exact c4
      · by_cases ht : ls q + t = l
        · rw [ht, c6, c7, show l - ls q = t by omega]; exact ⟨rfl, rfl⟩
        · have := c8 (ls q + t).toNat (by omega)
          rw [this.1, this.2]
          exact i5 t a (by omega)
      · have := c8 j (by omega)
        rw [this.1, this.2]
        exact i6 j a
      · skip
        refine go_iload_n (at_of tX1_fillPages 2 7 rfl) rfl ?_
        refine go_iload_n (at_of tX1_fillPages 2 8 rfl) rfl ?_
        refine go_icmp_ge (tgt := 83) (at_of tX1_fillPages 2 9 rfl) (by decide) (fun h69 => ?_) (fun h69 => ?_)
        · exfalso; omega
        refine go_aload_n (at_of tX1_fillPages 2 10 rfl) rfl ?_
        refine go_iload_n (at_of tX1_fillPages 2 11 rfl) rfl ?_
        refine go_cV (c1) lk_X1_135 rfl G_98 (at_of tX1_fillPages 2 12 rfl) rfl (by decide) rfl (Nat.le_of_ble_eq_true rfl) rfl (by first | decide | exact ⟨Nat.zero_le _, Nat.zero_le _⟩) ?_
        refine go_iinc (at_of tX1_fillPages 2 13 rfl) rfl (by unfold in32; omega) rfl rfl ?_
        refine go_goto (tgt := 67) (at_of tX1_fillPages 2 14 rfl) (by decide) ?_
        exact K _
theorem con_manyPages (hS : Str σ.2.1) (hW : WH σ) {p : Int} (hP : PU σ (σ.1 98 1) p 1) (hp : σ.1 98 14 ≤ 2000) : Con 0 mX1_manyPages 0 0 [vA 98] σ (vI ((p - 1) / σ.1 98 1 + 1), σ) := by
  obtain ⟨hw1, hw2, hw3, hw4⟩ := hW
  obtain ⟨u1, u2, u3, u4⟩ := hP
  have dv := (pu_div (g := σ.1 98 14) (h := σ.1 98 1) (u := σ.1 98 15 - 1) (by omega) (by omega)).1
  rw [show σ.1 98 14 * σ.1 98 1 + (σ.1 98 15 - 1) = p - 1 by omega] at dv
  rw [dv]
  refine con_of_go mfX1_manyPages.1 trivial (Nat.le_of_ble_eq_true rfl) rfl (by decide) ?_
  show Go _ _ _ _ 0 [vA _] [] _ _
  refine go_aload_n (at_of tX1_manyPages 0 0 rfl) rfl ?_
  refine go_getf fl_X1_56 rfl G_98 (at_of tX1_manyPages 0 1 rfl) ?_
  refine go_iconst (at_of tX1_manyPages 0 2 rfl) (by unfold in32; omega) ?_
  refine go_iadd (at_of tX1_manyPages 0 3 rfl) (by unfold in32; omega) ?_
  first | exact go_reti (at_of tX1_manyPages 0 4 rfl) rfl | exact go_reti (at_of tX1_manyPages 0 4 rfl) (le_i (by omega)) | exact go_reti (at_of tX1_manyPages 0 4 rfl) (le_i (by first | exact bI_t (by omega) | exact bI_f (by omega)))
end LayPages
