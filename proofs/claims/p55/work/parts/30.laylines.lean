/-! The office's layout: lines are broken, pages are filled. -/
section LayLines
variable {σ : St}
def blB (σ : St) (s : Int) : Bool := decide (σ.1 99 s.toNat ≠ 0)
def WH (σ : St) : Prop := 5 ≤ σ.1 98 0 ∧ σ.1 98 0 ≤ 60 ∧ 2 ≤ σ.1 98 1 ∧ σ.1 98 1 ≤ 40
theorem con_endOfLine (hS : Str σ.2.1) (hW : WH σ) {a t : Int} (h : 0 ≤ a ∧ a ≤ t ∧ t ≤ 500) : Con 1 mX1_endOfLine 0 0 [vA 98, vI a, vI t] σ (vI (lnE (blB σ) (σ.1 98 0) a t), σ) := by
  obtain ⟨hw1, hw2, hw3, hw4⟩ := hW
  have key : ∀ (m : Nat) (b : Nat × Nat) (s : Int), s - m = a - 1 → s < 500 → Go (fun _ => 0) 1 mX1_endOfLine b 21 [vA 98, vI a, vI t, vI s] [] σ (vI (lbF (blB σ) (a + σ.1 98 0) m s), σ) := by
    intro m
    induction m with
    | zero =>
      intro b s h0 h1
      refine go_iload_n (at_of tX1_endOfLine 0 15 rfl) rfl ?_
      refine go_iload_n (at_of tX1_endOfLine 1 0 rfl) rfl ?_
      refine go_icmp_lt (tgt := 55) (at_of tX1_endOfLine 1 1 rfl) (by decide) (fun h23 => ?_) (fun h23 => ?_)
      rotate_left
      · exfalso; omega
      refine go_iload_n (at_of tX1_endOfLine 2 1 rfl) rfl ?_
      refine go_aload_n (at_of tX1_endOfLine 2 2 rfl) rfl ?_
      refine go_getf fl_X1_9 rfl G_98 (at_of tX1_endOfLine 2 3 rfl) ?_
      refine go_iadd (at_of tX1_endOfLine 2 4 rfl) (by unfold in32; omega) ?_
      exact go_reti (at_of tX1_endOfLine 2 5 rfl) (by rw [lbF])
    | succ m ih =>
      intro b s h0 h1
      rw [lbF]
      by_cases hb : blB σ s = true
      · rw [if_pos hb]
        have hb2 : ¬ σ.1 99 s.toNat = 0 := of_decide_eq_true hb
        refine go_iload_n (at_of tX1_endOfLine 0 15 rfl) rfl ?_
        refine go_iload_n (at_of tX1_endOfLine 1 0 rfl) rfl ?_
        refine go_icmp_lt (tgt := 55) (at_of tX1_endOfLine 1 1 rfl) (by decide) (fun h23 => ?_) (fun h23 => ?_)
        · exfalso; omega
        refine go_iload_n (at_of tX1_endOfLine 1 2 rfl) rfl ?_
        refine go_sipush (at_of tX1_endOfLine 1 3 rfl) (by decide) ?_
        refine go_cN (con_isWithin) lk_X1_111 rfl (at_of tX1_endOfLine 1 4 rfl) rfl (by decide) rfl (Nat.le_of_ble_eq_true rfl) rfl (by first | decide | exact ⟨Nat.zero_le _, Nat.zero_le _⟩) ?_
        refine go_if_eq (tgt := 49) (at_of tX1_endOfLine 1 5 rfl) (by decide) (fun h33 => ?_) (fun h33 => ?_)
        · exfalso; exact bI_0.mp h33 (by omega)
        refine go_aload_n (at_of tX1_endOfLine 1 6 rfl) rfl ?_
        refine go_getr (q := 99) fl_X1_18 rfl G_98 ((hS _ _ rfl).trans rfl) (at_of tX1_endOfLine 1 7 rfl) ?_
        refine go_iload_n (at_of tX1_endOfLine 1 8 rfl) rfl ?_
        refine go_bald G_99 (by omega) (by omega) (at_of tX1_endOfLine 1 9 rfl) ?_
        refine go_if_eq (tgt := 49) (at_of tX1_endOfLine 1 10 rfl) (by decide) (fun h42 => ?_) (fun h42 => ?_)
        · exfalso; exact hb2 h42
        refine go_iload_n (at_of tX1_endOfLine 1 11 rfl) rfl ?_
        refine go_iconst (at_of tX1_endOfLine 1 12 rfl) (by unfold in32; omega) ?_
        refine go_iadd (at_of tX1_endOfLine 1 13 rfl) (by unfold in32; omega) ?_
        exact go_reti (at_of tX1_endOfLine 1 14 rfl) rfl
      · rw [if_neg hb]
        have hb2 : σ.1 99 s.toNat = 0 := by
          by_cases q : σ.1 99 s.toNat = 0
          · exact q
          · exact absurd (decide_eq_true q) hb
        refine go_iload_n (at_of tX1_endOfLine 0 15 rfl) rfl ?_
        refine go_iload_n (at_of tX1_endOfLine 1 0 rfl) rfl ?_
        refine go_icmp_lt (tgt := 55) (at_of tX1_endOfLine 1 1 rfl) (by decide) (fun h23 => ?_) (fun h23 => ?_)
        · exfalso; omega
        refine go_iload_n (at_of tX1_endOfLine 1 2 rfl) rfl ?_
        refine go_sipush (at_of tX1_endOfLine 1 3 rfl) (by decide) ?_
        refine go_cN (con_isWithin) lk_X1_111 rfl (at_of tX1_endOfLine 1 4 rfl) rfl (by decide) rfl (Nat.le_of_ble_eq_true rfl) rfl (by first | decide | exact ⟨Nat.zero_le _, Nat.zero_le _⟩) ?_
        refine go_if_eq (tgt := 49) (at_of tX1_endOfLine 1 5 rfl) (by decide) (fun h33 => ?_) (fun h33 => ?_)
        · exfalso; exact bI_0.mp h33 (by omega)
        refine go_aload_n (at_of tX1_endOfLine 1 6 rfl) rfl ?_
        refine go_getr (q := 99) fl_X1_18 rfl G_98 ((hS _ _ rfl).trans rfl) (at_of tX1_endOfLine 1 7 rfl) ?_
        refine go_iload_n (at_of tX1_endOfLine 1 8 rfl) rfl ?_
        refine go_bald G_99 (by omega) (by omega) (at_of tX1_endOfLine 1 9 rfl) ?_
        refine go_if_eq (tgt := 49) (at_of tX1_endOfLine 1 10 rfl) (by decide) (fun h42 => ?_) (fun h42 => ?_)
        rotate_left
        · exfalso; exact h42 hb2
        refine go_iinc (at_of tX1_endOfLine 1 15 rfl) rfl (by unfold in32; omega) rfl rfl ?_
        refine go_goto (tgt := 21) (at_of tX1_endOfLine 2 0 rfl) (by decide) ?_
        exact ih _ _ (by omega) (by omega)
  unfold lnE
  by_cases hq : t - a ≤ σ.1 98 0
  · rw [if_pos hq]
    refine con_of_go mfX1_endOfLine.1 trivial (Nat.le_of_ble_eq_true rfl) rfl (by decide) ?_
    show Go _ _ _ _ 0 [vA _, vI _, vI _, vT 9 0] [] _ _
    refine go_iload_n (at_of tX1_endOfLine 0 0 rfl) rfl ?_
    refine go_iload_n (at_of tX1_endOfLine 0 1 rfl) rfl ?_
    refine go_isub (at_of tX1_endOfLine 0 2 rfl) (by unfold in32; omega) ?_
    refine go_aload_n (at_of tX1_endOfLine 0 3 rfl) rfl ?_
    refine go_getf fl_X1_9 rfl G_98 (at_of tX1_endOfLine 0 4 rfl) ?_
    refine go_icmp_gt (tgt := 12) (at_of tX1_endOfLine 0 5 rfl) (by decide) (fun h7 => ?_) (fun h7 => ?_)
    · exfalso; omega
    refine go_iload_n (at_of tX1_endOfLine 0 6 rfl) rfl ?_
    first | exact go_reti (at_of tX1_endOfLine 0 7 rfl) rfl | exact go_reti (at_of tX1_endOfLine 0 7 rfl) (le_i (by omega)) | exact go_reti (at_of tX1_endOfLine 0 7 rfl) (le_i (by first | exact bI_t (by omega) | exact bI_f (by omega)))
  · rw [if_neg hq]
    refine con_of_go mfX1_endOfLine.1 trivial (Nat.le_of_ble_eq_true rfl) rfl (by decide) ?_
    show Go _ _ _ _ 0 [vA _, vI _, vI _, vT 9 0] [] _ _
    refine go_iload_n (at_of tX1_endOfLine 0 0 rfl) rfl ?_
    refine go_iload_n (at_of tX1_endOfLine 0 1 rfl) rfl ?_
    refine go_isub (at_of tX1_endOfLine 0 2 rfl) (by unfold in32; omega) ?_
    refine go_aload_n (at_of tX1_endOfLine 0 3 rfl) rfl ?_
    refine go_getf fl_X1_9 rfl G_98 (at_of tX1_endOfLine 0 4 rfl) ?_
    refine go_icmp_gt (tgt := 12) (at_of tX1_endOfLine 0 5 rfl) (by decide) (fun h7 => ?_) (fun h7 => ?_)
    rotate_left
    · exfalso; omega
    refine go_iload_n (at_of tX1_endOfLine 0 8 rfl) rfl ?_
    refine go_aload_n (at_of tX1_endOfLine 0 9 rfl) rfl ?_
    refine go_getf fl_X1_9 rfl G_98 (at_of tX1_endOfLine 0 10 rfl) ?_
    refine go_iadd (at_of tX1_endOfLine 0 11 rfl) (by unfold in32; omega) ?_
    refine go_iconst (at_of tX1_endOfLine 0 12 rfl) (by unfold in32; omega) ?_
    refine go_isub (at_of tX1_endOfLine 0 13 rfl) (by unfold in32; omega) ?_
    refine go_istore_n (at_of tX1_endOfLine 0 14 rfl) rfl rfl ?_
    exact key (σ.1 98 0).toNat _ _ (by omega) (by omega)
theorem con_breakParagraph (hS : Str σ.2.1) (hW : WH σ) {a0 t l0 : Int} (h : 0 ≤ a0 ∧ a0 ≤ t ∧ t ≤ 500) (hl : σ.1 98 13 = l0) (hl0 : 0 ≤ l0 ∧ l0 ≤ 1000) : ∃ σ', Con 2 mX1_breakParagraph 0 0 [vA 98, vI a0, vI t] σ (vT 8 0, σ') ∧ σ'.2 = σ.2 ∧ (∀ x j : Nat, ¬ (x = 100 ∨ (x = 98 ∧ j = 13)) → σ'.1 x j = σ.1 x j) ∧
  σ'.1 98 13 = l0 + lnC (blB σ) (σ.1 98 0) t 512 a0 ∧ (∀ s, a0 ≤ s → s < t → σ'.1 100 s.toNat = l0 + lnO (blB σ) (σ.1 98 0) t s 512 a0) ∧ (∀ s, 0 ≤ s → s < a0 ∨ t ≤ s → σ'.1 100 s.toNat = σ.1 100 s.toNat) := by
  have inner : ∀ (σ : St), Str σ.2.1 → ∀ (a e l i : Int) (out : MV × St), 0 ≤ a → e ≤ 500 → σ.1 98 13 = l → (∀ b, Go (fun _ => 0) 2 mX1_breakParagraph b 50 [vA 98, vI a0, vI t, vI a, vI i, vI e, vI e] [] (rngS σ 100 a e l) out) → ∀ (m : Nat) (b : Nat × Nat) (s : Int), a ≤ s → s + m = e → Go (fun _ => 0) 2 mX1_breakParagraph b 24 [vA 98, vI a0, vI t, vI a, vI i, vI e, vI s] [] (rngS σ 100 a s l) out := by
    intro σ hS a e l i out ha he hl K m
    induction m with
    | zero =>
      intro b s h0 h1
      obtain rfl : s = e := by omega
      refine go_iload (at_of tX1_breakParagraph 0 14 rfl) rfl rfl ?_
      refine go_iload (at_of tX1_breakParagraph 0 15 rfl) rfl rfl ?_
      refine go_icmp_ge (tgt := 50) (at_of tX1_breakParagraph 1 0 rfl) (by decide) (fun h28 => ?_) (fun h28 => ?_)
      rotate_left
      · exfalso; omega
      exact K _
    | succ m ih =>
      intro b s h0 h1
      have el : (rngS σ 100 a s l).1 98 13 = l := (rngS_ne (by omega)).trans hl
      refine go_iload (at_of tX1_breakParagraph 0 14 rfl) rfl rfl ?_
      refine go_iload (at_of tX1_breakParagraph 0 15 rfl) rfl rfl ?_
      refine go_icmp_ge (tgt := 50) (at_of tX1_breakParagraph 1 0 rfl) (by decide) (fun h28 => ?_) (fun h28 => ?_)
      · exfalso; omega
      refine go_aload_n (at_of tX1_breakParagraph 1 1 rfl) rfl ?_
      refine go_getr (q := 100) fl_X1_22 rfl G_98 ((hS _ _ rfl).trans rfl) (at_of tX1_breakParagraph 1 2 rfl) ?_
      refine go_iload (at_of tX1_breakParagraph 1 3 rfl) rfl rfl ?_
      refine go_aload_n (at_of tX1_breakParagraph 1 4 rfl) rfl ?_
      refine go_getf fl_X1_53 rfl G_98 (at_of tX1_breakParagraph 1 5 rfl) ?_
      rw [el]
      refine go_cN (con_setCell G_100 (by omega) (by omega)) lk_X1_80 rfl (at_of tX1_breakParagraph 1 6 rfl) rfl (by decide) rfl (Nat.le_of_ble_eq_true rfl) rfl (by first | decide | exact ⟨Nat.zero_le _, Nat.zero_le _⟩) ?_
      rw [rngS_s (by omega) (by omega)]
      refine go_iinc (at_of tX1_breakParagraph 1 7 rfl) rfl (by unfold in32; omega) rfl rfl ?_
      refine go_goto (tgt := 24) (at_of tX1_breakParagraph 1 8 rfl) (by decide) ?_
      exact ih _ _ (by omega) (by omega)
  have outer : ∀ (m : Nat) (σ : St) (a i l : Int), Str σ.2.1 → WH σ → 0 ≤ a → a ≤ t → i + m = 512 → 0 ≤ i → t - a < m → σ.1 98 13 = l → 0 ≤ l → l + m ≤ 2000 → ∃ σ', σ'.2 = σ.2 ∧ (∀ x j : Nat, ¬ (x = 100 ∨ (x = 98 ∧ j = 13)) → σ'.1 x j = σ.1 x j) ∧
      σ'.1 98 13 = l + lnC (blB σ) (σ.1 98 0) t m a ∧ (∀ s, a ≤ s → s < t → σ'.1 100 s.toNat = l + lnO (blB σ) (σ.1 98 0) t s m a) ∧ (∀ s, 0 ≤ s → s < a ∨ t ≤ s → σ'.1 100 s.toNat = σ.1 100 s.toNat) ∧
      ∀ (b : Nat × Nat) (v5 v6 : MV) (out : MV × St), (∀ b' v3 v4 v5 v6, Go (fun _ => 0) 2 mX1_breakParagraph b' 77 [vA 98, vI a0, vI t, v3, v4, v5, v6] [] σ' out) → Go (fun _ => 0) 2 mX1_breakParagraph b 5 [vA 98, vI a0, vI t, vI a, vI i, v5, v6] [] σ out := by
    intro m
    induction m with
    | zero => intro σ a i l hS hW q0 q1 q2 q3 q4; exfalso; omega
    | succ m ih =>
      intro σ a i l hS hW q0 q1 q2 q3 q4 q5 q6 q7
      obtain ⟨hw1, hw2, hw3, hw4⟩ := id hW
      obtain ⟨e, he⟩ : ∃ e, e = lnE (blB σ) (σ.1 98 0) a t := ⟨_, rfl⟩
      have hab : a ≤ e ∧ e ≤ t ∧ (a < t → a < e) := by
        rw [he]
        rcases Int.lt_or_eq_of_le q1 with z | z
        · have := lnE_b (B := blB σ) (w := σ.1 98 0) (by omega) z; omega
        · rw [← z, lnE_e (by omega)]; omega
      have el : (rngS σ 100 a e l).1 98 13 = l := (rngS_ne (by omega)).trans q5
      obtain ⟨σ1, hσ1⟩ : ∃ σ1, σ1 = P1 (rngS σ 100 a e l) 98 13 (l + 1) := ⟨_, rfl⟩
      have n2 : σ1.2 = σ.2 := by rw [hσ1]; rfl
      have n1 : ∀ x j : Nat, ¬ (x = 100 ∨ (x = 98 ∧ j = 13)) → σ1.1 x j = σ.1 x j := fun x j q => by
        rw [hσ1]
        by_cases hx : x = 98
        · rw [P1_nj (by omega), rngS_ne (by omega)]
        · rw [P1_ne hx, rngS_ne (by omega)]
      have n13 : σ1.1 98 13 = l + 1 := by rw [hσ1, P1_eq]
      have n100 : ∀ s, 0 ≤ s → a ≤ s → s < e → σ1.1 100 s.toNat = l := fun s z z1 z2 => by rw [hσ1, P1_ne (by omega)]; exact rngS_in z ⟨z1, z2⟩
      have n100' : ∀ s, 0 ≤ s → s < a ∨ e ≤ s → σ1.1 100 s.toNat = σ.1 100 s.toNat := fun s z z1 => by rw [hσ1, P1_ne (by omega)]; exact rngS_out z z1
      by_cases hend : t ≤ e
      · refine ⟨σ1, n2, n1, ?_, fun s z z1 => ?_, fun s z z1 => n100' s z (by omega), fun b v5 v6 out K => ?_⟩
        · rw [n13, lnC, ← he, if_pos hend]
        · rw [lnO, ← he, if_pos (by omega), n100 s (by omega) z (by omega)]; omega
        · skip
          refine go_iload (at_of tX1_breakParagraph 0 4 rfl) rfl rfl ?_
          refine go_sipush (at_of tX1_breakParagraph 0 5 rfl) (by decide) ?_
          refine go_icmp_ge (tgt := 77) (at_of tX1_breakParagraph 0 6 rfl) (by decide) (fun h10 => ?_) (fun h10 => ?_)
          · exfalso; omega
          refine go_aload_n (at_of tX1_breakParagraph 0 7 rfl) rfl ?_
          refine go_iload_n (at_of tX1_breakParagraph 0 8 rfl) rfl ?_
          refine go_iload_n (at_of tX1_breakParagraph 0 9 rfl) rfl ?_
          refine go_cV (con_endOfLine hS hW (by omega)) lk_X1_122 rfl G_98 (at_of tX1_breakParagraph 0 10 rfl) rfl (by decide) rfl (Nat.le_of_ble_eq_true rfl) rfl (by first | decide | exact ⟨Nat.zero_le _, Nat.zero_le _⟩) ?_
          rw [← he]
          refine go_istore (at_of tX1_breakParagraph 0 11 rfl) rfl rfl ?_
          refine go_iload_n (at_of tX1_breakParagraph 0 12 rfl) rfl ?_
          refine go_istore (at_of tX1_breakParagraph 0 13 rfl) rfl rfl ?_
          have i0 := fun (K' : _) => inner σ hS a e l i out q0 (by omega) q5 K' (e - a).toNat
          rw [show σ = rngS σ 100 a a l from rngS_0.symm]
          refine i0 (fun b => ?_) _ a (by omega) (by omega)
          refine go_aload_n (at_of tX1_breakParagraph 1 9 rfl) rfl ?_
          refine go_dup (at_of tX1_breakParagraph 1 10 rfl) rfl ?_
          refine go_getf fl_X1_53 rfl G_98 (at_of tX1_breakParagraph 1 11 rfl) ?_
          rw [el]
          refine go_iconst (at_of tX1_breakParagraph 1 12 rfl) (by unfold in32; omega) ?_
          refine go_iadd (at_of tX1_breakParagraph 1 13 rfl) (by unfold in32; omega) ?_
          refine go_put1 fp_X1_53 rfl (Or.inl rfl) G_98 (Or.inl rfl) (at_of tX1_breakParagraph 1 14 rfl) ?_
          rw [← hσ1]
          refine go_iload (at_of tX1_breakParagraph 1 15 rfl) rfl rfl ?_
          refine go_istore_n (at_of tX1_breakParagraph 2 0 rfl) rfl rfl ?_
          refine go_iload_n (at_of tX1_breakParagraph 2 1 rfl) rfl ?_
          refine go_iload_n (at_of tX1_breakParagraph 2 2 rfl) rfl ?_
          refine go_icmp_lt (tgt := 71) (at_of tX1_breakParagraph 2 3 rfl) (by decide) (fun h65 => ?_) (fun h65 => ?_)
          · exfalso; omega
          refine go_goto (tgt := 77) (at_of tX1_breakParagraph 2 4 rfl) (by decide) ?_
          exact K _ _ _ _ _
      · have hW1 : WH σ1 := ⟨by rw [n1 _ _ (by omega)]; exact hw1, by rw [n1 _ _ (by omega)]; exact hw2, by rw [n1 _ _ (by omega)]; exact hw3, by rw [n1 _ _ (by omega)]; exact hw4⟩
        have eB : blB σ1 = blB σ := by funext s; unfold blB; rw [n1 _ _ (by omega)]
        have ew : σ1.1 98 0 = σ.1 98 0 := n1 _ _ (by omega)
        obtain ⟨σ2, r1, r2, r3, r4, r5, r6⟩ := ih σ1 e (i + 1) (l + 1) (by rw [n2]; exact hS) hW1 (by omega) (by omega) (by omega) (by omega) (by omega) n13 (by omega) (by omega)
        rw [eB, ew] at r3 r4
        refine ⟨σ2, r1.trans n2, fun x j q => (r2 x j q).trans (n1 x j q), ?_, fun s z z1 => ?_, fun s z z1 => (r5 s z (by omega)).trans (n100' s z (by omega)), fun b v5 v6 out K => ?_⟩
        · rw [r3, lnC, ← he, if_neg hend]; omega
        · rw [lnO, ← he]
          by_cases hs : s < e
          · rw [if_pos hs, r5 s (by omega) (by omega), n100 s (by omega) z hs]; omega
          · rw [if_neg hs, r4 s (by omega) z1]; omega
        · skip
          refine go_iload (at_of tX1_breakParagraph 0 4 rfl) rfl rfl ?_
          refine go_sipush (at_of tX1_breakParagraph 0 5 rfl) (by decide) ?_
          refine go_icmp_ge (tgt := 77) (at_of tX1_breakParagraph 0 6 rfl) (by decide) (fun h10 => ?_) (fun h10 => ?_)
          · exfalso; omega
          refine go_aload_n (at_of tX1_breakParagraph 0 7 rfl) rfl ?_
          refine go_iload_n (at_of tX1_breakParagraph 0 8 rfl) rfl ?_
          refine go_iload_n (at_of tX1_breakParagraph 0 9 rfl) rfl ?_
          refine go_cV (con_endOfLine hS hW (by omega)) lk_X1_122 rfl G_98 (at_of tX1_breakParagraph 0 10 rfl) rfl (by decide) rfl (Nat.le_of_ble_eq_true rfl) rfl (by first | decide | exact ⟨Nat.zero_le _, Nat.zero_le _⟩) ?_
          rw [← he]
          refine go_istore (at_of tX1_breakParagraph 0 11 rfl) rfl rfl ?_
          refine go_iload_n (at_of tX1_breakParagraph 0 12 rfl) rfl ?_
          refine go_istore (at_of tX1_breakParagraph 0 13 rfl) rfl rfl ?_
          have i0 := fun (K' : _) => inner σ hS a e l i out q0 (by omega) q5 K' (e - a).toNat
          rw [show σ = rngS σ 100 a a l from rngS_0.symm]
          refine i0 (fun b => ?_) _ a (by omega) (by omega)
          refine go_aload_n (at_of tX1_breakParagraph 1 9 rfl) rfl ?_
          refine go_dup (at_of tX1_breakParagraph 1 10 rfl) rfl ?_
          refine go_getf fl_X1_53 rfl G_98 (at_of tX1_breakParagraph 1 11 rfl) ?_
          rw [el]
          refine go_iconst (at_of tX1_breakParagraph 1 12 rfl) (by unfold in32; omega) ?_
          refine go_iadd (at_of tX1_breakParagraph 1 13 rfl) (by unfold in32; omega) ?_
          refine go_put1 fp_X1_53 rfl (Or.inl rfl) G_98 (Or.inl rfl) (at_of tX1_breakParagraph 1 14 rfl) ?_
          rw [← hσ1]
          refine go_iload (at_of tX1_breakParagraph 1 15 rfl) rfl rfl ?_
          refine go_istore_n (at_of tX1_breakParagraph 2 0 rfl) rfl rfl ?_
          refine go_iload_n (at_of tX1_breakParagraph 2 1 rfl) rfl ?_
          refine go_iload_n (at_of tX1_breakParagraph 2 2 rfl) rfl ?_
          refine go_icmp_lt (tgt := 71) (at_of tX1_breakParagraph 2 3 rfl) (by decide) (fun h65 => ?_) (fun h65 => ?_)
          rotate_left
          · exfalso; omega
          refine go_iinc (at_of tX1_breakParagraph 2 5 rfl) rfl (by unfold in32; omega) rfl rfl ?_
          refine go_goto (tgt := 5) (at_of tX1_breakParagraph 2 6 rfl) (by decide) ?_
          exact r6 _ _ _ _ K
  obtain ⟨σ', r1, r2, r3, r4, r5, r6⟩ := outer 512 σ a0 0 l0 hS hW h.1 h.2.1 (by omega) (by omega) (by omega) hl (by omega) (by omega)
  refine ⟨σ', ?_, r1, r2, r3, r4, r5⟩
  refine con_of_go mfX1_breakParagraph.1 trivial (Nat.le_of_ble_eq_true rfl) rfl (by decide) ?_
  show Go _ _ _ _ 0 [vA _, vI _, vI _, vT 9 0, vT 9 0, vT 9 0, vT 9 0] [] _ _
  refine go_iload_n (at_of tX1_breakParagraph 0 0 rfl) rfl ?_
  refine go_istore_n (at_of tX1_breakParagraph 0 1 rfl) rfl rfl ?_
  refine go_iconst (at_of tX1_breakParagraph 0 2 rfl) (by unfold in32; omega) ?_
  refine go_istore (at_of tX1_breakParagraph 0 3 rfl) rfl rfl ?_
  refine r6 _ _ _ _ (fun b v3 v4 v5 v6 => ?_)
  exact go_retv (at_of tX1_breakParagraph 2 7 rfl) rfl
/-- the lines ahead of a paragraph, whose signs begin at fs -/
def lsF (B : Int → Bool) (w : Int) (fs : Int → Int) : Nat → Int
  | 0 => 0
  | q + 1 => lsF B w fs q + lnC B w (fs (q + 1)) 512 (fs q)
def lsI (B : Int → Bool) (w : Int) (fs : Int → Int) (q : Int) : Int := lsF B w fs q.toNat
theorem lsI_s {B : Int → Bool} {w : Int} {fs : Int → Int} {q : Int} (h : 0 ≤ q) : lsI B w fs (q + 1) = lsI B w fs q + lnC B w (fs (q + 1)) 512 (fs q) := by
  unfold lsI; rw [show (q + 1).toNat = q.toNat + 1 by omega, lsF, show ((q.toNat : Nat) : Int) = q by omega]
theorem lsF_b {B : Int → Bool} {w E : Int} {fs : Int → Int} (hw : 1 ≤ w) (h0 : fs 0 = 0) (hf : ∀ q, 0 ≤ q → q < E → fs q ≤ fs (q + 1)) : ∀ (m : Nat), (m : Int) ≤ E → m ≤ lsF B w fs m ∧ lsF B w fs m ≤ m + fs m := by
  intro m
  induction m with
  | zero => intro _; rw [lsF]; have h0 : fs ((0 : Nat) : Int) = 0 := h0; omega
  | succ m ih =>
    intro h
    have h1 := ih (by omega)
    have h2 := hf m (by omega) (by omega)
    have h3 := lnC_b (B := B) hw (t := fs (m + 1)) 512 (fs m) h2
    rw [lsF]
    have e : ((m + 1 : Nat) : Int) = (m : Int) + 1 := by omega
    rw [e]
    omega
theorem lsI_b {B : Int → Bool} {w E q : Int} {fs : Int → Int} (hw : 1 ≤ w) (h0 : fs 0 = 0) (hf : ∀ q, 0 ≤ q → q < E → fs q ≤ fs (q + 1)) (h1 : 0 ≤ q) (h2 : q ≤ E) : q ≤ lsI B w fs q ∧ lsI B w fs q ≤ q + fs q := by
  have := lsF_b (B := B) hw h0 hf q.toNat (by omega)
  rw [show ((q.toNat : Nat) : Int) = q by omega] at this
  exact this
theorem fs_mono {E : Int} {fs : Int → Int} (hf : ∀ q, 0 ≤ q → q < E → fs q ≤ fs (q + 1)) : ∀ (d : Nat) (q : Int), 0 ≤ q → q + d ≤ E → fs q ≤ fs (q + d) := by
  intro d
  induction d with
  | zero => intro q _ _; rw [show q + ((0 : Nat) : Int) = q by omega]; exact Int.le_refl _
  | succ d ih => intro q h0 h1; have h2 := ih q h0 (by omega); have h3 := hf (q + d) (by omega) (by omega); rw [show q + ((d + 1 : Nat) : Int) = q + d + 1 by omega]; omega
theorem fs_le {E q q' : Int} {fs : Int → Int} (hf : ∀ q, 0 ≤ q → q < E → fs q ≤ fs (q + 1)) (h0 : 0 ≤ q) (h1 : q ≤ q') (h2 : q' ≤ E) : fs q ≤ fs q' := by
  have := fs_mono hf (q' - q).toNat q h0 (by omega)
  rw [show q + (((q' - q).toNat : Nat) : Int) = q' by omega] at this
  exact this
def BkI (σ0 σ : St) (fs : Int → Int) (q : Int) : Prop :=
  (σ.2 = σ0.2 ∧ ∀ x j : Nat, ¬ (x = 100 ∨ x = 104 ∨ (x = 98 ∧ j = 13)) → σ.1 x j = σ0.1 x j) ∧ σ.1 98 13 = lsI (blB σ0) (σ0.1 98 0) fs q ∧ (∀ u : Int, 0 ≤ u → u < q → σ.1 104 u.toNat = lsI (blB σ0) (σ0.1 98 0) fs u) ∧
  ∀ u s : Int, 0 ≤ u → u < q → fs u ≤ s → s < fs (u + 1) → σ.1 100 s.toNat = lsI (blB σ0) (σ0.1 98 0) fs u + lnO (blB σ0) (σ0.1 98 0) (fs (u + 1)) s 512 (fs u)
/-- where paragraphs' signs begin -/
def FsW (σ : St) (fs : Int → Int) (E : Int) : Prop := σ.1 98 12 = E ∧ 1 ≤ E ∧ E ≤ 201 ∧ (∀ q, 0 ≤ q → q ≤ E → σ.1 103 q.toNat = fs q) ∧ fs 0 = 0 ∧ (∀ q, 0 ≤ q → q < E → fs q ≤ fs (q + 1)) ∧ fs E ≤ 500
theorem con_breakLines (hS : Str σ.2.1) (hW : WH σ) {fs : Int → Int} {E : Int} (hf : FsW σ fs E) : ∃ σ', Con 3 mX1_breakLines 0 0 [vA 98] σ (vT 8 0, σ') ∧ BkI σ σ' fs E ∧ σ'.1 104 E.toNat = lsI (blB σ) (σ.1 98 0) fs E := by
  obtain ⟨σ0, hσ0⟩ : ∃ σ0, σ0 = σ := ⟨σ, rfl⟩
  obtain ⟨k1, k2, k3, k4, k5, k6, k7⟩ := hf
  obtain ⟨hw1, hw2, hw3, hw4⟩ := id hW
  have start : BkI σ0 (P1 σ 98 13 0) fs 0 := ⟨⟨by rw [hσ0]; rfl, fun x j q => by
      rw [hσ0]
      by_cases hx : x = 98
      · exact P1_nj (by omega)
      · exact P1_ne hx⟩, P1_eq, fun u a b => by omega, fun u s a b => by omega⟩
  rw [← hσ0] at k1 k4 hw1 hw2 hw3 hw4 hS
  have key := loop_up (α := Unit) (Rep := fun σ' _ i => BkI σ0 σ' fs i ∧ 0 ≤ i) (f := fun _ _ => ()) (hi := E)
    (G := fun b _ q σ out => Go (fun _ => 0) 3 mX1_breakLines b 7 [vA 98, vI q] [] σ out) (fun σ _ q h hlo => ?_) E.toNat (P1 σ 98 13 0) () 0 ⟨start, by omega⟩ (by omega)
  · obtain ⟨σ1, ⟨⟨⟨f0, f1⟩, f2, f3, f4⟩, -⟩, q3⟩ := key
    have hS1 : Str σ1.2.1 := by rw [f0]; exact hS
    have hb := lsI_b (B := blB σ0) (w := σ0.1 98 0) (q := E) (by omega) k5 k6 (by omega) (by omega)
    refine ⟨M1 σ1 104 E (lsI (blB σ0) (σ0.1 98 0) fs E), ?_, ⟨⟨by rw [← hσ0]; exact f0, fun x j q => by rw [M1_ne (by omega), ← hσ0]; exact f1 x j q⟩, ?_, fun u a b => ?_, fun u s a b c d => ?_⟩, by rw [M1_eq rfl, hσ0]⟩
    · rw [hσ0] at hS
      refine con_of_go mfX1_breakLines.1 trivial (Nat.le_of_ble_eq_true rfl) rfl (by decide) ?_
      show Go _ _ _ _ 0 [vA _, vT 9 0] [] _ _
      refine go_aload_n (at_of tX1_breakLines 0 0 rfl) rfl ?_
      refine go_iconst (at_of tX1_breakLines 0 1 rfl) (by unfold in32; omega) ?_
      refine go_put1 fp_X1_53 rfl (Or.inl rfl) G_98 (Or.inl rfl) (at_of tX1_breakLines 0 2 rfl) ?_
      refine go_iconst (at_of tX1_breakLines 0 3 rfl) (by unfold in32; omega) ?_
      refine go_istore_n (at_of tX1_breakLines 0 4 rfl) rfl rfl ?_
      refine q3 _ _ (fun b => ?_)
      have E1 : σ1.1 98 12 = E := by rw [f1 _ _ (by omega)]; exact k1
      refine go_iload_n (at_of tX1_breakLines 0 5 rfl) rfl ?_
      refine go_aload_n (at_of tX1_breakLines 0 6 rfl) rfl ?_
      refine go_getf fl_X1_50 rfl G_98 (at_of tX1_breakLines 0 7 rfl) ?_
      refine go_icmp_ge (tgt := 55) (at_of tX1_breakLines 0 8 rfl) (by decide) (fun h12 => ?_) (fun h12 => ?_)
      rotate_left
      · exfalso; omega
      refine go_aload_n (at_of tX1_breakLines 1 13 rfl) rfl ?_
      refine go_getr (q := 104) fl_X1_35 rfl G_98 ((hS1 _ _ rfl).trans rfl) (at_of tX1_breakLines 1 14 rfl) ?_
      refine go_aload_n (at_of tX1_breakLines 1 15 rfl) rfl ?_
      refine go_getf fl_X1_50 rfl G_98 (at_of tX1_breakLines 2 0 rfl) ?_
      rw [E1]
      refine go_aload_n (at_of tX1_breakLines 2 1 rfl) rfl ?_
      refine go_getf fl_X1_53 rfl G_98 (at_of tX1_breakLines 2 2 rfl) ?_
      rw [f2]
      refine go_cN (con_setCell G_104 (by omega) (by omega)) lk_X1_80 rfl (at_of tX1_breakLines 2 3 rfl) rfl (by decide) rfl (Nat.le_of_ble_eq_true rfl) rfl (by first | decide | exact ⟨Nat.zero_le _, Nat.zero_le _⟩) ?_
      exact go_retv (at_of tX1_breakLines 2 4 rfl) rfl
    · rw [M1_ne (by omega), ← hσ0]; exact f2
    · rw [M1_nj (by omega), ← hσ0]; exact f3 u a b
    · rw [M1_ne (by omega), ← hσ0]; exact f4 u s a b c d
  · clear start hσ0
    obtain ⟨⟨⟨f0, f1⟩, f2, f3, f4⟩, hq⟩ := h
    have hS1 : Str σ.2.1 := by rw [f0]; exact hS
    have hb := lsI_b (B := blB σ0) (w := σ0.1 98 0) (q := q) (by omega) k5 k6 (by omega) (by omega)
    have g1 := k4 q hq (by omega)
    have g2 := k4 (q + 1) (by omega) (by omega)
    have g3 := k6 q hq (by omega)
    have g4 := fs_le k6 (q := q + 1) (q' := E) (by omega) (by omega) (by omega)
    have g5 := fs_le k6 (q := 0) (q' := q) (by omega) (by omega) (by omega)
    obtain ⟨σ2, hσ2⟩ : ∃ σ2, σ2 = M1 σ 104 q (lsI (blB σ0) (σ0.1 98 0) fs q) := ⟨_, rfl⟩
    have n2 : σ2.2 = σ.2 := by rw [hσ2]; rfl
    have n1 : ∀ x j : Nat, x ≠ 104 → σ2.1 x j = σ.1 x j := fun x j z => by rw [hσ2, M1_ne z]
    have eB : blB σ2 = blB σ0 := by funext s; unfold blB; rw [n1 _ _ (by omega), f1 _ _ (by omega)]
    have ew : σ2.1 98 0 = σ0.1 98 0 := by rw [n1 _ _ (by omega), f1 _ _ (by omega)]
    have hW2 : WH σ2 := ⟨by rw [ew]; exact hw1, by rw [ew]; exact hw2, by rw [n1 _ _ (by omega), f1 _ _ (by omega)]; exact hw3, by rw [n1 _ _ (by omega), f1 _ _ (by omega)]; exact hw4⟩
    obtain ⟨σ3, c1, c2, c3, c4, c5, c6⟩ := con_breakParagraph (σ := σ2) (by rw [n2]; exact hS1) hW2 (a0 := fs q) (t := fs (q + 1)) (l0 := lsI (blB σ0) (σ0.1 98 0) fs q) (by omega) (by rw [n1 _ _ (by omega)]; exact f2) (by omega)
    rw [eB, ew] at c4 c5
    have hS3 : Str σ3.2.1 := by rw [c2, n2]; exact hS1
    refine ⟨σ3, ⟨⟨⟨(c2.trans n2).trans f0, fun x j z => ?_⟩, ?_, fun u a b => ?_, fun u s a b c d => ?_⟩, by omega⟩, fun b out K => ?_⟩
    · rw [c3 x j (by omega), n1 _ _ (by omega), f1 x j z]
    · rw [c4, lsI_s hq]
    · rw [c3 _ _ (by omega)]
      by_cases hu : u = q
      · rw [hu, hσ2, M1_eq rfl]
      · rw [hσ2, M1_nj (by omega)]; exact f3 u a (by omega)
    · by_cases hu : u = q
      · rw [hu] at c d ⊢; exact c5 s c d
      · have := fs_le k6 (q := u + 1) (q' := q) (by omega) (by omega) (by omega)
        have := fs_le k6 (q := 0) (q' := u) (by omega) (by omega) (by omega)
        rw [c6 s (by omega) (by omega), n1 _ _ (by omega)]
        exact f4 u s a (by omega) c d
    · have E1 : σ.1 98 12 = E := by rw [f1 _ _ (by omega)]; exact k1
      have G1 : σ2.1 103 q.toNat = fs q := by rw [n1 _ _ (by omega), f1 _ _ (by omega)]; exact g1
      have G2 : σ2.1 103 (q + 1).toNat = fs (q + 1) := by rw [n1 _ _ (by omega), f1 _ _ (by omega)]; exact g2
      have hS2 : Str σ2.2.1 := by rw [n2]; exact hS1
      refine go_iload_n (at_of tX1_breakLines 0 5 rfl) rfl ?_
      refine go_aload_n (at_of tX1_breakLines 0 6 rfl) rfl ?_
      refine go_getf fl_X1_50 rfl G_98 (at_of tX1_breakLines 0 7 rfl) ?_
      refine go_icmp_ge (tgt := 55) (at_of tX1_breakLines 0 8 rfl) (by decide) (fun h12 => ?_) (fun h12 => ?_)
      · exfalso; omega
      refine go_aload_n (at_of tX1_breakLines 0 9 rfl) rfl ?_
      refine go_getr (q := 104) fl_X1_35 rfl G_98 ((hS1 _ _ rfl).trans rfl) (at_of tX1_breakLines 0 10 rfl) ?_
      refine go_iload_n (at_of tX1_breakLines 0 11 rfl) rfl ?_
      refine go_aload_n (at_of tX1_breakLines 0 12 rfl) rfl ?_
      refine go_getf fl_X1_53 rfl G_98 (at_of tX1_breakLines 0 13 rfl) ?_
      rw [f2]
      refine go_cN (con_setCell G_104 (by omega) (by omega)) lk_X1_80 rfl (at_of tX1_breakLines 0 14 rfl) rfl (by decide) rfl (Nat.le_of_ble_eq_true rfl) rfl (by first | decide | exact ⟨Nat.zero_le _, Nat.zero_le _⟩) ?_
      rw [← hσ2]
      refine go_aload_n (at_of tX1_breakLines 0 15 rfl) rfl ?_
      refine go_aload_n (at_of tX1_breakLines 1 0 rfl) rfl ?_
      refine go_getr (q := 103) fl_X1_32 rfl G_98 ((hS2 _ _ rfl).trans rfl) (at_of tX1_breakLines 1 1 rfl) ?_
      refine go_iload_n (at_of tX1_breakLines 1 2 rfl) rfl ?_
      refine go_cN (con_cell G_103 (by omega) (by omega)) lk_X1_76 rfl (at_of tX1_breakLines 1 3 rfl) rfl (by decide) rfl (Nat.le_of_ble_eq_true rfl) rfl (by first | decide | exact ⟨Nat.zero_le _, Nat.zero_le _⟩) ?_
      rw [G1]
      refine go_aload_n (at_of tX1_breakLines 1 4 rfl) rfl ?_
      refine go_getr (q := 103) fl_X1_32 rfl G_98 ((hS2 _ _ rfl).trans rfl) (at_of tX1_breakLines 1 5 rfl) ?_
      refine go_iload_n (at_of tX1_breakLines 1 6 rfl) rfl ?_
      refine go_iconst (at_of tX1_breakLines 1 7 rfl) (by unfold in32; omega) ?_
      refine go_iadd (at_of tX1_breakLines 1 8 rfl) (by unfold in32; omega) ?_
      refine go_cN (con_cell G_103 (by omega) (by omega)) lk_X1_76 rfl (at_of tX1_breakLines 1 9 rfl) rfl (by decide) rfl (Nat.le_of_ble_eq_true rfl) rfl (by first | decide | exact ⟨Nat.zero_le _, Nat.zero_le _⟩) ?_
      rw [G2]
      refine go_cV (c1) lk_X1_118 rfl G_98 (at_of tX1_breakLines 1 10 rfl) rfl (by decide) rfl (Nat.le_of_ble_eq_true rfl) rfl (by first | decide | exact ⟨Nat.zero_le _, Nat.zero_le _⟩) ?_
      refine go_iinc (at_of tX1_breakLines 1 11 rfl) rfl (by unfold in32; omega) rfl rfl ?_
      refine go_goto (tgt := 7) (at_of tX1_breakLines 1 12 rfl) (by decide) ?_
      exact K _
end LayLines
