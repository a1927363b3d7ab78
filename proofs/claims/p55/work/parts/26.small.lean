/-! The small things of the office: styles, records, fields; and the last questions of a row. -/
theorem G_84 : Gam 84 = (0, 8) := by decide +kernel
theorem G_85 : Gam 85 = (0, 8) := by decide +kernel
theorem G_86 : Gam 86 = (0, 8) := by decide +kernel
theorem G_88 : Gam 88 = (0, 9) := by decide +kernel
theorem G_89 : Gam 89 = (1, 3) := by decide +kernel
theorem G_90 : Gam 90 = (0, 3) := by decide +kernel
theorem G_91 : Gam 91 = (2, 128) := by decide +kernel
theorem G_93 : Gam 93 = (0, 20) := by decide +kernel
theorem G_94 : Gam 94 = (0, 20) := by decide +kernel
theorem G_95 : Gam 95 = (1, 20) := by decide +kernel
theorem G_97 : Gam 97 = (0, 15) := by decide +kernel
theorem G_99 : Gam 99 = (1, 512) := by decide +kernel
theorem G_100 : Gam 100 = (0, 512) := by decide +kernel
theorem G_101 : Gam 101 = (0, 202) := by decide +kernel
theorem G_102 : Gam 102 = (0, 202) := by decide +kernel
theorem G_103 : Gam 103 = (0, 202) := by decide +kernel
theorem G_104 : Gam 104 = (0, 202) := by decide +kernel
theorem G_105 : Gam 105 = (1, 202) := by decide +kernel
theorem G_106 : Gam 106 = (0, 1024) := by decide +kernel
theorem G_107 : Gam 107 = (0, 1024) := by decide +kernel
theorem G_108 : Gam 108 = (0, 20) := by decide +kernel
section Small
variable {σ : St} {k : Nat} {R : RowD}
theorem con_areBookmarksOrdered (hS : Str σ.2.1) (hk : k < 8) (hR : RepR σ k R) : Con 4 mX7_areBookmarksOrdered 0 0 [vA (4 + 10 * k)] σ (vI 1, σ) := by
  obtain ⟨g1, g2, g3, g4, g5, g6, g7, g8, g9, g10⟩ := gamk k hk
  obtain ⟨p1, p2, p3, p4, p5, p6, p7, p8, p9⟩ := strk hS k hk
  have hn := hR.1
  obtain ⟨hw1, hw2, hw3⟩ := hR.2.2.2
  have key : ∀ (m : Nat) (b : Nat × Nat) (i : Int), 0 ≤ i → i + m = 6 → Go (fun _ => 0) 4 mX7_areBookmarksOrdered b 2 [vA (4 + 10 * k), vI i] [] σ (vI 1, σ) := by
    intro m
    induction m with
    | zero =>
      intro b i h0 h1
      refine go_iload_n (at_of tX7_areBookmarksOrdered 0 2 rfl) rfl ?_
      refine go_bipush (at_of tX7_areBookmarksOrdered 0 3 rfl) (by decide) ?_
      refine go_icmp_ge (tgt := 37) (at_of tX7_areBookmarksOrdered 0 4 rfl) (by decide) (fun h5 => ?_) (fun h5 => ?_)
      rotate_left
      · exfalso; omega
      refine go_iconst (at_of tX7_areBookmarksOrdered 1 4 rfl) (by unfold in32; omega) ?_
      first | exact go_reti (at_of tX7_areBookmarksOrdered 1 5 rfl) rfl | exact go_reti (at_of tX7_areBookmarksOrdered 1 5 rfl) (le_i (by omega)) | exact go_reti (at_of tX7_areBookmarksOrdered 1 5 rfl) (le_i (by first | exact bI_t (by omega) | exact bI_f (by omega)))
    | succ m ih =>
      intro b i h0 h1
      refine go_iload_n (at_of tX7_areBookmarksOrdered 0 2 rfl) rfl ?_
      refine go_bipush (at_of tX7_areBookmarksOrdered 0 3 rfl) (by decide) ?_
      refine go_icmp_ge (tgt := 37) (at_of tX7_areBookmarksOrdered 0 4 rfl) (by decide) (fun h5 => ?_) (fun h5 => ?_)
      · exfalso; omega
      refine go_aload_n (at_of tX7_areBookmarksOrdered 0 5 rfl) rfl ?_
      refine go_iload_n (at_of tX7_areBookmarksOrdered 0 6 rfl) rfl ?_
      refine go_cV (r_hasBookmark hS hk hR (by omega)) lk_X7_80 rfl g2 (at_of tX7_areBookmarksOrdered 0 7 rfl) rfl (by decide) rfl (Nat.le_of_ble_eq_true rfl) rfl (by first | decide | exact ⟨Nat.zero_le _, Nat.zero_le _⟩) ?_
      refine go_if_eq (tgt := 31) (at_of tX7_areBookmarksOrdered 0 8 rfl) (by decide) (fun h13 => ?_) (fun h13 => ?_)
      · refine go_iinc (at_of tX7_areBookmarksOrdered 1 2 rfl) rfl (by unfold in32; omega) rfl rfl ?_
        refine go_goto (tgt := 2) (at_of tX7_areBookmarksOrdered 1 3 rfl) (by decide) ?_
        exact ih _ _ (by omega) (by omega)
      · refine go_aload_n (at_of tX7_areBookmarksOrdered 0 9 rfl) rfl ?_
        refine go_iload_n (at_of tX7_areBookmarksOrdered 0 10 rfl) rfl ?_
        refine go_cV (r_bookmarkEnd hS hk hR (by omega)) lk_X7_83 rfl g2 (at_of tX7_areBookmarksOrdered 0 11 rfl) rfl (by decide) rfl (Nat.le_of_ble_eq_true rfl) rfl (by first | decide | exact ⟨Nat.zero_le _, Nat.zero_le _⟩) ?_
        refine go_aload_n (at_of tX7_areBookmarksOrdered 0 12 rfl) rfl ?_
        refine go_iload_n (at_of tX7_areBookmarksOrdered 0 13 rfl) rfl ?_
        refine go_cV (r_bookmarkBegin hS hk hR (by omega)) lk_X7_77 rfl g2 (at_of tX7_areBookmarksOrdered 0 14 rfl) rfl (by decide) rfl (Nat.le_of_ble_eq_true rfl) rfl (by first | decide | exact ⟨Nat.zero_le _, Nat.zero_le _⟩) ?_
        refine go_icmp_ge (tgt := 31) (at_of tX7_areBookmarksOrdered 0 15 rfl) (by decide) (fun h26 => ?_) (fun h26 => ?_)
        · first
          | exfalso; omega
          | refine go_iinc (at_of tX7_areBookmarksOrdered 1 2 rfl) rfl (by unfold in32; omega) rfl rfl ?_
            refine go_goto (tgt := 2) (at_of tX7_areBookmarksOrdered 1 3 rfl) (by decide) ?_
            exact ih _ _ (by omega) (by omega)
        · first
          | exfalso; omega
          | refine go_iconst (at_of tX7_areBookmarksOrdered 1 0 rfl) (by unfold in32; omega) ?_
            first | exact go_reti (at_of tX7_areBookmarksOrdered 1 1 rfl) rfl | exact go_reti (at_of tX7_areBookmarksOrdered 1 1 rfl) (le_i (by omega)) | exact go_reti (at_of tX7_areBookmarksOrdered 1 1 rfl) (le_i (by first | exact bI_t (by omega) | exact bI_f (by omega)))
  refine con_of_go mfX7_areBookmarksOrdered.1 (Or.inr rfl) (Nat.le_of_ble_eq_true rfl) rfl (by decide) ?_
  show Go _ _ _ _ 0 [vA _, vT 9 0] [] _ _
  refine go_iconst (at_of tX7_areBookmarksOrdered 0 0 rfl) (by unfold in32; omega) ?_
  refine go_istore_n (at_of tX7_areBookmarksOrdered 0 1 rfl) rfl rfl ?_
  exact key 6 _ 0 (by omega) (by omega)
/-- whether the letters here are those there at which p holds -/
def cmpF (p : Int → Bool) (G F : Int → Int) (n : Int) : Nat → Int → Int → Bool
  | 0, _, t => decide (t = n)
  | m + 1, i, t => if p i = true then (if n ≤ t ∨ G t ≠ F i then false else cmpF p G F n m (i + 1) (t + 1)) else cmpF p G F n m (i + 1) t
theorem con_isTextOf_old {k2 : Nat} {R2 : RowD} (hS : Str σ.2.1) (hk : k < 8) (hR : RepR σ k R) (hk2 : k2 < 8) (hR2 : RepR σ k2 R2) : Con 2 mX7_isTextOf 0 0 [vA (4 + 10 * k), vA (4 + 10 * k2), vI 1] σ (vI (bI (cmpF (oldB R2.1 R2.2.1) (R.1 0) (R2.1 0) R.2.1 R2.2.1.toNat 0 0 = true)), σ) := by
  obtain ⟨g1, g2, g3, g4, g5, g6, g7, g8, g9, g10⟩ := gamk k hk
  obtain ⟨p1, p2, p3, p4, p5, p6, p7, p8, p9⟩ := strk hS k hk
  have hn := hR.1
  obtain ⟨hw1, hw2, hw3⟩ := hR.2.2.2
  obtain ⟨s1, s2, s3, s4, s5, s6, s7, s8, s9, s10⟩ := gamk k2 hk2
  obtain ⟨t1, t2, t3, t4, t5, t6, t7, t8, t9⟩ := strk hS k2 hk2
  have hn2 := hR2.1
  obtain ⟨hx1, hx2, hx3⟩ := hR2.2.2.2
  have key : ∀ (m : Nat) (b : Nat × Nat) (i t : Int), 0 ≤ i → i + m = R2.2.1 → 0 ≤ t → t ≤ i → Go (fun _ => 0) 2 mX7_isTextOf b 5 [vA (4 + 10 * k), vA (4 + 10 * k2), vI 1, vI t, vI i] [] σ (vI (bI (cmpF (oldB R2.1 R2.2.1) (R.1 0) (R2.1 0) R.2.1 m i t = true)), σ) := by
    intro m
    induction m with
    | zero =>
      intro b i t h0 h1 h2 h3
      refine go_iload (at_of tX7_isTextOf 0 4 rfl) rfl rfl ?_
      refine go_aload_n (at_of tX7_isTextOf 0 5 rfl) rfl ?_
      refine go_getf fl_X7_21 rfl s2 (at_of tX7_isTextOf 0 6 rfl) ?_
      refine go_icmp_ge (tgt := 74) (at_of tX7_isTextOf 0 7 rfl) (by decide) (fun h11 => ?_) (fun h11 => ?_)
      rotate_left
      · exfalso; omega
      refine go_iload_n (at_of tX7_isTextOf 2 5 rfl) rfl ?_
      refine go_aload_n (at_of tX7_isTextOf 2 6 rfl) rfl ?_
      refine go_getf fl_X7_21 rfl g2 (at_of tX7_isTextOf 2 7 rfl) ?_
      refine go_icmp_ne (tgt := 86) (at_of tX7_isTextOf 2 8 rfl) (by decide) (fun h79 => ?_) (fun h79 => ?_)
      · first
        | exfalso; omega
        | refine go_iconst (at_of tX7_isTextOf 2 11 rfl) (by unfold in32; omega) ?_
          exact go_reti (at_of tX7_isTextOf 2 12 rfl) (le_i (by first | exact bI_t (by rw [cmpF]; exact decide_eq_true (by omega)) | exact bI_f (by rw [cmpF]; intro q; exact absurd (of_decide_eq_true q) (by omega))))
      · first
        | exfalso; omega
        | refine go_iconst (at_of tX7_isTextOf 2 9 rfl) (by unfold in32; omega) ?_
          refine go_goto (tgt := 87) (at_of tX7_isTextOf 2 10 rfl) (by decide) ?_
          exact go_reti (at_of tX7_isTextOf 2 12 rfl) (le_i (by first | exact bI_t (by rw [cmpF]; exact decide_eq_true (by omega)) | exact bI_f (by rw [cmpF]; intro q; exact absurd (of_decide_eq_true q) (by omega))))
    | succ m ih =>
      intro b i t h0 h1 h2 h3
      refine go_iload (at_of tX7_isTextOf 0 4 rfl) rfl rfl ?_
      refine go_aload_n (at_of tX7_isTextOf 0 5 rfl) rfl ?_
      refine go_getf fl_X7_21 rfl s2 (at_of tX7_isTextOf 0 6 rfl) ?_
      refine go_icmp_ge (tgt := 74) (at_of tX7_isTextOf 0 7 rfl) (by decide) (fun h11 => ?_) (fun h11 => ?_)
      · exfalso; omega
      refine go_iload_n (at_of tX7_isTextOf 0 8 rfl) rfl ?_
      refine go_if_eq (tgt := 30) (at_of tX7_isTextOf 0 9 rfl) (by decide) (fun h15 => ?_) (fun h15 => ?_)
      · exfalso; omega
      refine go_aload_n (at_of tX7_isTextOf 0 10 rfl) rfl ?_
      refine go_iload (at_of tX7_isTextOf 0 11 rfl) rfl rfl ?_
      refine go_cV (r_isOld hS hk2 hR2) lk_X7_39 rfl s2 (at_of tX7_isTextOf 0 12 rfl) rfl (by decide) rfl (Nat.le_of_ble_eq_true rfl) rfl (by first | decide | exact ⟨Nat.zero_le _, Nat.zero_le _⟩) ?_
      refine go_if_eq (tgt := 68) (at_of tX7_isTextOf 0 13 rfl) (by decide) (fun h24 => ?_) (fun h24 => ?_)
      · refine go_iinc (at_of tX7_isTextOf 2 3 rfl) rfl (by unfold in32; omega) rfl rfl ?_
        refine go_goto (tgt := 5) (at_of tX7_isTextOf 2 4 rfl) (by decide) ?_
        first
          | (rw [cmpF, if_neg (bI_0.mp h24)]; exact ih _ _ _ (by omega) (by omega) (by omega) (by omega))
          | (rw [cmpF, if_pos (bI_1.mp h24), if_neg (by omega)]; exact ih _ _ _ (by omega) (by omega) (by omega) (by omega))
      · refine go_goto (tgt := 39) (at_of tX7_isTextOf 0 14 rfl) (by decide) ?_
        refine go_iload_n (at_of tX7_isTextOf 1 3 rfl) rfl ?_
        refine go_aload_n (at_of tX7_isTextOf 1 4 rfl) rfl ?_
        refine go_getf fl_X7_21 rfl g2 (at_of tX7_isTextOf 1 5 rfl) ?_
        refine go_icmp_ge (tgt := 63) (at_of tX7_isTextOf 1 6 rfl) (by decide) (fun h44 => ?_) (fun h44 => ?_)
        · refine go_iconst (at_of tX7_isTextOf 2 0 rfl) (by unfold in32; omega) ?_
          exact go_reti (at_of tX7_isTextOf 2 1 rfl) (le_i (bI_f (by rw [cmpF, if_pos (bI_1.mp h24), if_pos (by omega)]; decide)))
        · refine go_aload_n (at_of tX7_isTextOf 1 7 rfl) rfl ?_
          refine go_iconst (at_of tX7_isTextOf 1 8 rfl) (by unfold in32; omega) ?_
          refine go_iload_n (at_of tX7_isTextOf 1 9 rfl) rfl ?_
          refine go_cV (r_fact hS hk hR (by omega) (by omega)) lk_X7_31 rfl g2 (at_of tX7_isTextOf 1 10 rfl) rfl (by decide) rfl (Nat.le_of_ble_eq_true rfl) rfl (by first | decide | exact ⟨Nat.zero_le _, Nat.zero_le _⟩) ?_
          refine go_aload_n (at_of tX7_isTextOf 1 11 rfl) rfl ?_
          refine go_iconst (at_of tX7_isTextOf 1 12 rfl) (by unfold in32; omega) ?_
          refine go_iload (at_of tX7_isTextOf 1 13 rfl) rfl rfl ?_
          refine go_cV (r_fact hS hk2 hR2 (by omega) (by omega)) lk_X7_31 rfl s2 (at_of tX7_isTextOf 1 14 rfl) rfl (by decide) rfl (Nat.le_of_ble_eq_true rfl) rfl (by first | decide | exact ⟨Nat.zero_le _, Nat.zero_le _⟩) ?_
          refine go_icmp_eq (tgt := 65) (at_of tX7_isTextOf 1 15 rfl) (by decide) (fun h60 => ?_) (fun h60 => ?_)
          · first
            | exfalso; omega
            | refine go_iinc (at_of tX7_isTextOf 2 2 rfl) rfl (by unfold in32; omega) rfl rfl ?_
              refine go_iinc (at_of tX7_isTextOf 2 3 rfl) rfl (by unfold in32; omega) rfl rfl ?_
              refine go_goto (tgt := 5) (at_of tX7_isTextOf 2 4 rfl) (by decide) ?_
              first
                | (rw [cmpF, if_neg (bI_0.mp h24)]; exact ih _ _ _ (by omega) (by omega) (by omega) (by omega))
                | (rw [cmpF, if_pos (bI_1.mp h24), if_neg (by omega)]; exact ih _ _ _ (by omega) (by omega) (by omega) (by omega))
          · first
            | exfalso; omega
            | refine go_iconst (at_of tX7_isTextOf 2 0 rfl) (by unfold in32; omega) ?_
              exact go_reti (at_of tX7_isTextOf 2 1 rfl) (le_i (bI_f (by rw [cmpF, if_pos (bI_1.mp h24), if_pos (by omega)]; decide)))
  refine con_of_go mfX7_isTextOf.1 bI_01 (Nat.le_of_ble_eq_true rfl) rfl (by decide) ?_
  show Go _ _ _ _ 0 [vA _, vA _, vI _, vT 9 0, vT 9 0] [] _ _
  refine go_iconst (at_of tX7_isTextOf 0 0 rfl) (by unfold in32; omega) ?_
  refine go_istore_n (at_of tX7_isTextOf 0 1 rfl) rfl rfl ?_
  refine go_iconst (at_of tX7_isTextOf 0 2 rfl) (by unfold in32; omega) ?_
  refine go_istore (at_of tX7_isTextOf 0 3 rfl) rfl rfl ?_
  exact key R2.2.1.toNat _ 0 0 (by omega) (by omega) (by omega) (by omega)
theorem con_isTextOf_seen {k2 : Nat} {R2 : RowD} (hS : Str σ.2.1) (hk : k < 8) (hR : RepR σ k R) (hk2 : k2 < 8) (hR2 : RepR σ k2 R2) : Con 2 mX7_isTextOf 0 0 [vA (4 + 10 * k), vA (4 + 10 * k2), vI 0] σ (vI (bI (cmpF (seenB R2.1 R2.2.1) (R.1 0) (R2.1 0) R.2.1 R2.2.1.toNat 0 0 = true)), σ) := by
  obtain ⟨g1, g2, g3, g4, g5, g6, g7, g8, g9, g10⟩ := gamk k hk
  obtain ⟨p1, p2, p3, p4, p5, p6, p7, p8, p9⟩ := strk hS k hk
  have hn := hR.1
  obtain ⟨hw1, hw2, hw3⟩ := hR.2.2.2
  obtain ⟨s1, s2, s3, s4, s5, s6, s7, s8, s9, s10⟩ := gamk k2 hk2
  obtain ⟨t1, t2, t3, t4, t5, t6, t7, t8, t9⟩ := strk hS k2 hk2
  have hn2 := hR2.1
  obtain ⟨hx1, hx2, hx3⟩ := hR2.2.2.2
  have key : ∀ (m : Nat) (b : Nat × Nat) (i t : Int), 0 ≤ i → i + m = R2.2.1 → 0 ≤ t → t ≤ i → Go (fun _ => 0) 2 mX7_isTextOf b 5 [vA (4 + 10 * k), vA (4 + 10 * k2), vI 0, vI t, vI i] [] σ (vI (bI (cmpF (seenB R2.1 R2.2.1) (R.1 0) (R2.1 0) R.2.1 m i t = true)), σ) := by
    intro m
    induction m with
    | zero =>
      intro b i t h0 h1 h2 h3
      refine go_iload (at_of tX7_isTextOf 0 4 rfl) rfl rfl ?_
      refine go_aload_n (at_of tX7_isTextOf 0 5 rfl) rfl ?_
      refine go_getf fl_X7_21 rfl s2 (at_of tX7_isTextOf 0 6 rfl) ?_
      refine go_icmp_ge (tgt := 74) (at_of tX7_isTextOf 0 7 rfl) (by decide) (fun h11 => ?_) (fun h11 => ?_)
      rotate_left
      · exfalso; omega
      refine go_iload_n (at_of tX7_isTextOf 2 5 rfl) rfl ?_
      refine go_aload_n (at_of tX7_isTextOf 2 6 rfl) rfl ?_
      refine go_getf fl_X7_21 rfl g2 (at_of tX7_isTextOf 2 7 rfl) ?_
      refine go_icmp_ne (tgt := 86) (at_of tX7_isTextOf 2 8 rfl) (by decide) (fun h79 => ?_) (fun h79 => ?_)
      · first
        | exfalso; omega
        | refine go_iconst (at_of tX7_isTextOf 2 11 rfl) (by unfold in32; omega) ?_
          exact go_reti (at_of tX7_isTextOf 2 12 rfl) (le_i (by first | exact bI_t (by rw [cmpF]; exact decide_eq_true (by omega)) | exact bI_f (by rw [cmpF]; intro q; exact absurd (of_decide_eq_true q) (by omega))))
      · first
        | exfalso; omega
        | refine go_iconst (at_of tX7_isTextOf 2 9 rfl) (by unfold in32; omega) ?_
          refine go_goto (tgt := 87) (at_of tX7_isTextOf 2 10 rfl) (by decide) ?_
          exact go_reti (at_of tX7_isTextOf 2 12 rfl) (le_i (by first | exact bI_t (by rw [cmpF]; exact decide_eq_true (by omega)) | exact bI_f (by rw [cmpF]; intro q; exact absurd (of_decide_eq_true q) (by omega))))
    | succ m ih =>
      intro b i t h0 h1 h2 h3
      refine go_iload (at_of tX7_isTextOf 0 4 rfl) rfl rfl ?_
      refine go_aload_n (at_of tX7_isTextOf 0 5 rfl) rfl ?_
      refine go_getf fl_X7_21 rfl s2 (at_of tX7_isTextOf 0 6 rfl) ?_
      refine go_icmp_ge (tgt := 74) (at_of tX7_isTextOf 0 7 rfl) (by decide) (fun h11 => ?_) (fun h11 => ?_)
      · exfalso; omega
      refine go_iload_n (at_of tX7_isTextOf 0 8 rfl) rfl ?_
      refine go_if_eq (tgt := 30) (at_of tX7_isTextOf 0 9 rfl) (by decide) (fun h15 => ?_) (fun h15 => ?_)
      rotate_left
      · exfalso; omega
      refine go_aload_n (at_of tX7_isTextOf 0 15 rfl) rfl ?_
      refine go_iload (at_of tX7_isTextOf 1 0 rfl) rfl rfl ?_
      refine go_cV (r_isSeen hS hk2 hR2) lk_X7_35 rfl s2 (at_of tX7_isTextOf 1 1 rfl) rfl (by decide) rfl (Nat.le_of_ble_eq_true rfl) rfl (by first | decide | exact ⟨Nat.zero_le _, Nat.zero_le _⟩) ?_
      refine go_if_eq (tgt := 68) (at_of tX7_isTextOf 1 2 rfl) (by decide) (fun h36 => ?_) (fun h36 => ?_)
      · refine go_iinc (at_of tX7_isTextOf 2 3 rfl) rfl (by unfold in32; omega) rfl rfl ?_
        refine go_goto (tgt := 5) (at_of tX7_isTextOf 2 4 rfl) (by decide) ?_
        first
          | (rw [cmpF, if_neg (bI_0.mp h36)]; exact ih _ _ _ (by omega) (by omega) (by omega) (by omega))
          | (rw [cmpF, if_pos (bI_1.mp h36), if_neg (by omega)]; exact ih _ _ _ (by omega) (by omega) (by omega) (by omega))
      · refine go_iload_n (at_of tX7_isTextOf 1 3 rfl) rfl ?_
        refine go_aload_n (at_of tX7_isTextOf 1 4 rfl) rfl ?_
        refine go_getf fl_X7_21 rfl g2 (at_of tX7_isTextOf 1 5 rfl) ?_
        refine go_icmp_ge (tgt := 63) (at_of tX7_isTextOf 1 6 rfl) (by decide) (fun h44 => ?_) (fun h44 => ?_)
        · refine go_iconst (at_of tX7_isTextOf 2 0 rfl) (by unfold in32; omega) ?_
          exact go_reti (at_of tX7_isTextOf 2 1 rfl) (le_i (bI_f (by rw [cmpF, if_pos (bI_1.mp h36), if_pos (by omega)]; decide)))
        · refine go_aload_n (at_of tX7_isTextOf 1 7 rfl) rfl ?_
          refine go_iconst (at_of tX7_isTextOf 1 8 rfl) (by unfold in32; omega) ?_
          refine go_iload_n (at_of tX7_isTextOf 1 9 rfl) rfl ?_
          refine go_cV (r_fact hS hk hR (by omega) (by omega)) lk_X7_31 rfl g2 (at_of tX7_isTextOf 1 10 rfl) rfl (by decide) rfl (Nat.le_of_ble_eq_true rfl) rfl (by first | decide | exact ⟨Nat.zero_le _, Nat.zero_le _⟩) ?_
          refine go_aload_n (at_of tX7_isTextOf 1 11 rfl) rfl ?_
          refine go_iconst (at_of tX7_isTextOf 1 12 rfl) (by unfold in32; omega) ?_
          refine go_iload (at_of tX7_isTextOf 1 13 rfl) rfl rfl ?_
          refine go_cV (r_fact hS hk2 hR2 (by omega) (by omega)) lk_X7_31 rfl s2 (at_of tX7_isTextOf 1 14 rfl) rfl (by decide) rfl (Nat.le_of_ble_eq_true rfl) rfl (by first | decide | exact ⟨Nat.zero_le _, Nat.zero_le _⟩) ?_
          refine go_icmp_eq (tgt := 65) (at_of tX7_isTextOf 1 15 rfl) (by decide) (fun h60 => ?_) (fun h60 => ?_)
          · first
            | exfalso; omega
            | refine go_iinc (at_of tX7_isTextOf 2 2 rfl) rfl (by unfold in32; omega) rfl rfl ?_
              refine go_iinc (at_of tX7_isTextOf 2 3 rfl) rfl (by unfold in32; omega) rfl rfl ?_
              refine go_goto (tgt := 5) (at_of tX7_isTextOf 2 4 rfl) (by decide) ?_
              first
                | (rw [cmpF, if_neg (bI_0.mp h36)]; exact ih _ _ _ (by omega) (by omega) (by omega) (by omega))
                | (rw [cmpF, if_pos (bI_1.mp h36), if_neg (by omega)]; exact ih _ _ _ (by omega) (by omega) (by omega) (by omega))
          · first
            | exfalso; omega
            | refine go_iconst (at_of tX7_isTextOf 2 0 rfl) (by unfold in32; omega) ?_
              exact go_reti (at_of tX7_isTextOf 2 1 rfl) (le_i (bI_f (by rw [cmpF, if_pos (bI_1.mp h36), if_pos (by omega)]; decide)))
  refine con_of_go mfX7_isTextOf.1 bI_01 (Nat.le_of_ble_eq_true rfl) rfl (by decide) ?_
  show Go _ _ _ _ 0 [vA _, vA _, vI _, vT 9 0, vT 9 0] [] _ _
  refine go_iconst (at_of tX7_isTextOf 0 0 rfl) (by unfold in32; omega) ?_
  refine go_istore_n (at_of tX7_isTextOf 0 1 rfl) rfl rfl ?_
  refine go_iconst (at_of tX7_isTextOf 0 2 rfl) (by unfold in32; omega) ?_
  refine go_istore (at_of tX7_isTextOf 0 3 rfl) rfl rfl ?_
  exact key R2.2.1.toNat _ 0 0 (by omega) (by omega) (by omega) (by omega)
/-- whether a style's paragraphs are kept with the next one -/
def keepF (par kp : Int → Int) : Nat → Int → Int
  | 0, _ => 0
  | m + 1, s => if s = -1 then 0 else if kp s ≠ -1 then (if kp s = 1 then 1 else 0) else keepF par kp m (par s)
theorem keepF_01 {par kp : Int → Int} : ∀ (m : Nat) (s : Int), (keepF par kp m s = 0 ∨ keepF par kp m s = 1) := by
  intro m
  induction m with
  | zero => intro s; exact Or.inl rfl
  | succ m ih =>
    intro s
    rw [keepF]
    split
    · exact Or.inl rfl
    · split
      · split
        · exact Or.inr rfl
        · exact Or.inl rfl
      · exact ih _
def clF (σ : St) (a n : Nat) : Int → Int := fun j => cl σ a n j
theorem con_keepsWithNext (hS : Str σ.2.1) {s0 : Int} : Con 1 mX8_keepsWithNext 0 0 [vA 83, vI s0] σ (vI (keepF (clF σ 84 8) (clF σ 86 8) 8 s0), σ) := by
  have key : ∀ (m : Nat) (b : Nat × Nat) (i s : Int), 0 ≤ i → i + m = 8 → Go (fun _ => 0) 1 mX8_keepsWithNext b 4 [vA 83, vI s0, vI s, vI i] [] σ (vI (keepF (clF σ 84 8) (clF σ 86 8) m s), σ) := by
    intro m
    induction m with
    | zero =>
      intro b i s h0 h1
      refine go_iload_n (at_of tX8_keepsWithNext 0 4 rfl) rfl ?_
      refine go_bipush (at_of tX8_keepsWithNext 0 5 rfl) (by decide) ?_
      refine go_icmp_ge (tgt := 60) (at_of tX8_keepsWithNext 0 6 rfl) (by decide) (fun h7 => ?_) (fun h7 => ?_)
      rotate_left
      · exfalso; omega
      refine go_iconst (at_of tX8_keepsWithNext 2 1 rfl) (by unfold in32; omega) ?_
      exact go_reti (at_of tX8_keepsWithNext 2 2 rfl) (le_i (by rw [keepF]))
    | succ m ih =>
      intro b i s h0 h1
      rw [keepF]
      refine go_iload_n (at_of tX8_keepsWithNext 0 4 rfl) rfl ?_
      refine go_bipush (at_of tX8_keepsWithNext 0 5 rfl) (by decide) ?_
      refine go_icmp_ge (tgt := 60) (at_of tX8_keepsWithNext 0 6 rfl) (by decide) (fun h7 => ?_) (fun h7 => ?_)
      · exfalso; omega
      refine go_iload_n (at_of tX8_keepsWithNext 0 7 rfl) rfl ?_
      refine go_iconst (at_of tX8_keepsWithNext 0 8 rfl) (by unfold in32; omega) ?_
      refine go_icmp_eq (tgt := 60) (at_of tX8_keepsWithNext 0 9 rfl) (by decide) (fun h12 => ?_) (fun h12 => ?_)
      · refine go_iconst (at_of tX8_keepsWithNext 2 1 rfl) (by unfold in32; omega) ?_
        exact go_reti (at_of tX8_keepsWithNext 2 2 rfl) (le_i (by rw [if_pos (by omega)]))
      · refine go_aload_n (at_of tX8_keepsWithNext 0 10 rfl) rfl ?_
        refine go_getr (q := 86) fl_X8_18 rfl G_83 ((hS _ _ rfl).trans rfl) (at_of tX8_keepsWithNext 0 11 rfl) ?_
        refine go_iload_n (at_of tX8_keepsWithNext 0 12 rfl) rfl ?_
        refine go_cN (con_cl G_86 (by omega)) lk_X8_33 rfl (at_of tX8_keepsWithNext 0 13 rfl) rfl (by decide) rfl (Nat.le_of_ble_eq_true rfl) rfl (by first | decide | exact ⟨Nat.zero_le _, Nat.zero_le _⟩) ?_
        refine go_iconst (at_of tX8_keepsWithNext 0 14 rfl) (by unfold in32; omega) ?_
        refine go_icmp_eq (tgt := 45) (at_of tX8_keepsWithNext 0 15 rfl) (by decide) (fun h24 => ?_) (fun h24 => ?_)
        · refine go_aload_n (at_of tX8_keepsWithNext 1 10 rfl) rfl ?_
          refine go_getr (q := 84) fl_X8_9 rfl G_83 ((hS _ _ rfl).trans rfl) (at_of tX8_keepsWithNext 1 11 rfl) ?_
          refine go_iload_n (at_of tX8_keepsWithNext 1 12 rfl) rfl ?_
          refine go_cN (con_cl G_84 (by omega)) lk_X8_33 rfl (at_of tX8_keepsWithNext 1 13 rfl) rfl (by decide) rfl (Nat.le_of_ble_eq_true rfl) rfl (by first | decide | exact ⟨Nat.zero_le _, Nat.zero_le _⟩) ?_
          refine go_istore_n (at_of tX8_keepsWithNext 1 14 rfl) rfl rfl ?_
          refine go_iinc (at_of tX8_keepsWithNext 1 15 rfl) rfl (by unfold in32; omega) rfl rfl ?_
          refine go_goto (tgt := 4) (at_of tX8_keepsWithNext 2 0 rfl) (by decide) ?_
          rw [if_neg (by omega), if_neg (by show ¬ cl σ 86 8 s ≠ -1; omega)]
          exact ih _ _ _ (by omega) (by omega)
        · refine go_aload_n (at_of tX8_keepsWithNext 1 0 rfl) rfl ?_
          refine go_getr (q := 86) fl_X8_18 rfl G_83 ((hS _ _ rfl).trans rfl) (at_of tX8_keepsWithNext 1 1 rfl) ?_
          refine go_iload_n (at_of tX8_keepsWithNext 1 2 rfl) rfl ?_
          refine go_cN (con_cl G_86 (by omega)) lk_X8_33 rfl (at_of tX8_keepsWithNext 1 3 rfl) rfl (by decide) rfl (Nat.le_of_ble_eq_true rfl) rfl (by first | decide | exact ⟨Nat.zero_le _, Nat.zero_le _⟩) ?_
          refine go_iconst (at_of tX8_keepsWithNext 1 4 rfl) (by unfold in32; omega) ?_
          refine go_icmp_ne (tgt := 43) (at_of tX8_keepsWithNext 1 5 rfl) (by decide) (fun h36 => ?_) (fun h36 => ?_)
          · refine go_iconst (at_of tX8_keepsWithNext 1 8 rfl) (by unfold in32; omega) ?_
            exact go_reti (at_of tX8_keepsWithNext 1 9 rfl) (le_i (by rw [if_neg (by omega), if_pos (by show cl σ 86 8 s ≠ -1; omega)]; first | exact if_pos (by show cl σ 86 8 s = 1; omega) | exact if_neg (by show ¬ cl σ 86 8 s = 1; omega)))
          · refine go_iconst (at_of tX8_keepsWithNext 1 6 rfl) (by unfold in32; omega) ?_
            refine go_goto (tgt := 44) (at_of tX8_keepsWithNext 1 7 rfl) (by decide) ?_
            exact go_reti (at_of tX8_keepsWithNext 1 9 rfl) (le_i (by rw [if_neg (by omega), if_pos (by show cl σ 86 8 s ≠ -1; omega)]; first | exact if_pos (by show cl σ 86 8 s = 1; omega) | exact if_neg (by show ¬ cl σ 86 8 s = 1; omega)))
  refine con_of_go mfX8_keepsWithNext.1 (keepF_01 _ _) (Nat.le_of_ble_eq_true rfl) rfl (by decide) ?_
  show Go _ _ _ _ 0 [vA _, vI _, vT 9 0, vT 9 0] [] _ _
  refine go_iload_n (at_of tX8_keepsWithNext 0 0 rfl) rfl ?_
  refine go_istore_n (at_of tX8_keepsWithNext 0 1 rfl) rfl rfl ?_
  refine go_iconst (at_of tX8_keepsWithNext 0 2 rfl) (by unfold in32; omega) ?_
  refine go_istore_n (at_of tX8_keepsWithNext 0 3 rfl) rfl rfl ?_
  exact key 8 _ 0 s0 (by omega) (by omega)
end Small
