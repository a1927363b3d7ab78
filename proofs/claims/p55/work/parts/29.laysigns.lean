/-! The office's layout: signs are read. -/
section LaySigns
variable {σ : St} {k : Nat} {R : RowD}
def rngS (σ : St) (a : Nat) (lo hi v : Int) : St := (fun a' j => if a' = a ∧ lo ≤ (j : Int) ∧ (j : Int) < hi then v else σ.1 a' j, σ.2.1, σ.2.2)
theorem rngS_ne {a a' j : Nat} {lo hi v : Int} (h : a' ≠ a) : (rngS σ a lo hi v).1 a' j = σ.1 a' j := if_neg (fun q => h q.1)
theorem rngS_in {a : Nat} {lo hi v s : Int} (h0 : 0 ≤ s) (h : lo ≤ s ∧ s < hi) : (rngS σ a lo hi v).1 a s.toNat = v := if_pos ⟨rfl, by omega, by omega⟩
theorem rngS_out {a : Nat} {lo hi v s : Int} (h0 : 0 ≤ s) (h : s < lo ∨ hi ≤ s) : (rngS σ a lo hi v).1 a s.toNat = σ.1 a s.toNat := if_neg (by omega)
theorem rngS_0 {a : Nat} {lo v : Int} : rngS σ a lo lo v = σ := by
  unfold rngS
  refine Prod.ext (funext fun a => funext fun i => ?_) rfl
  dsimp only
  rw [if_neg (by omega)]
theorem rngS_s {a : Nat} {lo hi v : Int} (h0 : 0 ≤ lo) (h : lo ≤ hi) : M1 (rngS σ a lo hi v) a hi v = rngS σ a lo (hi + 1) v := by
  unfold M1 rngS upd2
  refine Prod.ext (funext fun a' => funext fun i => ?_) rfl
  dsimp only
  by_cases ha : a' = a
  · by_cases hi' : i = hi.toNat
    · rw [if_pos ⟨ha, hi'⟩, if_pos ⟨ha, by omega, by omega⟩]
    · rw [if_neg (fun q => hi' q.2)]
      by_cases hr : lo ≤ (i : Int) ∧ (i : Int) < hi
      · rw [if_pos ⟨ha, hr⟩, if_pos ⟨ha, by omega, by omega⟩]
      · rw [if_neg (fun q => hr q.2), if_neg (by omega)]
  · rw [if_neg (fun q => ha q.1), if_neg (fun q => ha q.1), if_neg (fun q => ha q.1)]
/-- signs added, all blanks or none -/
def adS (σ : St) (lo hi v : Int) : St := P1 (rngS σ 99 lo hi v) 98 11 hi
theorem P1_id {a j : Nat} {z : Int} (h : σ.1 a j = z) : P1 σ a j z = σ := by
  unfold P1 upd2
  refine Prod.ext (funext fun a' => funext fun i => ?_) rfl
  dsimp only
  by_cases q : a' = a ∧ i = j
  · rw [if_pos q, q.1, q.2, h]
  · rw [if_neg q]
theorem adS_0 {lo v : Int} (h : σ.1 98 11 = lo) : adS σ lo lo v = σ := by
  unfold adS
  rw [rngS_0, P1_id h]
theorem adS_s {lo hi v : Int} (h0 : 0 ≤ lo) (h : lo ≤ hi) : P1 (M1 (adS σ lo hi v) 99 hi v) 98 11 (hi + 1) = adS σ lo (hi + 1) v := by
  unfold adS
  rw [← rngS_s h0 h]
  unfold P1 M1 upd2
  refine Prod.ext (funext fun a' => funext fun i => ?_) rfl
  dsimp only
  by_cases q : a' = 98 ∧ i = 11
  · rw [if_pos q, if_pos q]
  · rw [if_neg q, if_neg q]
    by_cases q2 : a' = 99 ∧ i = hi.toNat
    · rw [if_pos q2, if_neg q]
    · rw [if_neg q2, if_neg q]
theorem adS_n {lo hi v : Int} : (adS σ lo hi v).1 98 11 = hi := P1_eq
theorem adS_ne {lo hi v : Int} {a j : Nat} (h : ¬ (a = 99 ∨ (a = 98 ∧ j = 11))) : (adS σ lo hi v).1 a j = σ.1 a j := by
  unfold adS
  by_cases q : a = 98
  · rw [P1_nj (by omega), rngS_ne (by omega)]
  · rw [P1_ne q, rngS_ne (by omega)]
theorem adS_in {lo hi v s : Int} (h0 : 0 ≤ s) (h : lo ≤ s ∧ s < hi) : (adS σ lo hi v).1 99 s.toNat = v := by
  unfold adS
  rw [P1_ne (by omega), rngS_in h0 h]
theorem adS_out {lo hi v s : Int} (h0 : 0 ≤ s) (h : s < lo ∨ hi ≤ s) : (adS σ lo hi v).1 99 s.toNat = σ.1 99 s.toNat := by
  unfold adS
  rw [P1_ne (by omega), rngS_out h0 h]
theorem con_addSign1 (hS : Str σ.2.1) {lo hi v : Int} (h0 : 0 ≤ lo ∧ lo ≤ hi ∧ hi < 512) (hv : v = 0 ∨ v = 1) : Con 0 mX1_addSign 0 0 [vA 98, vI v] (adS σ lo hi v) (vT 8 0, adS σ lo (hi + 1) v) := by
  have e1 := @adS_n σ lo hi v
  rw [← adS_s h0.1 h0.2.1]
  refine con_of_go mfX1_addSign.1 trivial (Nat.le_of_ble_eq_true rfl) rfl (by decide) ?_
  show Go _ _ _ _ 0 [vA _, vI _] [] _ _
  refine go_aload_n (at_of tX1_addSign 0 0 rfl) rfl ?_
  refine go_getf fl_X1_47 rfl G_98 (at_of tX1_addSign 0 1 rfl) ?_
  refine go_if_lt (tgt := 37) (at_of tX1_addSign 0 2 rfl) (by decide) (fun h4 => ?_) (fun h4 => ?_)
  · exfalso; omega
  refine go_aload_n (at_of tX1_addSign 0 3 rfl) rfl ?_
  refine go_getf fl_X1_47 rfl G_98 (at_of tX1_addSign 0 4 rfl) ?_
  refine go_sipush (at_of tX1_addSign 0 5 rfl) (by decide) ?_
  refine go_icmp_ge (tgt := 37) (at_of tX1_addSign 0 6 rfl) (by decide) (fun h14 => ?_) (fun h14 => ?_)
  · exfalso; omega
  refine go_aload_n (at_of tX1_addSign 0 7 rfl) rfl ?_
  refine go_getr (q := 99) fl_X1_18 rfl G_98 ((hS _ _ rfl).trans rfl) (at_of tX1_addSign 0 8 rfl) ?_
  refine go_aload_n (at_of tX1_addSign 0 9 rfl) rfl ?_
  refine go_getf fl_X1_47 rfl G_98 (at_of tX1_addSign 0 10 rfl) ?_
  rw [e1]
  refine go_iload_n (at_of tX1_addSign 0 11 rfl) rfl ?_
  refine go_bast1 G_99 (by omega) (by omega) (by omega) (at_of tX1_addSign 0 12 rfl) ?_
  refine go_aload_n (at_of tX1_addSign 0 13 rfl) rfl ?_
  refine go_dup (at_of tX1_addSign 0 14 rfl) rfl ?_
  refine go_getf fl_X1_47 rfl G_98 (at_of tX1_addSign 0 15 rfl) ?_
  rw [M1_ne (by omega), e1]
  refine go_iconst (at_of tX1_addSign 1 0 rfl) (by unfold in32; omega) ?_
  refine go_iadd (at_of tX1_addSign 1 1 rfl) (by unfold in32; omega) ?_
  refine go_put1 fp_X1_47 rfl (Or.inl rfl) G_98 (Or.inl rfl) (at_of tX1_addSign 1 2 rfl) ?_
  exact go_retv (at_of tX1_addSign 1 3 rfl) rfl
def sg1 (R : RowD) (Q : Int → Int) (i : Int) : Int := if R.1 1 i = -1 then 1 else 1 + dgF 10 (Q (R.1 1 i) / 10)
theorem con_addSigns (hS : Str σ.2.1) (hk : k < 8) (hR : RepR σ k R) {Q : Int → Int} (hQ : ∀ c, 0 ≤ c → c < 20 → σ.1 (12 + 10 * k) c.toNat = Q c ∧ 0 ≤ Q c) {i s0 : Int} (hi : 0 ≤ i ∧ i ≤ R.2.1) (hF : R.1 1 i = -1 ∨ (0 ≤ R.1 1 i ∧ R.1 1 i < 20 ∧ R.1 0 i ≠ 32)) (hs : σ.1 98 11 = s0) (h0 : 0 ≤ s0) (h1 : s0 + sg1 R Q i ≤ 512) : Con 1 mX1_addSigns 0 0 [vA 98, vA (4 + 10 * k), vI i, vA (12 + 10 * k)] σ (vT 8 0, adS σ s0 (s0 + sg1 R Q i) (blU R i)) := by
  obtain ⟨g1, g2, g3, g4, g5, g6, g7, g8, g9, g10⟩ := gamk k hk
  obtain ⟨p1, p2, p3, p4, p5, p6, p7, p8, p9⟩ := strk hS k hk
  have hn := hR.1
  obtain ⟨hw1, hw2, hw3⟩ := hR.2.2.2
  have a0 : ∀ v, adS σ s0 s0 v = σ := fun v => adS_0 hs
  have key : ∀ (m : Nat) (b : Nat × Nat) (t q fd hi : Int), 0 ≤ t → t + m = 10 → s0 ≤ hi → hi + dgF m q ≤ 512 → Go (fun _ => 0) 1 mX1_addSigns b 54 [vA 98, vA (4 + 10 * k), vI i, vA (12 + 10 * k), vI fd, vI q, vI t] [] (adS σ s0 hi 0) (vT 8 0, adS σ s0 (hi + dgF m q) 0) := by
    intro m
    induction m with
    | zero =>
      intro b t q fd hi h2 h3 h4 h5
      refine go_iload (at_of tX1_addSigns 1 15 rfl) rfl rfl ?_
      refine go_bipush (at_of tX1_addSigns 2 0 rfl) (by decide) ?_
      refine go_icmp_ge (tgt := 84) (at_of tX1_addSigns 2 1 rfl) (by decide) (fun h58 => ?_) (fun h58 => ?_)
      rotate_left
      · exfalso; omega
      exact go_retv (at_of tX1_addSigns 2 13 rfl) (by rw [dgF, Int.add_zero])
    | succ m ih =>
      intro b t q fd hi h2 h3 h4 h5
      rw [dgF] at h5 ⊢
      by_cases hq : q ≤ 0
      · rw [if_pos hq] at h5 ⊢
        refine go_iload (at_of tX1_addSigns 1 15 rfl) rfl rfl ?_
        refine go_bipush (at_of tX1_addSigns 2 0 rfl) (by decide) ?_
        refine go_icmp_ge (tgt := 84) (at_of tX1_addSigns 2 1 rfl) (by decide) (fun h58 => ?_) (fun h58 => ?_)
        · exfalso; omega
        refine go_iload (at_of tX1_addSigns 2 2 rfl) rfl rfl ?_
        refine go_if_le (tgt := 84) (at_of tX1_addSigns 2 3 rfl) (by decide) (fun h63 => ?_) (fun h63 => ?_)
        rotate_left
        · exfalso; omega
        exact go_retv (at_of tX1_addSigns 2 13 rfl) (by rw [Int.add_zero])
      · rw [if_neg hq] at h5 ⊢
        have hd := dgF_nn m (q / 10)
        refine go_iload (at_of tX1_addSigns 1 15 rfl) rfl rfl ?_
        refine go_bipush (at_of tX1_addSigns 2 0 rfl) (by decide) ?_
        refine go_icmp_ge (tgt := 84) (at_of tX1_addSigns 2 1 rfl) (by decide) (fun h58 => ?_) (fun h58 => ?_)
        · exfalso; omega
        refine go_iload (at_of tX1_addSigns 2 2 rfl) rfl rfl ?_
        refine go_if_le (tgt := 84) (at_of tX1_addSigns 2 3 rfl) (by decide) (fun h63 => ?_) (fun h63 => ?_)
        · exfalso; omega
        refine go_aload_n (at_of tX1_addSigns 2 4 rfl) rfl ?_
        refine go_iconst (at_of tX1_addSigns 2 5 rfl) (by unfold in32; omega) ?_
        refine go_cV (con_addSign1 hS (by omega) (by omega)) lk_X1_115 rfl G_98 (at_of tX1_addSigns 2 6 rfl) rfl (by decide) rfl (Nat.le_of_ble_eq_true rfl) rfl (by first | decide | exact ⟨Nat.zero_le _, Nat.zero_le _⟩) ?_
        refine go_iload (at_of tX1_addSigns 2 7 rfl) rfl rfl ?_
        refine go_bipush (at_of tX1_addSigns 2 8 rfl) (by decide) ?_
        refine go_idiv (at_of tX1_addSigns 2 9 rfl) (by omega) (by omega) ?_
        refine go_istore (at_of tX1_addSigns 2 10 rfl) rfl rfl ?_
        refine go_iinc (at_of tX1_addSigns 2 11 rfl) rfl (by unfold in32; omega) rfl rfl ?_
        refine go_goto (tgt := 54) (at_of tX1_addSigns 2 12 rfl) (by decide) ?_
        rw [show hi + (1 + dgF m (q / 10)) = hi + 1 + dgF m (q / 10) by omega]
        exact ih _ _ _ _ _ (by omega) (by omega) (by omega) (by omega)
  unfold sg1 at h1 ⊢
  by_cases hf : R.1 1 i = -1
  · rw [if_pos hf] at h1 ⊢
    by_cases hb : R.1 0 i = 32
    · rw [show blU R i = 1 from bI_t ⟨hb, hf⟩]
      have ca := con_addSign1 hS (lo := s0) (hi := s0) (v := 1) (by omega) (by omega)
      rw [a0 1] at ca
      refine con_of_go mfX1_addSigns.1 trivial (Nat.le_of_ble_eq_true rfl) rfl (by decide) ?_
      show Go _ _ _ _ 0 [vA _, vA _, vI _, vA _, vT 9 0, vT 9 0, vT 9 0] [] _ _
      refine go_aload_n (at_of tX1_addSigns 0 0 rfl) rfl ?_
      refine go_iconst (at_of tX1_addSigns 0 1 rfl) (by unfold in32; omega) ?_
      refine go_iload_n (at_of tX1_addSigns 0 2 rfl) rfl ?_
      refine go_cV (r_fact hS hk hR (by omega) (by omega)) lk_X1_94 rfl g2 (at_of tX1_addSigns 0 3 rfl) rfl (by decide) rfl (Nat.le_of_ble_eq_true rfl) rfl (by first | decide | exact ⟨Nat.zero_le _, Nat.zero_le _⟩) ?_
      refine go_istore (at_of tX1_addSigns 0 4 rfl) rfl rfl ?_
      refine go_iload (at_of tX1_addSigns 0 5 rfl) rfl rfl ?_
      refine go_iconst (at_of tX1_addSigns 0 6 rfl) (by unfold in32; omega) ?_
      refine go_icmp_ne (tgt := 35) (at_of tX1_addSigns 0 7 rfl) (by decide) (fun h11 => ?_) (fun h11 => ?_)
      · exfalso; omega
      refine go_aload_n (at_of tX1_addSigns 0 8 rfl) rfl ?_
      refine go_aload_n (at_of tX1_addSigns 0 9 rfl) rfl ?_
      refine go_iconst (at_of tX1_addSigns 0 10 rfl) (by unfold in32; omega) ?_
      refine go_iload_n (at_of tX1_addSigns 0 11 rfl) rfl ?_
      refine go_cV (r_fact hS hk hR (by omega) (by omega)) lk_X1_94 rfl g2 (at_of tX1_addSigns 0 12 rfl) rfl (by decide) rfl (Nat.le_of_ble_eq_true rfl) rfl (by first | decide | exact ⟨Nat.zero_le _, Nat.zero_le _⟩) ?_
      refine go_bipush (at_of tX1_addSigns 0 13 rfl) (by decide) ?_
      refine go_icmp_ne (tgt := 30) (at_of tX1_addSigns 0 14 rfl) (by decide) (fun h23 => ?_) (fun h23 => ?_)
      · exfalso; omega
      refine go_iconst (at_of tX1_addSigns 0 15 rfl) (by unfold in32; omega) ?_
      refine go_goto (tgt := 31) (at_of tX1_addSigns 1 0 rfl) (by decide) ?_
      refine go_cV (ca) lk_X1_115 rfl G_98 (at_of tX1_addSigns 1 2 rfl) rfl (by decide) rfl (Nat.le_of_ble_eq_true rfl) rfl (by first | decide | exact ⟨Nat.zero_le _, Nat.zero_le _⟩) ?_
      exact go_retv (at_of tX1_addSigns 1 3 rfl) rfl
    · rw [show blU R i = 0 from bI_f (fun q => hb q.1)]
      have ca := con_addSign1 hS (lo := s0) (hi := s0) (v := 0) (by omega) (by omega)
      rw [a0 0] at ca
      refine con_of_go mfX1_addSigns.1 trivial (Nat.le_of_ble_eq_true rfl) rfl (by decide) ?_
      show Go _ _ _ _ 0 [vA _, vA _, vI _, vA _, vT 9 0, vT 9 0, vT 9 0] [] _ _
      refine go_aload_n (at_of tX1_addSigns 0 0 rfl) rfl ?_
      refine go_iconst (at_of tX1_addSigns 0 1 rfl) (by unfold in32; omega) ?_
      refine go_iload_n (at_of tX1_addSigns 0 2 rfl) rfl ?_
      refine go_cV (r_fact hS hk hR (by omega) (by omega)) lk_X1_94 rfl g2 (at_of tX1_addSigns 0 3 rfl) rfl (by decide) rfl (Nat.le_of_ble_eq_true rfl) rfl (by first | decide | exact ⟨Nat.zero_le _, Nat.zero_le _⟩) ?_
      refine go_istore (at_of tX1_addSigns 0 4 rfl) rfl rfl ?_
      refine go_iload (at_of tX1_addSigns 0 5 rfl) rfl rfl ?_
      refine go_iconst (at_of tX1_addSigns 0 6 rfl) (by unfold in32; omega) ?_
      refine go_icmp_ne (tgt := 35) (at_of tX1_addSigns 0 7 rfl) (by decide) (fun h11 => ?_) (fun h11 => ?_)
      · exfalso; omega
      refine go_aload_n (at_of tX1_addSigns 0 8 rfl) rfl ?_
      refine go_aload_n (at_of tX1_addSigns 0 9 rfl) rfl ?_
      refine go_iconst (at_of tX1_addSigns 0 10 rfl) (by unfold in32; omega) ?_
      refine go_iload_n (at_of tX1_addSigns 0 11 rfl) rfl ?_
      refine go_cV (r_fact hS hk hR (by omega) (by omega)) lk_X1_94 rfl g2 (at_of tX1_addSigns 0 12 rfl) rfl (by decide) rfl (Nat.le_of_ble_eq_true rfl) rfl (by first | decide | exact ⟨Nat.zero_le _, Nat.zero_le _⟩) ?_
      refine go_bipush (at_of tX1_addSigns 0 13 rfl) (by decide) ?_
      refine go_icmp_ne (tgt := 30) (at_of tX1_addSigns 0 14 rfl) (by decide) (fun h23 => ?_) (fun h23 => ?_)
      rotate_left
      · exfalso; omega
      refine go_iconst (at_of tX1_addSigns 1 1 rfl) (by unfold in32; omega) ?_
      refine go_cV (ca) lk_X1_115 rfl G_98 (at_of tX1_addSigns 1 2 rfl) rfl (by decide) rfl (Nat.le_of_ble_eq_true rfl) rfl (by first | decide | exact ⟨Nat.zero_le _, Nat.zero_le _⟩) ?_
      exact go_retv (at_of tX1_addSigns 1 3 rfl) rfl
  · have hF := hF.resolve_left hf
    rw [if_neg hf] at h1 ⊢
    rw [show blU R i = 0 from bI_f (fun q => hF.2.2 q.1)]
    have hq0 := hQ (R.1 1 i) hF.1 hF.2.1
    have hd := dgF_nn 10 (Q (R.1 1 i) / 10)
    have ca := con_addSign1 hS (lo := s0) (hi := s0) (v := 0) (by omega) (by omega)
    rw [a0 0] at ca
    rw [show s0 + (1 + dgF 10 (Q (R.1 1 i) / 10)) = s0 + 1 + dgF 10 (Q (R.1 1 i) / 10) by omega]
    refine con_of_go mfX1_addSigns.1 trivial (Nat.le_of_ble_eq_true rfl) rfl (by decide) ?_
    show Go _ _ _ _ 0 [vA _, vA _, vI _, vA _, vT 9 0, vT 9 0, vT 9 0] [] _ _
    refine go_aload_n (at_of tX1_addSigns 0 0 rfl) rfl ?_
    refine go_iconst (at_of tX1_addSigns 0 1 rfl) (by unfold in32; omega) ?_
    refine go_iload_n (at_of tX1_addSigns 0 2 rfl) rfl ?_
    refine go_cV (r_fact hS hk hR (by omega) (by omega)) lk_X1_94 rfl g2 (at_of tX1_addSigns 0 3 rfl) rfl (by decide) rfl (Nat.le_of_ble_eq_true rfl) rfl (by first | decide | exact ⟨Nat.zero_le _, Nat.zero_le _⟩) ?_
    refine go_istore (at_of tX1_addSigns 0 4 rfl) rfl rfl ?_
    refine go_iload (at_of tX1_addSigns 0 5 rfl) rfl rfl ?_
    refine go_iconst (at_of tX1_addSigns 0 6 rfl) (by unfold in32; omega) ?_
    refine go_icmp_ne (tgt := 35) (at_of tX1_addSigns 0 7 rfl) (by decide) (fun h11 => ?_) (fun h11 => ?_)
    rotate_left
    · exfalso; omega
    refine go_aload_n (at_of tX1_addSigns 1 4 rfl) rfl ?_
    refine go_iconst (at_of tX1_addSigns 1 5 rfl) (by unfold in32; omega) ?_
    refine go_cV (ca) lk_X1_115 rfl G_98 (at_of tX1_addSigns 1 6 rfl) rfl (by decide) rfl (Nat.le_of_ble_eq_true rfl) rfl (by first | decide | exact ⟨Nat.zero_le _, Nat.zero_le _⟩) ?_
    refine go_aload_n (at_of tX1_addSigns 1 7 rfl) rfl ?_
    refine go_iload (at_of tX1_addSigns 1 8 rfl) rfl rfl ?_
    refine go_cN (con_cell g10 (by omega) (by omega)) lk_X1_76 rfl (at_of tX1_addSigns 1 9 rfl) rfl (by decide) rfl (Nat.le_of_ble_eq_true rfl) rfl (by first | decide | exact ⟨Nat.zero_le _, Nat.zero_le _⟩) ?_
    rw [show (adS σ s0 (s0 + 1) 0).1 (12 + 10 * k) (R.1 1 i).toNat = Q (R.1 1 i) from (adS_ne (by omega)).trans hq0.1]
    refine go_bipush (at_of tX1_addSigns 1 10 rfl) (by decide) ?_
    refine go_idiv (at_of tX1_addSigns 1 11 rfl) (by omega) (by omega) ?_
    refine go_istore (at_of tX1_addSigns 1 12 rfl) rfl rfl ?_
    refine go_iconst (at_of tX1_addSigns 1 13 rfl) (by unfold in32; omega) ?_
    refine go_istore (at_of tX1_addSigns 1 14 rfl) rfl rfl ?_
    exact key 10 _ 0 _ _ _ (by omega) (by omega) (by omega) (by omega)
def clP (σ : St) (v : Int) : St := M1 (P1 (M1 σ 105 (σ.1 98 12) v) 98 12 (σ.1 98 12 + 1)) 103 (σ.1 98 12 + 1) (σ.1 98 11)
theorem con_closeParagraph (hS : Str σ.2.1) {v : Int} (hv : v = 0 ∨ v = 1) (he : 0 ≤ σ.1 98 12 ∧ σ.1 98 12 < 201) : Con 1 mX1_closeParagraph 0 0 [vA 98, vI v] σ (vT 8 0, clP σ v) := by
  unfold clP
  refine con_of_go mfX1_closeParagraph.1 trivial (Nat.le_of_ble_eq_true rfl) rfl (by decide) ?_
  show Go _ _ _ _ 0 [vA _, vI _] [] _ _
  refine go_aload_n (at_of tX1_closeParagraph 0 0 rfl) rfl ?_
  refine go_getf fl_X1_50 rfl G_98 (at_of tX1_closeParagraph 0 1 rfl) ?_
  refine go_sipush (at_of tX1_closeParagraph 0 2 rfl) (by decide) ?_
  refine go_cN (con_isWithin) lk_X1_111 rfl (at_of tX1_closeParagraph 0 3 rfl) rfl (by decide) rfl (Nat.le_of_ble_eq_true rfl) rfl (by first | decide | exact ⟨Nat.zero_le _, Nat.zero_le _⟩) ?_
  refine go_if_eq (tgt := 23) (at_of tX1_closeParagraph 0 4 rfl) (by decide) (fun h10 => ?_) (fun h10 => ?_)
  · exfalso; exact bI_0.mp h10 (by omega)
  refine go_aload_n (at_of tX1_closeParagraph 0 5 rfl) rfl ?_
  refine go_getr (q := 105) fl_X1_38 rfl G_98 ((hS _ _ rfl).trans rfl) (at_of tX1_closeParagraph 0 6 rfl) ?_
  refine go_aload_n (at_of tX1_closeParagraph 0 7 rfl) rfl ?_
  refine go_getf fl_X1_50 rfl G_98 (at_of tX1_closeParagraph 0 8 rfl) ?_
  refine go_iload_n (at_of tX1_closeParagraph 0 9 rfl) rfl ?_
  refine go_bast1 G_105 (by omega) (by omega) (by omega) (at_of tX1_closeParagraph 0 10 rfl) ?_
  refine go_aload_n (at_of tX1_closeParagraph 0 11 rfl) rfl ?_
  refine go_dup (at_of tX1_closeParagraph 0 12 rfl) rfl ?_
  refine go_getf fl_X1_50 rfl G_98 (at_of tX1_closeParagraph 0 13 rfl) ?_
  rw [M1_ne (by omega)]
  refine go_iconst (at_of tX1_closeParagraph 0 14 rfl) (by unfold in32; omega) ?_
  refine go_iadd (at_of tX1_closeParagraph 0 15 rfl) (by unfold in32; omega) ?_
  refine go_put1 fp_X1_50 rfl (Or.inl rfl) G_98 (Or.inl rfl) (at_of tX1_closeParagraph 1 0 rfl) ?_
  refine go_aload_n (at_of tX1_closeParagraph 1 1 rfl) rfl ?_
  refine go_getr (q := 103) fl_X1_32 rfl G_98 ((hS _ _ rfl).trans rfl) (at_of tX1_closeParagraph 1 2 rfl) ?_
  refine go_aload_n (at_of tX1_closeParagraph 1 3 rfl) rfl ?_
  refine go_getf fl_X1_50 rfl G_98 (at_of tX1_closeParagraph 1 4 rfl) ?_
  rw [P1_eq]
  refine go_aload_n (at_of tX1_closeParagraph 1 5 rfl) rfl ?_
  refine go_getf fl_X1_47 rfl G_98 (at_of tX1_closeParagraph 1 6 rfl) ?_
  rw [P1_nj (by omega), M1_ne (by omega)]
  refine go_cN (con_setCell G_103 (by omega) (by omega)) lk_X1_80 rfl (at_of tX1_closeParagraph 1 7 rfl) rfl (by decide) rfl (Nat.le_of_ble_eq_true rfl) rfl (by first | decide | exact ⟨Nat.zero_le _, Nat.zero_le _⟩) ?_
  exact go_retv (at_of tX1_closeParagraph 1 8 rfl) rfl
/-- what stands when so many units have been read -/
def RdI (σ0 σ : St) (R : RowD) (Q KV : Int → Int) (i : Int) : Prop :=
  (σ.2 = σ0.2 ∧ ∀ a j : Nat, ¬ (a = 99 ∨ a = 101 ∨ a = 102 ∨ a = 103 ∨ a = 105 ∨ (a = 98 ∧ (j = 11 ∨ j = 12))) → σ.1 a j = σ0.1 a j) ∧ σ.1 98 11 = sgS R Q i ∧ σ.1 98 12 = enN R i ∧
  (∀ u s : Int, 0 ≤ u → u < i → sgS R Q u ≤ s → s < sgS R Q (u + 1) → σ.1 99 s.toNat = blU R u) ∧
  (∀ u : Int, 0 ≤ u → u < i → R.1 3 u = -1 → σ.1 101 (plN R u).toNat = sgS R Q u ∧ σ.1 102 (plN R u).toNat = enN R u) ∧
  (∀ u : Int, 0 ≤ u → u ≤ i → σ.1 103 (enN R u).toNat = sgS R Q (stI R u)) ∧
  (∀ u : Int, 0 ≤ u → u < i → sendB R.1 R.2.1 u = true → σ.1 105 (enN R u).toNat = KV (R.1 5 u))
/-- fields and letters of seen units are as they may be -/
def SgW (R : RowD) : Prop := ∀ i, 0 ≤ i → i ≤ R.2.1 → R.1 1 i = -1 ∨ (0 ≤ R.1 1 i ∧ R.1 1 i < 20 ∧ R.1 0 i = 64)
theorem enN_lt {i j : Int} (h0 : 0 ≤ i) (h : i < j) (hs : sendB R.1 R.2.1 i = true) : enN R i < enN R j := by
  have h1 := enN_le (R := R) (i := i + 1) (j := j) (by omega)
  rw [enN_s h0, ind_t hs] at h1
  omega
theorem plN_lt {i j : Int} (h0 : 0 ≤ i) (h : i < j) (hs : R.1 3 i = -1) : plN R i < plN R j := by
  have h1 := plN_le (R := R) (i := i + 1) (j := j) (by omega)
  rw [plN_s h0, ind_t (decide_eq_true hs)] at h1
  omega
theorem seen_iff {i : Int} (h0 : 0 ≤ i) (h1 : i ≤ R.2.1) : seenB R.1 R.2.1 i = true ↔ R.1 3 i = -1 := by
  unfold seenB; rw [decide_eq_true_eq]; omega
theorem send_iff {i : Int} (h0 : 0 ≤ i) (h1 : i ≤ R.2.1) : sendB R.1 R.2.1 i = true ↔ R.1 3 i = -1 ∧ R.1 0 i = 47 := by
  unfold sendB; rw [decide_eq_true_eq]; omega
theorem con_readSigns (hS : Str σ.2.1) (hk : k < 8) (hR : RepR σ k R) {Q : Int → Int} (hQ : ∀ c, 0 ≤ c → c < 20 → σ.1 (12 + 10 * k) c.toNat = Q c ∧ 0 ≤ Q c) (hSg : SgW R) (hB : sgS R Q (R.2.1 + 1) ≤ 500) : ∃ σ', Con 2 mX1_readSigns 0 0 [vA 98, vA (4 + 10 * k), vA (12 + 10 * k), vA 83] σ (vT 8 0, σ') ∧ RdI σ σ' R Q (keepF (clF σ 84 8) (clF σ 86 8) 8) (R.2.1 + 1) := by
  obtain ⟨σ0, hσ0⟩ : ∃ σ0, σ0 = σ := ⟨σ, rfl⟩
  rw [← hσ0] at hQ
  have hw := hR.2.2.2
  have start : RdI σ (M1 (P1 (P1 σ 98 11 0) 98 12 0) 103 0 0) R Q (keepF (clF σ 84 8) (clF σ 86 8) 8) 0 := by
    refine ⟨⟨rfl, fun a j h => ?_⟩, ?_, ?_, fun u s a b => by omega, fun u a b => by omega, fun u a b => ?_, fun u a b => by omega⟩
    · by_cases h98 : a = 98
      · rw [M1_ne (by omega), P1_nj (by omega), P1_nj (by omega)]
      · rw [M1_ne (by omega), P1_ne h98, P1_ne h98]
    · rw [M1_ne (by omega), P1_nj (by omega), P1_eq]; rfl
    · rw [M1_ne (by omega), P1_eq]; rfl
    · obtain rfl : u = 0 := by omega
      exact M1_eq rfl
  have key := loop_up (α := Unit) (Rep := fun σ' _ i => RdI σ0 σ' R Q (keepF (clF σ0 84 8) (clF σ0 86 8) 8) i ∧ 0 ≤ i) (f := fun _ _ => ()) (hi := R.2.1 + 1)
    (G := fun b _ i σ out => Go (fun _ => 0) 2 mX1_readSigns b 25 [vA 98, vA (4 + 10 * k), vA (12 + 10 * k), vA 83, vI (plN R i), vI i] [] σ out) (fun σ _ i h hlo => ?_) (R.2.1 + 1).toNat (M1 (P1 (P1 σ 98 11 0) 98 12 0) 103 0 0) () 0 ⟨by rw [hσ0]; exact start, by omega⟩ (by have := hw.1; omega)
  · obtain ⟨σ', ⟨q1, q2⟩, q3⟩ := key
    refine ⟨σ', ?_, by rw [hσ0] at q1; exact q1⟩
    obtain ⟨g1, g2, g3, g4, g5, g6, g7, g8, g9, g10⟩ := gamk k hk
    obtain ⟨p1, p2, p3, p4, p5, p6, p7, p8, p9⟩ := strk hS k hk
    have hS' : Str σ'.2.1 := by rw [q1.1.1, hσ0]; exact hS
    have hR' : RepR σ' k R := hR.frm (lo := 98) (hi := 105) ⟨by rw [q1.1.1, hσ0], fun a h j => by rw [q1.1.2 a j (by omega), hσ0]⟩ (by omega)
    refine con_of_go mfX1_readSigns.1 trivial (Nat.le_of_ble_eq_true rfl) rfl (by decide) ?_
    show Go _ _ _ _ 0 [vA _, vA _, vA _, vA _, vT 9 0, vT 9 0] [] _ _
    refine go_aload_n (at_of tX1_readSigns 0 0 rfl) rfl ?_
    refine go_iconst (at_of tX1_readSigns 0 1 rfl) (by unfold in32; omega) ?_
    refine go_put1 fp_X1_47 rfl (Or.inl rfl) G_98 (Or.inl rfl) (at_of tX1_readSigns 0 2 rfl) ?_
    refine go_aload_n (at_of tX1_readSigns 0 3 rfl) rfl ?_
    refine go_iconst (at_of tX1_readSigns 0 4 rfl) (by unfold in32; omega) ?_
    refine go_put1 fp_X1_50 rfl (Or.inl rfl) G_98 (Or.inl rfl) (at_of tX1_readSigns 0 5 rfl) ?_
    refine go_iconst (at_of tX1_readSigns 0 6 rfl) (by unfold in32; omega) ?_
    refine go_istore (at_of tX1_readSigns 0 7 rfl) rfl rfl ?_
    refine go_aload_n (at_of tX1_readSigns 0 8 rfl) rfl ?_
    refine go_getr (q := 103) fl_X1_32 rfl G_98 ((hS _ _ rfl).trans rfl) (at_of tX1_readSigns 0 9 rfl) ?_
    refine go_iconst (at_of tX1_readSigns 0 10 rfl) (by unfold in32; omega) ?_
    refine go_iconst (at_of tX1_readSigns 0 11 rfl) (by unfold in32; omega) ?_
    refine go_cN (con_setCell G_103 (by omega) (by omega)) lk_X1_80 rfl (at_of tX1_readSigns 0 12 rfl) rfl (by decide) rfl (Nat.le_of_ble_eq_true rfl) rfl (by first | decide | exact ⟨Nat.zero_le _, Nat.zero_le _⟩) ?_
    refine go_iconst (at_of tX1_readSigns 0 13 rfl) (by unfold in32; omega) ?_
    refine go_istore (at_of tX1_readSigns 0 14 rfl) rfl rfl ?_
    refine q3 _ _ (fun b => ?_)
    refine go_iload (at_of tX1_readSigns 0 15 rfl) rfl rfl ?_
    refine go_aload_n (at_of tX1_readSigns 1 0 rfl) rfl ?_
    refine go_cV (r_allUnits (by exact hS') hk (by exact hR')) lk_X1_84 rfl g2 (at_of tX1_readSigns 1 1 rfl) rfl (by decide) rfl (Nat.le_of_ble_eq_true rfl) rfl (by first | decide | exact ⟨Nat.zero_le _, Nat.zero_le _⟩) ?_
    refine go_icmp_gt (tgt := 116) (at_of tX1_readSigns 1 2 rfl) (by decide) (fun h31 => ?_) (fun h31 => ?_)
    rotate_left
    · exfalso; omega
    exact go_retv (at_of tX1_readSigns 3 10 rfl) rfl
  · rw [← hσ0] at hS hR
    clear start hσ0
    obtain ⟨⟨hF, f2, f3, f4, f5, f6, f7⟩, hi0⟩ := h
    have hS : Str σ.2.1 := by rw [hF.1]; exact hS
    have hR : RepR σ k R := hR.frm (lo := 98) (hi := 105) ⟨hF.1, fun a h j => hF.2 a j (by omega)⟩ (by omega)
    obtain ⟨g1, g2, g3, g4, g5, g6, g7, g8, g9, g10⟩ := gamk k hk
    obtain ⟨p1, p2, p3, p4, p5, p6, p7, p8, p9⟩ := strk hS k hk
    have hn := hR.1
    obtain ⟨hw1, hw2, hw3⟩ := hR.2.2.2
    have b1 := @sgS_nn R Q i
    have b2 := @enN_nn R i
    have b3 := @plN_nn R i
    have b4 := enN_ub (R := R) hi0
    have b5 := plN_ub (R := R) hi0
    have b6 := sgS_le (R := R) (Q := Q) (i := i + 1) (j := R.2.1 + 1) (by omega)
    have e1 := sgS_s (R := R) (Q := Q) hi0
    have e2 := enN_s (R := R) hi0
    have e3 := plN_s (R := R) hi0
    have e4 := stI_s (R := R) hi0
    have hl : leftB R.1 i = true ↔ R.1 3 i = -1 := by unfold leftB; rw [decide_eq_true_eq]
    have kpe : ∀ a, (a = 84 ∨ a = 86) → clF σ a 8 = clF σ0 a 8 := fun a ha => by
      funext x
      unfold clF cl
      rw [hF.2 a _ (by omega)]
    by_cases hs : R.1 3 i = -1
    · rw [show plN R (i + 1) = plN R i + 1 by rw [e3, ind_t (hl.mpr hs)]]
      have s1 : (M1 (M1 σ 101 (plN R i) (sgS R Q i)) 102 (plN R i) (enN R i)).2 = σ.2 := rfl
      obtain ⟨σ1, hσ1⟩ : ∃ σ1 : St, σ1 = M1 (M1 σ 101 (plN R i) (sgS R Q i)) 102 (plN R i) (enN R i) := ⟨_, rfl⟩
      have n1 : ∀ a j : Nat, a ≠ 101 → a ≠ 102 → σ1.1 a j = σ.1 a j := fun a j q1 q2 => by rw [hσ1, M1_ne q2, M1_ne q1]
      have n2 : σ1.2 = σ.2 := by rw [hσ1]; rfl
      have m1 : σ1.1 101 (plN R i).toNat = sgS R Q i := by rw [hσ1, M1_ne (by omega), M1_eq rfl]
      have m2 : σ1.1 102 (plN R i).toNat = enN R i := by rw [hσ1, M1_eq rfl]
      have m3 : ∀ j : Nat, j ≠ (plN R i).toNat → σ1.1 101 j = σ.1 101 j ∧ σ1.1 102 j = σ.1 102 j := fun j q => by
        rw [hσ1, M1_ne (show (101 : Nat) ≠ 102 by omega), M1_nj q, M1_nj q, M1_ne (show (102 : Nat) ≠ 101 by omega)]; exact ⟨rfl, rfl⟩
      have hR2 : RepR σ1 k R := hR.frm (lo := 101) (hi := 102) ⟨n2, fun a h j => n1 a j (by omega) (by omega)⟩ (by omega)
      have pl4 : ∀ u : Int, 0 ≤ u → u < i + 1 → R.1 3 u = -1 → σ1.1 101 (plN R u).toNat = sgS R Q u ∧ σ1.1 102 (plN R u).toNat = enN R u := fun u u0 u1 u3 => by
        by_cases hu : u = i
        · rw [hu]; exact ⟨m1, m2⟩
        · have := plN_lt (R := R) u0 (show u < i by omega) u3
          have := @plN_nn R u
          rw [(m3 _ (by omega)).1, (m3 _ (by omega)).2]
          exact f5 u u0 (by omega) u3
      by_cases he : R.1 0 i = 47
      · have hse := (send_iff hi0 (by omega)).mpr ⟨hs, he⟩
        rw [ind_t hse] at e2
        rw [if_pos hse] at e4
        have eg : sgn R Q i = 0 := if_pos (Or.inr he)
        have hS2 : Str σ1.2.1 := by rw [n2]; exact hS
        have c11 : σ1.1 98 11 = sgS R Q i := by rw [n1 _ _ (by omega) (by omega)]; exact f2
        have c12 : σ1.1 98 12 = enN R i := by rw [n1 _ _ (by omega) (by omega)]; exact f3
        have kp1 : keepF (clF σ1 84 8) (clF σ1 86 8) 8 (R.1 5 i) = keepF (clF σ0 84 8) (clF σ0 86 8) 8 (R.1 5 i) := by
          rw [← kpe 84 (by omega), ← kpe 86 (by omega)]
          rw [show clF σ1 84 8 = clF σ 84 8 by funext x; unfold clF cl; rw [n1 _ _ (by omega) (by omega)], show clF σ1 86 8 = clF σ 86 8 by funext x; unfold clF cl; rw [n1 _ _ (by omega) (by omega)]]
        refine ⟨clP σ1 (keepF (clF σ1 84 8) (clF σ1 86 8) 8 (R.1 5 i)), ⟨⟨⟨n2.trans hF.1, fun a j h => ?_⟩, ?_, ?_, fun u s a b c d => ?_, fun u a b c => ?_, fun u a b => ?_, fun u a b c => ?_⟩, by omega⟩, fun b out K => ?_⟩
        · unfold clP
          rw [M1_ne (by omega)]
          by_cases h98 : a = 98
          · rw [P1_nj (by omega), M1_ne (by omega), n1 _ _ (by omega) (by omega), hF.2 a j h]
          · rw [P1_ne h98, M1_ne (by omega), n1 _ _ (by omega) (by omega), hF.2 a j h]
        · unfold clP; rw [M1_ne (by omega), P1_nj (by omega), M1_ne (by omega), c11, e1, eg, Int.add_zero]
        · unfold clP; rw [M1_ne (by omega), P1_eq, c12, e2]
        · unfold clP; rw [M1_ne (by omega), P1_ne (by omega), M1_ne (by omega), n1 _ _ (by omega) (by omega)]
          by_cases hu : u = i
          · rw [hu, e1, eg] at d; rw [hu] at c; omega
          · exact f4 u s a (by omega) c d
        · unfold clP; rw [M1_ne (by omega), P1_ne (by omega), M1_ne (by omega), M1_ne (by omega), P1_ne (by omega), M1_ne (by omega)]
          exact pl4 u a b c
        · unfold clP
          rw [c12]
          by_cases hu : u = i + 1
          · rw [hu, e2, M1_eq rfl, c11, e4, e1, eg, Int.add_zero]
          · have := enN_le (R := R) (i := u) (j := i) (by omega)
            have := @enN_nn R u
            rw [M1_nj (by omega), P1_ne (by omega), M1_ne (by omega), n1 _ _ (by omega) (by omega)]
            exact f6 u a (by omega)
        · unfold clP
          rw [c12, M1_ne (by omega), P1_ne (by omega), kp1]
          by_cases hu : u = i
          · rw [hu, M1_eq rfl]
          · have := enN_lt (R := R) a (show u < i by omega) c
            have := @enN_nn R u
            rw [M1_nj (by omega), n1 _ _ (by omega) (by omega)]
            exact f7 u a (by omega) c
        · skip
          refine go_iload (at_of tX1_readSigns 0 15 rfl) rfl rfl ?_
          refine go_aload_n (at_of tX1_readSigns 1 0 rfl) rfl ?_
          refine go_cV (r_allUnits (by exact hS) hk (by exact hR)) lk_X1_84 rfl g2 (at_of tX1_readSigns 1 1 rfl) rfl (by decide) rfl (Nat.le_of_ble_eq_true rfl) rfl (by first | decide | exact ⟨Nat.zero_le _, Nat.zero_le _⟩) ?_
          refine go_icmp_gt (tgt := 116) (at_of tX1_readSigns 1 2 rfl) (by decide) (fun h31 => ?_) (fun h31 => ?_)
          · exfalso; omega
          refine go_aload_n (at_of tX1_readSigns 1 3 rfl) rfl ?_
          refine go_iload (at_of tX1_readSigns 1 4 rfl) rfl rfl ?_
          refine go_cV (r_isSeen (by exact hS) hk (by exact hR)) lk_X1_90 rfl g2 (at_of tX1_readSigns 1 5 rfl) rfl (by decide) rfl (Nat.le_of_ble_eq_true rfl) rfl (by first | decide | exact ⟨Nat.zero_le _, Nat.zero_le _⟩) ?_
          refine go_if_eq (tgt := 110) (at_of tX1_readSigns 1 6 rfl) (by decide) (fun h40 => ?_) (fun h40 => ?_)
          · exfalso; exact bI_0.mp h40 ((seen_iff hi0 (by omega)).mpr hs)
          refine go_aload_n (at_of tX1_readSigns 1 7 rfl) rfl ?_
          refine go_getr (q := 101) fl_X1_26 rfl G_98 ((hS _ _ rfl).trans rfl) (at_of tX1_readSigns 1 8 rfl) ?_
          refine go_iload (at_of tX1_readSigns 1 9 rfl) rfl rfl ?_
          refine go_aload_n (at_of tX1_readSigns 1 10 rfl) rfl ?_
          refine go_getf fl_X1_47 rfl G_98 (at_of tX1_readSigns 1 11 rfl) ?_
          rw [f2]
          refine go_cN (con_setCell G_101 (by omega) (by omega)) lk_X1_80 rfl (at_of tX1_readSigns 1 12 rfl) rfl (by decide) rfl (Nat.le_of_ble_eq_true rfl) rfl (by first | decide | exact ⟨Nat.zero_le _, Nat.zero_le _⟩) ?_
          refine go_aload_n (at_of tX1_readSigns 1 13 rfl) rfl ?_
          refine go_getr (q := 102) fl_X1_29 rfl G_98 ((hS _ _ rfl).trans rfl) (at_of tX1_readSigns 1 14 rfl) ?_
          refine go_iload (at_of tX1_readSigns 1 15 rfl) rfl rfl ?_
          refine go_aload_n (at_of tX1_readSigns 2 0 rfl) rfl ?_
          refine go_getf fl_X1_50 rfl G_98 (at_of tX1_readSigns 2 1 rfl) ?_
          rw [M1_ne (by omega), f3]
          refine go_cN (con_setCell G_102 (by omega) (by omega)) lk_X1_80 rfl (at_of tX1_readSigns 2 2 rfl) rfl (by decide) rfl (Nat.le_of_ble_eq_true rfl) rfl (by first | decide | exact ⟨Nat.zero_le _, Nat.zero_le _⟩) ?_
          rw [← hσ1]
          refine go_iinc (at_of tX1_readSigns 2 3 rfl) rfl (by unfold in32; omega) rfl rfl ?_
          refine go_aload_n (at_of tX1_readSigns 2 4 rfl) rfl ?_
          refine go_iconst (at_of tX1_readSigns 2 5 rfl) (by unfold in32; omega) ?_
          refine go_iload (at_of tX1_readSigns 2 6 rfl) rfl rfl ?_
          refine go_cV (r_fact (by exact hS2) hk hR2 (by omega) (by omega)) lk_X1_94 rfl g2 (at_of tX1_readSigns 2 7 rfl) rfl (by decide) rfl (Nat.le_of_ble_eq_true rfl) rfl (by first | decide | exact ⟨Nat.zero_le _, Nat.zero_le _⟩) ?_
          refine go_bipush (at_of tX1_readSigns 2 8 rfl) (by decide) ?_
          refine go_icmp_ne (tgt := 102) (at_of tX1_readSigns 2 9 rfl) (by decide) (fun h81 => ?_) (fun h81 => ?_)
          · exfalso; omega
          refine go_aload_n (at_of tX1_readSigns 2 10 rfl) rfl ?_
          refine go_aload_n (at_of tX1_readSigns 2 11 rfl) rfl ?_
          refine go_aload_n (at_of tX1_readSigns 2 12 rfl) rfl ?_
          refine go_iconst (at_of tX1_readSigns 2 13 rfl) (by unfold in32; omega) ?_
          refine go_iload (at_of tX1_readSigns 2 14 rfl) rfl rfl ?_
          refine go_cV (r_fact (by exact hS2) hk hR2 (by omega) (by omega)) lk_X1_94 rfl g2 (at_of tX1_readSigns 2 15 rfl) rfl (by decide) rfl (Nat.le_of_ble_eq_true rfl) rfl (by first | decide | exact ⟨Nat.zero_le _, Nat.zero_le _⟩) ?_
          refine go_cV (con_keepsWithNext (by exact hS2)) lk_X1_98 rfl G_83 (at_of tX1_readSigns 3 0 rfl) rfl (by decide) rfl (Nat.le_of_ble_eq_true rfl) rfl (by first | decide | exact ⟨Nat.zero_le _, Nat.zero_le _⟩) ?_
          refine go_cV (con_closeParagraph (by exact hS2) (keepF_01 _ _) (by omega)) lk_X1_103 rfl G_98 (at_of tX1_readSigns 3 1 rfl) rfl (by decide) rfl (Nat.le_of_ble_eq_true rfl) rfl (by first | decide | exact ⟨Nat.zero_le _, Nat.zero_le _⟩) ?_
          refine go_goto (tgt := 110) (at_of tX1_readSigns 3 2 rfl) (by decide) ?_
          refine go_iinc (at_of tX1_readSigns 3 8 rfl) rfl (by unfold in32; omega) rfl rfl ?_
          refine go_goto (tgt := 25) (at_of tX1_readSigns 3 9 rfl) (by decide) ?_
          exact K _
      · have hse : ¬ sendB R.1 R.2.1 i = true := fun q => he ((send_iff hi0 (by omega)).mp q).2
        rw [ind_f hse] at e2
        rw [if_neg hse] at e4
        have eg : sgn R Q i = sg1 R Q i := by unfold sgn sg1; rw [if_neg (by omega)]
        have hS2 : Str σ1.2.1 := by rw [n2]; exact hS
        have c11 : σ1.1 98 11 = sgS R Q i := by rw [n1 _ _ (by omega) (by omega)]; exact f2
        have ca := con_addSigns hS2 hk hR2 (Q := Q) (fun c a b => by rw [n1 _ _ (by omega) (by omega), hF.2 _ _ (by omega)]; exact hQ c a b) (i := i) (by omega) (by have := hSg i hi0 (by omega); omega) c11 b1 (by rw [← eg]; omega)
        refine ⟨adS σ1 (sgS R Q i) (sgS R Q i + sg1 R Q i) (blU R i), ⟨⟨⟨n2.trans hF.1, fun a j h => ?_⟩, ?_, ?_, fun u s a b c d => ?_, fun u a b c => ?_, fun u a b => ?_, fun u a b c => ?_⟩, by omega⟩, fun b out K => ?_⟩
        · rw [adS_ne (by omega), n1 _ _ (by omega) (by omega), hF.2 a j h]
        · rw [adS_n, e1, eg]
        · rw [adS_ne (by omega), n1 _ _ (by omega) (by omega), f3, e2, Int.add_zero]
        · have := @sgS_nn R Q u
          by_cases hu : u = i
          · rw [hu] at c d ⊢; rw [e1, eg] at d
            exact adS_in (by omega) (by omega)
          · have := sgS_le (R := R) (Q := Q) (i := u + 1) (j := i) (by omega)
            rw [adS_out (by omega) (by omega), n1 _ _ (by omega) (by omega)]
            exact f4 u s a (by omega) c d
        · rw [adS_ne (by omega), adS_ne (by omega)]
          exact pl4 u a b c
        · rw [adS_ne (by omega), n1 _ _ (by omega) (by omega)]
          by_cases hu : u = i + 1
          · rw [hu, e4, e2, Int.add_zero]; exact f6 i hi0 (by omega)
          · exact f6 u a (by omega)
        · rw [adS_ne (by omega), n1 _ _ (by omega) (by omega)]
          by_cases hu : u = i
          · exact absurd (hu ▸ c) hse
          · exact f7 u a (by omega) c
        · skip
          refine go_iload (at_of tX1_readSigns 0 15 rfl) rfl rfl ?_
          refine go_aload_n (at_of tX1_readSigns 1 0 rfl) rfl ?_
          refine go_cV (r_allUnits (by exact hS) hk (by exact hR)) lk_X1_84 rfl g2 (at_of tX1_readSigns 1 1 rfl) rfl (by decide) rfl (Nat.le_of_ble_eq_true rfl) rfl (by first | decide | exact ⟨Nat.zero_le _, Nat.zero_le _⟩) ?_
          refine go_icmp_gt (tgt := 116) (at_of tX1_readSigns 1 2 rfl) (by decide) (fun h31 => ?_) (fun h31 => ?_)
          · exfalso; omega
          refine go_aload_n (at_of tX1_readSigns 1 3 rfl) rfl ?_
          refine go_iload (at_of tX1_readSigns 1 4 rfl) rfl rfl ?_
          refine go_cV (r_isSeen (by exact hS) hk (by exact hR)) lk_X1_90 rfl g2 (at_of tX1_readSigns 1 5 rfl) rfl (by decide) rfl (Nat.le_of_ble_eq_true rfl) rfl (by first | decide | exact ⟨Nat.zero_le _, Nat.zero_le _⟩) ?_
          refine go_if_eq (tgt := 110) (at_of tX1_readSigns 1 6 rfl) (by decide) (fun h40 => ?_) (fun h40 => ?_)
          · exfalso; exact bI_0.mp h40 ((seen_iff hi0 (by omega)).mpr hs)
          refine go_aload_n (at_of tX1_readSigns 1 7 rfl) rfl ?_
          refine go_getr (q := 101) fl_X1_26 rfl G_98 ((hS _ _ rfl).trans rfl) (at_of tX1_readSigns 1 8 rfl) ?_
          refine go_iload (at_of tX1_readSigns 1 9 rfl) rfl rfl ?_
          refine go_aload_n (at_of tX1_readSigns 1 10 rfl) rfl ?_
          refine go_getf fl_X1_47 rfl G_98 (at_of tX1_readSigns 1 11 rfl) ?_
          rw [f2]
          refine go_cN (con_setCell G_101 (by omega) (by omega)) lk_X1_80 rfl (at_of tX1_readSigns 1 12 rfl) rfl (by decide) rfl (Nat.le_of_ble_eq_true rfl) rfl (by first | decide | exact ⟨Nat.zero_le _, Nat.zero_le _⟩) ?_
          refine go_aload_n (at_of tX1_readSigns 1 13 rfl) rfl ?_
          refine go_getr (q := 102) fl_X1_29 rfl G_98 ((hS _ _ rfl).trans rfl) (at_of tX1_readSigns 1 14 rfl) ?_
          refine go_iload (at_of tX1_readSigns 1 15 rfl) rfl rfl ?_
          refine go_aload_n (at_of tX1_readSigns 2 0 rfl) rfl ?_
          refine go_getf fl_X1_50 rfl G_98 (at_of tX1_readSigns 2 1 rfl) ?_
          rw [M1_ne (by omega), f3]
          refine go_cN (con_setCell G_102 (by omega) (by omega)) lk_X1_80 rfl (at_of tX1_readSigns 2 2 rfl) rfl (by decide) rfl (Nat.le_of_ble_eq_true rfl) rfl (by first | decide | exact ⟨Nat.zero_le _, Nat.zero_le _⟩) ?_
          rw [← hσ1]
          refine go_iinc (at_of tX1_readSigns 2 3 rfl) rfl (by unfold in32; omega) rfl rfl ?_
          refine go_aload_n (at_of tX1_readSigns 2 4 rfl) rfl ?_
          refine go_iconst (at_of tX1_readSigns 2 5 rfl) (by unfold in32; omega) ?_
          refine go_iload (at_of tX1_readSigns 2 6 rfl) rfl rfl ?_
          refine go_cV (r_fact (by exact hS2) hk hR2 (by omega) (by omega)) lk_X1_94 rfl g2 (at_of tX1_readSigns 2 7 rfl) rfl (by decide) rfl (Nat.le_of_ble_eq_true rfl) rfl (by first | decide | exact ⟨Nat.zero_le _, Nat.zero_le _⟩) ?_
          refine go_bipush (at_of tX1_readSigns 2 8 rfl) (by decide) ?_
          refine go_icmp_ne (tgt := 102) (at_of tX1_readSigns 2 9 rfl) (by decide) (fun h81 => ?_) (fun h81 => ?_)
          rotate_left
          · exfalso; omega
          refine go_aload_n (at_of tX1_readSigns 3 3 rfl) rfl ?_
          refine go_aload_n (at_of tX1_readSigns 3 4 rfl) rfl ?_
          refine go_iload (at_of tX1_readSigns 3 5 rfl) rfl rfl ?_
          refine go_aload_n (at_of tX1_readSigns 3 6 rfl) rfl ?_
          refine go_cV (ca) lk_X1_107 rfl G_98 (at_of tX1_readSigns 3 7 rfl) rfl (by decide) rfl (Nat.le_of_ble_eq_true rfl) rfl (by first | decide | exact ⟨Nat.zero_le _, Nat.zero_le _⟩) ?_
          refine go_iinc (at_of tX1_readSigns 3 8 rfl) rfl (by unfold in32; omega) rfl rfl ?_
          refine go_goto (tgt := 25) (at_of tX1_readSigns 3 9 rfl) (by decide) ?_
          exact K _
    · have hsn : ¬ seenB R.1 R.2.1 i = true := fun q => hs ((seen_iff hi0 (by omega)).mp q)
      have hse : ¬ sendB R.1 R.2.1 i = true := fun q => hs ((send_iff hi0 (by omega)).mp q).1
      rw [ind_f hse, Int.add_zero] at e2
      rw [if_neg hse] at e4
      have eg : sgn R Q i = 0 := if_pos (Or.inl hs)
      rw [eg, Int.add_zero] at e1
      rw [ind_f (fun q => hs (hl.mp q)), Int.add_zero] at e3
      refine ⟨σ, ⟨⟨hF, by rw [e1]; exact f2, by rw [e2]; exact f3, fun u s a b c d => ?_, fun u a b c => ?_, fun u a b => ?_, fun u a b c => ?_⟩, by omega⟩, fun b out K => ?_⟩
      · by_cases hu : u = i
        · rw [hu] at c d; rw [e1] at d; omega
        · exact f4 u s a (by omega) c d
      · by_cases hu : u = i
        · exact absurd (hu ▸ c) hs
        · exact f5 u a (by omega) c
      · by_cases hu : u = i + 1
        · rw [hu, e4, e2]; exact f6 i hi0 (by omega)
        · exact f6 u a (by omega)
      · by_cases hu : u = i
        · exact absurd (hu ▸ c) hse
        · exact f7 u a (by omega) c
      · have K' := fun b' => K b'
        rw [e3] at K'
        refine go_iload (at_of tX1_readSigns 0 15 rfl) rfl rfl ?_
        refine go_aload_n (at_of tX1_readSigns 1 0 rfl) rfl ?_
        refine go_cV (r_allUnits (by exact hS) hk (by exact hR)) lk_X1_84 rfl g2 (at_of tX1_readSigns 1 1 rfl) rfl (by decide) rfl (Nat.le_of_ble_eq_true rfl) rfl (by first | decide | exact ⟨Nat.zero_le _, Nat.zero_le _⟩) ?_
        refine go_icmp_gt (tgt := 116) (at_of tX1_readSigns 1 2 rfl) (by decide) (fun h31 => ?_) (fun h31 => ?_)
        · exfalso; omega
        refine go_aload_n (at_of tX1_readSigns 1 3 rfl) rfl ?_
        refine go_iload (at_of tX1_readSigns 1 4 rfl) rfl rfl ?_
        refine go_cV (r_isSeen (by exact hS) hk (by exact hR)) lk_X1_90 rfl g2 (at_of tX1_readSigns 1 5 rfl) rfl (by decide) rfl (Nat.le_of_ble_eq_true rfl) rfl (by first | decide | exact ⟨Nat.zero_le _, Nat.zero_le _⟩) ?_
        refine go_if_eq (tgt := 110) (at_of tX1_readSigns 1 6 rfl) (by decide) (fun h40 => ?_) (fun h40 => ?_)
        rotate_left
        · exfalso; exact hsn (bI_1.mp h40)
        refine go_iinc (at_of tX1_readSigns 3 8 rfl) rfl (by unfold in32; omega) rfl rfl ?_
        refine go_goto (tgt := 25) (at_of tX1_readSigns 3 9 rfl) (by decide) ?_
        exact K' _
end LaySigns
