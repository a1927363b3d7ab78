/-! The reference: judging. -/
section Mod7
variable {σ : St}
theorem RowW.drp {R : RowD} (h : RowW R) {u : Int} (hu : 0 ≤ u ∧ u < R.2.1) : RowW (drpR R u) := by
  obtain ⟨a, b, c⟩ := h
  refine ⟨by show 0 ≤ R.2.1 - 1; omega, by show R.2.1 - 1 ≤ 200; omega, fun x x0 x1 => ?_⟩
  have q := c x x0 x1
  show -1 ≤ (if u < R.2.2.1 x then R.2.2.1 x - 1 else R.2.2.1 x) ∧ (if u < R.2.2.1 x then R.2.2.1 x - 1 else R.2.2.1 x) ≤ R.2.1 - 1 ∧ -1 ≤ (if u < R.2.2.2 x then R.2.2.2 x - 1 else R.2.2.2 x) ∧ (if u < R.2.2.2 x then R.2.2.2 x - 1 else R.2.2.2 x) ≤ R.2.1 - 1
  split <;> split <;> omega
theorem RowW.set {R : RowD} (h : RowW R) {w i z : Int} : RowW (setR R w i z) := h
theorem RepN.set {σ : St} {D : PapD} {R : RowD} {j z : Int} (h : RepN (cN σ) D) (hj : 0 ≤ j ∧ j ≤ 3010) (hR : RepNr (cN (M1 σ 110 j z)) R) (hn : 0 ≤ R.2.1 ∧ R.2.1 ≤ 200) : RepN (cN (M1 σ 110 j z)) (R, D.2) :=
  h.row hR hn (fun x hx => by rw [cN_M1 (by omega) (by omega), if_neg (by omega)])
/-- a unit judged -/
def jdgS (c : Int) (acc : Bool) (R : RowD) (u : Int) : RowD := if R.1 4 u = c then setR (setR R 5 u (if acc = true then R.1 5 u else R.1 6 u)) 4 u (-1) else R
def jdgF (c : Int) (acc : Bool) (R : RowD) (u : Int) : RowD :=
  if (R.1 2 u = c ∧ acc = false) ∨ (R.1 3 u = c ∧ acc = true) then drpR (jdgS c acc R u) u
  else setR (setR (jdgS c acc R u) 2 u (if R.1 2 u = c then -1 else R.1 2 u)) 3 u (if R.1 3 u = c then -1 else R.1 3 u)
def jdgR (R : RowD) (c : Int) (acc : Bool) : RowD := dnX (jdgF c acc) (R.2.1 + 1).toNat R.2.1 R
def jdgD (D : PapD) (c : Int) (acc : Bool) : PapD := (jdgR D.1 c acc, sstL D.2.1 c (if acc = true then 97 else 114), D.2.2)
theorem jdgS_ne {c : Int} {acc : Bool} {R : RowD} {u w i : Int} (h : i ≠ u ∨ (w ≠ 4 ∧ w ≠ 5)) : (jdgS c acc R u).1 w i = R.1 w i := by
  unfold jdgS
  split
  · rw [setR_ne (by omega), setR_ne (by omega)]
  · rfl
theorem jdgS_n {c : Int} {acc : Bool} {R : RowD} {u : Int} : (jdgS c acc R u).2 = R.2 := by
  unfold jdgS; split <;> rfl
theorem m_concerns (hS : Str σ.2.1) {R : RowD} (hN : RepNr (cN σ) R) (hn : 0 ≤ R.2.1 ∧ R.2.1 ≤ 200) {c : Int} : Con 1 mX10_concerns 0 0 [vA 109, vI c] σ (vI (concN R.1 R.2.1 c), σ) := by
  unfold concN
  have key : ∀ (m : Nat) (b : Nat × Nat) (u s : Int), 0 ≤ u → u + m = R.2.1 + 1 → 0 ≤ s → s ≤ u → Go (fun _ => 0) 1 mX10_concerns b 4 [vA 109, vI c, vI s, vI u] [] σ (vI (s + cntF (concB R.1 c) m u), σ) := by
    intro m
    induction m with
    | zero =>
      intro b u s h0 h1 h2 h3
      refine go_iload_n (at_of tX10_concerns 0 4 rfl) rfl ?_
      refine go_aload_n (at_of tX10_concerns 0 5 rfl) rfl ?_
      refine go_cV (m_many hS hN) lk_X10_110 rfl G_109 (at_of tX10_concerns 0 6 rfl) rfl (by decide) rfl (Nat.le_of_ble_eq_true rfl) rfl (by first | decide | exact ⟨Nat.zero_le _, Nat.zero_le _⟩) ?_
      refine go_icmp_gt (tgt := 57) (at_of tX10_concerns 0 7 rfl) (by decide) (fun h9 => ?_) (fun h9 => ?_)
      rotate_left
      · exfalso; omega
      refine go_iload_n (at_of tX10_concerns 2 2 rfl) rfl ?_
      exact go_reti (at_of tX10_concerns 2 3 rfl) (le_i (by rw [cntF]; omega))
    | succ m ih =>
      intro b u s h0 h1 h2 h3
      rw [cntF]
      by_cases hc : concB R.1 c u = true
      · have hc2 : R.1 2 u = c ∨ R.1 3 u = c ∨ R.1 4 u = c := of_decide_eq_true hc
        rw [if_pos hc]
        by_cases q1 : R.1 2 u = c
        · skip
          refine go_iload_n (at_of tX10_concerns 0 4 rfl) rfl ?_
          refine go_aload_n (at_of tX10_concerns 0 5 rfl) rfl ?_
          refine go_cV (m_many hS hN) lk_X10_110 rfl G_109 (at_of tX10_concerns 0 6 rfl) rfl (by decide) rfl (Nat.le_of_ble_eq_true rfl) rfl (by first | decide | exact ⟨Nat.zero_le _, Nat.zero_le _⟩) ?_
          refine go_icmp_gt (tgt := 57) (at_of tX10_concerns 0 7 rfl) (by decide) (fun h9 => ?_) (fun h9 => ?_)
          · exfalso; omega
          refine go_iload_n (at_of tX10_concerns 0 8 rfl) rfl ?_
          refine go_aload_n (at_of tX10_concerns 0 9 rfl) rfl ?_
          refine go_iload_n (at_of tX10_concerns 0 10 rfl) rfl ?_
          refine go_iconst (at_of tX10_concerns 0 11 rfl) (by unfold in32; omega) ?_
          refine go_cV (m_at1 hS hN (by omega)) lk_X10_106 rfl G_109 (at_of tX10_concerns 0 12 rfl) rfl (by decide) rfl (Nat.le_of_ble_eq_true rfl) rfl (by first | decide | exact ⟨Nat.zero_le _, Nat.zero_le _⟩) ?_
          refine go_iload_n (at_of tX10_concerns 0 13 rfl) rfl ?_
          refine go_icmp_eq (tgt := 44) (at_of tX10_concerns 0 14 rfl) (by decide) (fun h20 => ?_) (fun h20 => ?_)
          rotate_left
          · exfalso; omega
          refine go_iconst (at_of tX10_concerns 1 11 rfl) (by unfold in32; omega) ?_
          refine go_goto (tgt := 49) (at_of tX10_concerns 1 12 rfl) (by decide) ?_
          refine go_iadd (at_of tX10_concerns 1 14 rfl) (by unfold in32; omega) ?_
          refine go_istore_n (at_of tX10_concerns 1 15 rfl) rfl rfl ?_
          refine go_iinc (at_of tX10_concerns 2 0 rfl) rfl (by unfold in32; omega) rfl rfl ?_
          refine go_goto (tgt := 4) (at_of tX10_concerns 2 1 rfl) (by decide) ?_
          have z := ih (b.1 - 0, b.2 - 0) (u + 1) (s + 1) (by omega) (by omega) (by omega) (by omega)
          rw [show s + (1 + cntF (concB R.1 c) m (u + 1)) = s + 1 + cntF (concB R.1 c) m (u + 1) by omega]
          exact ih _ _ _ (by omega) (by omega) (by omega) (by omega)
        · by_cases q2 : R.1 3 u = c
          · skip
            refine go_iload_n (at_of tX10_concerns 0 4 rfl) rfl ?_
            refine go_aload_n (at_of tX10_concerns 0 5 rfl) rfl ?_
            refine go_cV (m_many hS hN) lk_X10_110 rfl G_109 (at_of tX10_concerns 0 6 rfl) rfl (by decide) rfl (Nat.le_of_ble_eq_true rfl) rfl (by first | decide | exact ⟨Nat.zero_le _, Nat.zero_le _⟩) ?_
            refine go_icmp_gt (tgt := 57) (at_of tX10_concerns 0 7 rfl) (by decide) (fun h9 => ?_) (fun h9 => ?_)
            · exfalso; omega
            refine go_iload_n (at_of tX10_concerns 0 8 rfl) rfl ?_
            refine go_aload_n (at_of tX10_concerns 0 9 rfl) rfl ?_
            refine go_iload_n (at_of tX10_concerns 0 10 rfl) rfl ?_
            refine go_iconst (at_of tX10_concerns 0 11 rfl) (by unfold in32; omega) ?_
            refine go_cV (m_at1 hS hN (by omega)) lk_X10_106 rfl G_109 (at_of tX10_concerns 0 12 rfl) rfl (by decide) rfl (Nat.le_of_ble_eq_true rfl) rfl (by first | decide | exact ⟨Nat.zero_le _, Nat.zero_le _⟩) ?_
            refine go_iload_n (at_of tX10_concerns 0 13 rfl) rfl ?_
            refine go_icmp_eq (tgt := 44) (at_of tX10_concerns 0 14 rfl) (by decide) (fun h20 => ?_) (fun h20 => ?_)
            · exfalso; omega
            refine go_aload_n (at_of tX10_concerns 0 15 rfl) rfl ?_
            refine go_iload_n (at_of tX10_concerns 1 0 rfl) rfl ?_
            refine go_iconst (at_of tX10_concerns 1 1 rfl) (by unfold in32; omega) ?_
            refine go_cV (m_at2 hS hN (by omega)) lk_X10_106 rfl G_109 (at_of tX10_concerns 1 2 rfl) rfl (by decide) rfl (Nat.le_of_ble_eq_true rfl) rfl (by first | decide | exact ⟨Nat.zero_le _, Nat.zero_le _⟩) ?_
            refine go_iload_n (at_of tX10_concerns 1 3 rfl) rfl ?_
            refine go_icmp_eq (tgt := 44) (at_of tX10_concerns 1 4 rfl) (by decide) (fun h30 => ?_) (fun h30 => ?_)
            rotate_left
            · exfalso; omega
            refine go_iconst (at_of tX10_concerns 1 11 rfl) (by unfold in32; omega) ?_
            refine go_goto (tgt := 49) (at_of tX10_concerns 1 12 rfl) (by decide) ?_
            refine go_iadd (at_of tX10_concerns 1 14 rfl) (by unfold in32; omega) ?_
            refine go_istore_n (at_of tX10_concerns 1 15 rfl) rfl rfl ?_
            refine go_iinc (at_of tX10_concerns 2 0 rfl) rfl (by unfold in32; omega) rfl rfl ?_
            refine go_goto (tgt := 4) (at_of tX10_concerns 2 1 rfl) (by decide) ?_
            have z := ih (b.1 - 0, b.2 - 0) (u + 1) (s + 1) (by omega) (by omega) (by omega) (by omega)
            rw [show s + (1 + cntF (concB R.1 c) m (u + 1)) = s + 1 + cntF (concB R.1 c) m (u + 1) by omega]
            exact ih _ _ _ (by omega) (by omega) (by omega) (by omega)
          · skip
            refine go_iload_n (at_of tX10_concerns 0 4 rfl) rfl ?_
            refine go_aload_n (at_of tX10_concerns 0 5 rfl) rfl ?_
            refine go_cV (m_many hS hN) lk_X10_110 rfl G_109 (at_of tX10_concerns 0 6 rfl) rfl (by decide) rfl (Nat.le_of_ble_eq_true rfl) rfl (by first | decide | exact ⟨Nat.zero_le _, Nat.zero_le _⟩) ?_
            refine go_icmp_gt (tgt := 57) (at_of tX10_concerns 0 7 rfl) (by decide) (fun h9 => ?_) (fun h9 => ?_)
            · exfalso; omega
            refine go_iload_n (at_of tX10_concerns 0 8 rfl) rfl ?_
            refine go_aload_n (at_of tX10_concerns 0 9 rfl) rfl ?_
            refine go_iload_n (at_of tX10_concerns 0 10 rfl) rfl ?_
            refine go_iconst (at_of tX10_concerns 0 11 rfl) (by unfold in32; omega) ?_
            refine go_cV (m_at1 hS hN (by omega)) lk_X10_106 rfl G_109 (at_of tX10_concerns 0 12 rfl) rfl (by decide) rfl (Nat.le_of_ble_eq_true rfl) rfl (by first | decide | exact ⟨Nat.zero_le _, Nat.zero_le _⟩) ?_
            refine go_iload_n (at_of tX10_concerns 0 13 rfl) rfl ?_
            refine go_icmp_eq (tgt := 44) (at_of tX10_concerns 0 14 rfl) (by decide) (fun h20 => ?_) (fun h20 => ?_)
            · exfalso; omega
            refine go_aload_n (at_of tX10_concerns 0 15 rfl) rfl ?_
            refine go_iload_n (at_of tX10_concerns 1 0 rfl) rfl ?_
            refine go_iconst (at_of tX10_concerns 1 1 rfl) (by unfold in32; omega) ?_
            refine go_cV (m_at2 hS hN (by omega)) lk_X10_106 rfl G_109 (at_of tX10_concerns 1 2 rfl) rfl (by decide) rfl (Nat.le_of_ble_eq_true rfl) rfl (by first | decide | exact ⟨Nat.zero_le _, Nat.zero_le _⟩) ?_
            refine go_iload_n (at_of tX10_concerns 1 3 rfl) rfl ?_
            refine go_icmp_eq (tgt := 44) (at_of tX10_concerns 1 4 rfl) (by decide) (fun h30 => ?_) (fun h30 => ?_)
            · exfalso; omega
            refine go_aload_n (at_of tX10_concerns 1 5 rfl) rfl ?_
            refine go_iload_n (at_of tX10_concerns 1 6 rfl) rfl ?_
            refine go_bipush (at_of tX10_concerns 1 7 rfl) (by decide) ?_
            refine go_cV (m_at9 hS hN (by omega)) lk_X10_106 rfl G_109 (at_of tX10_concerns 1 8 rfl) rfl (by decide) rfl (Nat.le_of_ble_eq_true rfl) rfl (by first | decide | exact ⟨Nat.zero_le _, Nat.zero_le _⟩) ?_
            refine go_iload_n (at_of tX10_concerns 1 9 rfl) rfl ?_
            refine go_icmp_ne (tgt := 48) (at_of tX10_concerns 1 10 rfl) (by decide) (fun h41 => ?_) (fun h41 => ?_)
            · exfalso; omega
            refine go_iconst (at_of tX10_concerns 1 11 rfl) (by unfold in32; omega) ?_
            refine go_goto (tgt := 49) (at_of tX10_concerns 1 12 rfl) (by decide) ?_
            refine go_iadd (at_of tX10_concerns 1 14 rfl) (by unfold in32; omega) ?_
            refine go_istore_n (at_of tX10_concerns 1 15 rfl) rfl rfl ?_
            refine go_iinc (at_of tX10_concerns 2 0 rfl) rfl (by unfold in32; omega) rfl rfl ?_
            refine go_goto (tgt := 4) (at_of tX10_concerns 2 1 rfl) (by decide) ?_
            have z := ih (b.1 - 0, b.2 - 0) (u + 1) (s + 1) (by omega) (by omega) (by omega) (by omega)
            rw [show s + (1 + cntF (concB R.1 c) m (u + 1)) = s + 1 + cntF (concB R.1 c) m (u + 1) by omega]
            exact ih _ _ _ (by omega) (by omega) (by omega) (by omega)
      · have hc2 : ¬ (R.1 2 u = c ∨ R.1 3 u = c ∨ R.1 4 u = c) := fun q => hc (decide_eq_true q)
        rw [if_neg hc]
        refine go_iload_n (at_of tX10_concerns 0 4 rfl) rfl ?_
        refine go_aload_n (at_of tX10_concerns 0 5 rfl) rfl ?_
        refine go_cV (m_many hS hN) lk_X10_110 rfl G_109 (at_of tX10_concerns 0 6 rfl) rfl (by decide) rfl (Nat.le_of_ble_eq_true rfl) rfl (by first | decide | exact ⟨Nat.zero_le _, Nat.zero_le _⟩) ?_
        refine go_icmp_gt (tgt := 57) (at_of tX10_concerns 0 7 rfl) (by decide) (fun h9 => ?_) (fun h9 => ?_)
        · exfalso; omega
        refine go_iload_n (at_of tX10_concerns 0 8 rfl) rfl ?_
        refine go_aload_n (at_of tX10_concerns 0 9 rfl) rfl ?_
        refine go_iload_n (at_of tX10_concerns 0 10 rfl) rfl ?_
        refine go_iconst (at_of tX10_concerns 0 11 rfl) (by unfold in32; omega) ?_
        refine go_cV (m_at1 hS hN (by omega)) lk_X10_106 rfl G_109 (at_of tX10_concerns 0 12 rfl) rfl (by decide) rfl (Nat.le_of_ble_eq_true rfl) rfl (by first | decide | exact ⟨Nat.zero_le _, Nat.zero_le _⟩) ?_
        refine go_iload_n (at_of tX10_concerns 0 13 rfl) rfl ?_
        refine go_icmp_eq (tgt := 44) (at_of tX10_concerns 0 14 rfl) (by decide) (fun h20 => ?_) (fun h20 => ?_)
        · exfalso; omega
        refine go_aload_n (at_of tX10_concerns 0 15 rfl) rfl ?_
        refine go_iload_n (at_of tX10_concerns 1 0 rfl) rfl ?_
        refine go_iconst (at_of tX10_concerns 1 1 rfl) (by unfold in32; omega) ?_
        refine go_cV (m_at2 hS hN (by omega)) lk_X10_106 rfl G_109 (at_of tX10_concerns 1 2 rfl) rfl (by decide) rfl (Nat.le_of_ble_eq_true rfl) rfl (by first | decide | exact ⟨Nat.zero_le _, Nat.zero_le _⟩) ?_
        refine go_iload_n (at_of tX10_concerns 1 3 rfl) rfl ?_
        refine go_icmp_eq (tgt := 44) (at_of tX10_concerns 1 4 rfl) (by decide) (fun h30 => ?_) (fun h30 => ?_)
        · exfalso; omega
        refine go_aload_n (at_of tX10_concerns 1 5 rfl) rfl ?_
        refine go_iload_n (at_of tX10_concerns 1 6 rfl) rfl ?_
        refine go_bipush (at_of tX10_concerns 1 7 rfl) (by decide) ?_
        refine go_cV (m_at9 hS hN (by omega)) lk_X10_106 rfl G_109 (at_of tX10_concerns 1 8 rfl) rfl (by decide) rfl (Nat.le_of_ble_eq_true rfl) rfl (by first | decide | exact ⟨Nat.zero_le _, Nat.zero_le _⟩) ?_
        refine go_iload_n (at_of tX10_concerns 1 9 rfl) rfl ?_
        refine go_icmp_ne (tgt := 48) (at_of tX10_concerns 1 10 rfl) (by decide) (fun h41 => ?_) (fun h41 => ?_)
        rotate_left
        · exfalso; omega
        refine go_iconst (at_of tX10_concerns 1 13 rfl) (by unfold in32; omega) ?_
        refine go_iadd (at_of tX10_concerns 1 14 rfl) (by unfold in32; omega) ?_
        refine go_istore_n (at_of tX10_concerns 1 15 rfl) rfl rfl ?_
        refine go_iinc (at_of tX10_concerns 2 0 rfl) rfl (by unfold in32; omega) rfl rfl ?_
        refine go_goto (tgt := 4) (at_of tX10_concerns 2 1 rfl) (by decide) ?_
        rw [Int.zero_add]
        have e0 : s + 0 = s := Int.add_zero s
        rw [show s + cntF (concB R.1 c) m (u + 1) = s + 0 + cntF (concB R.1 c) m (u + 1) by omega]
        exact ih _ _ _ (by omega) (by omega) (by omega) (by omega)
  refine con_of_go mfX10_concerns.1 trivial (Nat.le_of_ble_eq_true rfl) rfl (by decide) ?_
  show Go _ _ _ _ 0 [vA _, vI _, vT 9 0, vT 9 0] [] _ _
  refine go_iconst (at_of tX10_concerns 0 0 rfl) (by unfold in32; omega) ?_
  refine go_istore_n (at_of tX10_concerns 0 1 rfl) rfl rfl ?_
  refine go_iconst (at_of tX10_concerns 0 2 rfl) (by unfold in32; omega) ?_
  refine go_istore_n (at_of tX10_concerns 0 3 rfl) rfl rfl ?_
  have z := key (R.2.1 + 1).toNat (0, 0) 0 0 (by omega) (by omega) (by omega) (by omega)
  rw [Int.zero_add] at z
  exact z
theorem m_setSt {D : PapD} {R : RowD} {z : Int} (h : RepN (cN σ) (R, D.2)) {c : Int} (hc : 0 ≤ c ∧ c < D.2.1.1) : RepN (cN (M1 σ 110 (3073 + c) z)) (R, sstL D.2.1 c z, D.2.2) := by
  have hb : 0 ≤ R.2.1 ∧ R.2.1 ≤ 200 ∧ 0 ≤ D.2.1.1 ∧ D.2.1.1 ≤ 60 := h.2.2.2
  have cm : ∀ x, 0 ≤ x → cN (M1 σ 110 (3073 + c) z) x = if x = 3073 + c then z else cN σ x := fun x hx => cN_M1 (by omega) hx
  refine ⟨h.1.congr2 hb.2.1 (fun x hx => by rw [cm _ (by omega), if_neg (by omega)]), ⟨?_, fun j j0 j1 => ?_⟩, h.2.2.1.congr (fun x x0 x1 => by rw [cm _ (by omega), if_neg (by omega)]), hb⟩
  · rw [cm _ (by omega), if_neg (by omega)]; exact h.2.1.1
  · have j1 : j < D.2.1.1 := j1
    have q := h.2.1.2 j j0 j1
    rw [cm (3013 + j) (by omega), cm (3073 + j) (by omega), cm (3133 + j) (by omega), if_neg (show ¬ 3013 + j = 3073 + c by omega), if_neg (show ¬ 3133 + j = 3073 + c by omega)]
    refine ⟨q.1, ?_, q.2.2⟩
    show _ = if j = c then z else D.2.1.2.2.2 j
    by_cases hj : j = c
    · rw [if_pos hj, if_pos (by omega)]
    · rw [if_neg hj, if_neg (by omega)]; exact q.2.1
theorem m_judge_step_true {σ0 : St} {D E : PapD} (hS : Str σ.2.1) (hl2 : D.1.1 2 D.1.2.1 = -1 ∧ D.1.1 3 D.1.2.1 = -1) (h47 : ∀ i, 0 ≤ i → i ≤ D.1.2.1 → D.1.1 4 i ≠ -1 → D.1.1 0 i = 47) {c u n0 : Int} (hc : 0 ≤ c) (hE : RepN (cN σ) E) (hF : FrN σ0 σ) (hW : RowW E.1) (h0 : 0 ≤ u) (hu : u ≤ D.1.2.1) (hu2 : u ≤ E.1.2.1) (hu3 : u < D.1.2.1 → u < E.1.2.1) (hlow : ∀ w i, 0 ≤ i → i ≤ u → E.1.1 w i = D.1.1 w i) :
    ∃ σ', (RepN (cN σ') (jdgF c true E.1 u, E.2) ∧ FrN σ0 σ' ∧ RowW (jdgF c true E.1 u) ∧ -1 ≤ u - 1 ∧ u - 1 ≤ D.1.2.1 ∧ u - 1 ≤ (jdgF c true E.1 u).2.1 ∧ (u - 1 < D.1.2.1 → u - 1 < (jdgF c true E.1 u).2.1) ∧ ∀ w i, 0 ≤ i → i ≤ u - 1 → (jdgF c true E.1 u).1 w i = D.1.1 w i) ∧
      ∀ (b : Nat × Nat) (out : MV × St), (∀ b' v5 v6, Go (fun _ => 0) 2 mX10_judges b' 12 [vA 109, vI c, vI (bI (true = true)), vI n0, vI (u - 1), v5, v6] [] σ' out) → ∀ v5 v6, Go (fun _ => 0) 2 mX10_judges b 12 [vA 109, vI c, vI (bI (true = true)), vI n0, vI u, v5, v6] [] σ out := by
  have hw2 := hW.2.1
  have r1 := m_at1 hS hE.1 (u := u) ⟨h0, hu2, hw2⟩
  have r2 := m_at2 hS hE.1 (u := u) ⟨h0, hu2, hw2⟩
  have r9 := m_at9 hS hE.1 (u := u) ⟨h0, hu2, hw2⟩
  by_cases hw : E.1.1 2 u = c
  · by_cases he : E.1.1 3 u = c
    · by_cases hb : E.1.1 4 u = c
      · skip
        have eJ : jdgS c true E.1 u = setR (setR E.1 5 u (E.1.1 5 u)) 4 u (-1) := if_pos hb
        have h9 : E.1.1 0 u = 47 := by rw [(hlow 0 u h0 (Int.le_refl _))]; exact h47 u h0 (by omega) (by rw [← hlow 4 u h0 (Int.le_refl _)]; omega)
        have r3 := m_at3 hS hE.1 (u := u) ⟨h0, by omega, by omega⟩ h9
        have N1 := rN_set9 (z := -1) (rN_set3 (z := E.1.1 5 u) hE.1 (u := u) ⟨h0, by omega⟩ (by omega)) (u := u) ⟨h0, by show u ≤ E.1.2.1; omega⟩ (by show E.1.2.1 ≤ 200; omega)
        have M1_ : RepN (cN (M1 (M1 σ 110 (10 * u + 3) (E.1.1 5 u)) 110 (10 * u + 9) (-1))) (jdgS c true E.1 u, E.2) := by
          rw [eJ]
          refine RepN.row hE N1 ⟨by show 0 ≤ E.1.2.1; omega, by show E.1.2.1 ≤ 200; omega⟩ (fun x hx => by rw [cN_M1 (by omega) (by omega), if_neg (by omega), cN_M1 (by omega) (by omega), if_neg (by omega)])
        have F1 : FrN σ (M1 (M1 σ 110 (10 * u + 3) (E.1.1 5 u)) 110 (10 * u + 9) (-1)) := FrN.m1.trans FrN.m1
        have Mr : RepNr (cN (M1 (M1 σ 110 (10 * u + 3) (E.1.1 5 u)) 110 (10 * u + 9) (-1))) (jdgS c true E.1 u) := M1_.1
        have j2 : (jdgS c true E.1 u).1 2 u = E.1.1 2 u := jdgS_ne (by omega)
        have j3 : (jdgS c true E.1 u).1 3 u = E.1.1 3 u := jdgS_ne (by omega)
        have jn : (jdgS c true E.1 u).2 = E.1.2 := jdgS_n
        have jn1 : (jdgS c true E.1 u).2.1 = E.1.2.1 := by rw [jn]
        have jw : RowW (jdgS c true E.1 u) := by unfold RowW; rw [jn]; exact hW
        have jlow : ∀ w i, 0 ≤ i → i ≤ u - 1 → (jdgS c true E.1 u).1 w i = D.1.1 w i := fun w i i0 i1 => by rw [jdgS_ne (by omega)]; exact hlow w i i0 (by omega)
        have un : u < D.1.2.1 := by
          rcases Int.lt_or_eq_of_le hu with q | q
          · exact q
          · exfalso; have q2 := hlow 2 u h0 (Int.le_refl _); have q3 := hlow 3 u h0 (Int.le_refl _); rw [q] at q2 q3 hw he; rw [q2, hl2.1] at hw; rw [q3, hl2.2] at he; omega
        obtain ⟨σ2, cl, F2, C2, N2⟩ := m_closes (σ := (M1 (M1 σ 110 (10 * u + 3) (E.1.1 5 u)) 110 (10 * u + 9) (-1))) hS Mr jw (u := u) ⟨h0, by omega⟩
        have eF : jdgF c true E.1 u = drpR (jdgS c true E.1 u) u := if_pos (Or.inr ⟨he, rfl⟩)
        rw [eF]
        refine ⟨σ2, ⟨M1_.row N2 ⟨by show 0 ≤ (jdgS c true E.1 u).2.1 - 1; omega, by show (jdgS c true E.1 u).2.1 - 1 ≤ 200; omega⟩ C2, hF.trans (F1.trans F2), jw.drp ⟨h0, by omega⟩, by omega, by omega, by show u - 1 ≤ (jdgS c true E.1 u).2.1 - 1; omega, fun q => by show u - 1 < (jdgS c true E.1 u).2.1 - 1; omega, fun w i i0 i1 => ?_⟩, fun b out K v5 v6 => ?_⟩
        · show (if i < u then _ else _) = _; rw [if_pos (by omega)]; exact jlow w i i0 i1
        · skip
          refine go_iload (at_of tX10_judges 0 7 rfl) rfl rfl ?_
          refine go_if_lt (tgt := 182) (at_of tX10_judges 0 8 rfl) (by decide) (fun h14 => ?_) (fun h14 => ?_)
          · exfalso; omega
          refine go_aload_n (at_of tX10_judges 0 9 rfl) rfl ?_
          refine go_iload (at_of tX10_judges 0 10 rfl) rfl rfl ?_
          refine go_iconst (at_of tX10_judges 0 11 rfl) (by unfold in32; omega) ?_
          refine go_cV (r1) lk_X10_106 rfl G_109 (at_of tX10_judges 0 12 rfl) rfl (by decide) rfl (Nat.le_of_ble_eq_true rfl) rfl (by first | decide | exact ⟨Nat.zero_le _, Nat.zero_le _⟩) ?_
          refine go_iload_n (at_of tX10_judges 0 13 rfl) rfl ?_
          refine go_icmp_ne (tgt := 32) (at_of tX10_judges 0 14 rfl) (by decide) (fun h25 => ?_) (fun h25 => ?_)
          · exfalso; omega
          refine go_iconst (at_of tX10_judges 0 15 rfl) (by unfold in32; omega) ?_
          refine go_goto (tgt := 33) (at_of tX10_judges 1 0 rfl) (by decide) ?_
          refine go_istore (at_of tX10_judges 1 2 rfl) rfl rfl ?_
          refine go_aload_n (at_of tX10_judges 1 3 rfl) rfl ?_
          refine go_iload (at_of tX10_judges 1 4 rfl) rfl rfl ?_
          refine go_iconst (at_of tX10_judges 1 5 rfl) (by unfold in32; omega) ?_
          refine go_cV (r2) lk_X10_106 rfl G_109 (at_of tX10_judges 1 6 rfl) rfl (by decide) rfl (Nat.le_of_ble_eq_true rfl) rfl (by first | decide | exact ⟨Nat.zero_le _, Nat.zero_le _⟩) ?_
          refine go_iload_n (at_of tX10_judges 1 7 rfl) rfl ?_
          refine go_icmp_ne (tgt := 50) (at_of tX10_judges 1 8 rfl) (by decide) (fun h43 => ?_) (fun h43 => ?_)
          · exfalso; omega
          refine go_iconst (at_of tX10_judges 1 9 rfl) (by unfold in32; omega) ?_
          refine go_goto (tgt := 51) (at_of tX10_judges 1 10 rfl) (by decide) ?_
          refine go_istore (at_of tX10_judges 1 12 rfl) rfl rfl ?_
          refine go_aload_n (at_of tX10_judges 1 13 rfl) rfl ?_
          refine go_iload (at_of tX10_judges 1 14 rfl) rfl rfl ?_
          refine go_bipush (at_of tX10_judges 1 15 rfl) (by decide) ?_
          refine go_cV (r9) lk_X10_106 rfl G_109 (at_of tX10_judges 2 0 rfl) rfl (by decide) rfl (Nat.le_of_ble_eq_true rfl) rfl (by first | decide | exact ⟨Nat.zero_le _, Nat.zero_le _⟩) ?_
          refine go_iload_n (at_of tX10_judges 2 1 rfl) rfl ?_
          refine go_icmp_ne (tgt := 103) (at_of tX10_judges 2 2 rfl) (by decide) (fun h62 => ?_) (fun h62 => ?_)
          · exfalso; omega
          refine go_aload_n (at_of tX10_judges 2 3 rfl) rfl ?_
          refine go_iload (at_of tX10_judges 2 4 rfl) rfl rfl ?_
          refine go_iconst (at_of tX10_judges 2 5 rfl) (by unfold in32; omega) ?_
          refine go_iload_n (at_of tX10_judges 2 6 rfl) rfl ?_
          refine go_if_eq (tgt := 83) (at_of tX10_judges 2 7 rfl) (by decide) (fun h70 => ?_) (fun h70 => ?_)
          · exfalso; exact absurd h70 (by decide)
          refine go_aload_n (at_of tX10_judges 2 8 rfl) rfl ?_
          refine go_iload (at_of tX10_judges 2 9 rfl) rfl rfl ?_
          refine go_iconst (at_of tX10_judges 2 10 rfl) (by unfold in32; omega) ?_
          refine go_cV (r3) lk_X10_106 rfl G_109 (at_of tX10_judges 2 11 rfl) rfl (by decide) rfl (Nat.le_of_ble_eq_true rfl) rfl (by first | decide | exact ⟨Nat.zero_le _, Nat.zero_le _⟩) ?_
          refine go_goto (tgt := 91) (at_of tX10_judges 2 12 rfl) (by decide) ?_
          refine go_cV (m_setAt hS (by omega)) lk_X10_99 rfl G_109 (at_of tX10_judges 3 1 rfl) rfl (by decide) rfl (Nat.le_of_ble_eq_true rfl) rfl (by first | decide | exact ⟨Nat.zero_le _, Nat.zero_le _⟩) ?_
          refine go_aload_n (at_of tX10_judges 3 2 rfl) rfl ?_
          refine go_iload (at_of tX10_judges 3 3 rfl) rfl rfl ?_
          refine go_bipush (at_of tX10_judges 3 4 rfl) (by decide) ?_
          refine go_iconst (at_of tX10_judges 3 5 rfl) (by unfold in32; omega) ?_
          refine go_cV (m_setAt (by exact hS) (by omega)) lk_X10_99 rfl G_109 (at_of tX10_judges 3 6 rfl) rfl (by decide) rfl (Nat.le_of_ble_eq_true rfl) rfl (by first | decide | exact ⟨Nat.zero_le _, Nat.zero_le _⟩) ?_
          refine go_iload (at_of tX10_judges 3 7 rfl) rfl rfl ?_
          refine go_if_eq (tgt := 112) (at_of tX10_judges 3 8 rfl) (by decide) (fun h105 => ?_) (fun h105 => ?_)
          · exfalso; omega
          refine go_iload_n (at_of tX10_judges 3 9 rfl) rfl ?_
          refine go_if_eq (tgt := 121) (at_of tX10_judges 3 10 rfl) (by decide) (fun h109 => ?_) (fun h109 => ?_)
          · exfalso; exact absurd h109 (by decide)
          refine go_iload (at_of tX10_judges 3 11 rfl) rfl rfl ?_
          refine go_if_eq (tgt := 130) (at_of tX10_judges 3 12 rfl) (by decide) (fun h114 => ?_) (fun h114 => ?_)
          · exfalso; omega
          refine go_iload_n (at_of tX10_judges 3 13 rfl) rfl ?_
          refine go_if_eq (tgt := 130) (at_of tX10_judges 3 14 rfl) (by decide) (fun h118 => ?_) (fun h118 => ?_)
          · exfalso; exact absurd h118 (by decide)
          refine go_aload_n (at_of tX10_judges 3 15 rfl) rfl ?_
          refine go_iload (at_of tX10_judges 4 0 rfl) rfl rfl ?_
          refine go_cV (cl) lk_X10_200 rfl G_109 (at_of tX10_judges 4 1 rfl) rfl (by decide) rfl (Nat.le_of_ble_eq_true rfl) rfl (by first | decide | exact ⟨Nat.zero_le _, Nat.zero_le _⟩) ?_
          refine go_goto (tgt := 176) (at_of tX10_judges 4 2 rfl) (by decide) ?_
          refine go_iinc (at_of tX10_judges 5 11 rfl) rfl (by unfold in32; omega) rfl rfl ?_
          refine go_goto (tgt := 12) (at_of tX10_judges 5 12 rfl) (by decide) ?_
          exact K _ _ _
      · skip
        have eJ : jdgS c true E.1 u = E.1 := if_neg hb
        have M1_ : RepN (cN σ) (jdgS c true E.1 u, E.2) := by rw [eJ]; exact hE
        have F1 : FrN σ σ := FrN.refl
        have Mr : RepNr (cN σ) (jdgS c true E.1 u) := M1_.1
        have j2 : (jdgS c true E.1 u).1 2 u = E.1.1 2 u := jdgS_ne (by omega)
        have j3 : (jdgS c true E.1 u).1 3 u = E.1.1 3 u := jdgS_ne (by omega)
        have jn : (jdgS c true E.1 u).2 = E.1.2 := jdgS_n
        have jn1 : (jdgS c true E.1 u).2.1 = E.1.2.1 := by rw [jn]
        have jw : RowW (jdgS c true E.1 u) := by unfold RowW; rw [jn]; exact hW
        have jlow : ∀ w i, 0 ≤ i → i ≤ u - 1 → (jdgS c true E.1 u).1 w i = D.1.1 w i := fun w i i0 i1 => by rw [jdgS_ne (by omega)]; exact hlow w i i0 (by omega)
        have un : u < D.1.2.1 := by
          rcases Int.lt_or_eq_of_le hu with q | q
          · exact q
          · exfalso; have q2 := hlow 2 u h0 (Int.le_refl _); have q3 := hlow 3 u h0 (Int.le_refl _); rw [q] at q2 q3 hw he; rw [q2, hl2.1] at hw; rw [q3, hl2.2] at he; omega
        obtain ⟨σ2, cl, F2, C2, N2⟩ := m_closes (σ := σ) hS Mr jw (u := u) ⟨h0, by omega⟩
        have eF : jdgF c true E.1 u = drpR (jdgS c true E.1 u) u := if_pos (Or.inr ⟨he, rfl⟩)
        rw [eF]
        refine ⟨σ2, ⟨M1_.row N2 ⟨by show 0 ≤ (jdgS c true E.1 u).2.1 - 1; omega, by show (jdgS c true E.1 u).2.1 - 1 ≤ 200; omega⟩ C2, hF.trans (F1.trans F2), jw.drp ⟨h0, by omega⟩, by omega, by omega, by show u - 1 ≤ (jdgS c true E.1 u).2.1 - 1; omega, fun q => by show u - 1 < (jdgS c true E.1 u).2.1 - 1; omega, fun w i i0 i1 => ?_⟩, fun b out K v5 v6 => ?_⟩
        · show (if i < u then _ else _) = _; rw [if_pos (by omega)]; exact jlow w i i0 i1
        · skip
          refine go_iload (at_of tX10_judges 0 7 rfl) rfl rfl ?_
          refine go_if_lt (tgt := 182) (at_of tX10_judges 0 8 rfl) (by decide) (fun h14 => ?_) (fun h14 => ?_)
          · exfalso; omega
          refine go_aload_n (at_of tX10_judges 0 9 rfl) rfl ?_
          refine go_iload (at_of tX10_judges 0 10 rfl) rfl rfl ?_
          refine go_iconst (at_of tX10_judges 0 11 rfl) (by unfold in32; omega) ?_
          refine go_cV (r1) lk_X10_106 rfl G_109 (at_of tX10_judges 0 12 rfl) rfl (by decide) rfl (Nat.le_of_ble_eq_true rfl) rfl (by first | decide | exact ⟨Nat.zero_le _, Nat.zero_le _⟩) ?_
          refine go_iload_n (at_of tX10_judges 0 13 rfl) rfl ?_
          refine go_icmp_ne (tgt := 32) (at_of tX10_judges 0 14 rfl) (by decide) (fun h25 => ?_) (fun h25 => ?_)
          · exfalso; omega
          refine go_iconst (at_of tX10_judges 0 15 rfl) (by unfold in32; omega) ?_
          refine go_goto (tgt := 33) (at_of tX10_judges 1 0 rfl) (by decide) ?_
          refine go_istore (at_of tX10_judges 1 2 rfl) rfl rfl ?_
          refine go_aload_n (at_of tX10_judges 1 3 rfl) rfl ?_
          refine go_iload (at_of tX10_judges 1 4 rfl) rfl rfl ?_
          refine go_iconst (at_of tX10_judges 1 5 rfl) (by unfold in32; omega) ?_
          refine go_cV (r2) lk_X10_106 rfl G_109 (at_of tX10_judges 1 6 rfl) rfl (by decide) rfl (Nat.le_of_ble_eq_true rfl) rfl (by first | decide | exact ⟨Nat.zero_le _, Nat.zero_le _⟩) ?_
          refine go_iload_n (at_of tX10_judges 1 7 rfl) rfl ?_
          refine go_icmp_ne (tgt := 50) (at_of tX10_judges 1 8 rfl) (by decide) (fun h43 => ?_) (fun h43 => ?_)
          · exfalso; omega
          refine go_iconst (at_of tX10_judges 1 9 rfl) (by unfold in32; omega) ?_
          refine go_goto (tgt := 51) (at_of tX10_judges 1 10 rfl) (by decide) ?_
          refine go_istore (at_of tX10_judges 1 12 rfl) rfl rfl ?_
          refine go_aload_n (at_of tX10_judges 1 13 rfl) rfl ?_
          refine go_iload (at_of tX10_judges 1 14 rfl) rfl rfl ?_
          refine go_bipush (at_of tX10_judges 1 15 rfl) (by decide) ?_
          refine go_cV (r9) lk_X10_106 rfl G_109 (at_of tX10_judges 2 0 rfl) rfl (by decide) rfl (Nat.le_of_ble_eq_true rfl) rfl (by first | decide | exact ⟨Nat.zero_le _, Nat.zero_le _⟩) ?_
          refine go_iload_n (at_of tX10_judges 2 1 rfl) rfl ?_
          refine go_icmp_ne (tgt := 103) (at_of tX10_judges 2 2 rfl) (by decide) (fun h62 => ?_) (fun h62 => ?_)
          rotate_left
          · exfalso; omega
          refine go_iload (at_of tX10_judges 3 7 rfl) rfl rfl ?_
          refine go_if_eq (tgt := 112) (at_of tX10_judges 3 8 rfl) (by decide) (fun h105 => ?_) (fun h105 => ?_)
          · exfalso; omega
          refine go_iload_n (at_of tX10_judges 3 9 rfl) rfl ?_
          refine go_if_eq (tgt := 121) (at_of tX10_judges 3 10 rfl) (by decide) (fun h109 => ?_) (fun h109 => ?_)
          · exfalso; exact absurd h109 (by decide)
          refine go_iload (at_of tX10_judges 3 11 rfl) rfl rfl ?_
          refine go_if_eq (tgt := 130) (at_of tX10_judges 3 12 rfl) (by decide) (fun h114 => ?_) (fun h114 => ?_)
          · exfalso; omega
          refine go_iload_n (at_of tX10_judges 3 13 rfl) rfl ?_
          refine go_if_eq (tgt := 130) (at_of tX10_judges 3 14 rfl) (by decide) (fun h118 => ?_) (fun h118 => ?_)
          · exfalso; exact absurd h118 (by decide)
          refine go_aload_n (at_of tX10_judges 3 15 rfl) rfl ?_
          refine go_iload (at_of tX10_judges 4 0 rfl) rfl rfl ?_
          refine go_cV (cl) lk_X10_200 rfl G_109 (at_of tX10_judges 4 1 rfl) rfl (by decide) rfl (Nat.le_of_ble_eq_true rfl) rfl (by first | decide | exact ⟨Nat.zero_le _, Nat.zero_le _⟩) ?_
          refine go_goto (tgt := 176) (at_of tX10_judges 4 2 rfl) (by decide) ?_
          refine go_iinc (at_of tX10_judges 5 11 rfl) rfl (by unfold in32; omega) rfl rfl ?_
          refine go_goto (tgt := 12) (at_of tX10_judges 5 12 rfl) (by decide) ?_
          exact K _ _ _
    · by_cases hb : E.1.1 4 u = c
      · skip
        have eJ : jdgS c true E.1 u = setR (setR E.1 5 u (E.1.1 5 u)) 4 u (-1) := if_pos hb
        have h9 : E.1.1 0 u = 47 := by rw [(hlow 0 u h0 (Int.le_refl _))]; exact h47 u h0 (by omega) (by rw [← hlow 4 u h0 (Int.le_refl _)]; omega)
        have r3 := m_at3 hS hE.1 (u := u) ⟨h0, by omega, by omega⟩ h9
        have N1 := rN_set9 (z := -1) (rN_set3 (z := E.1.1 5 u) hE.1 (u := u) ⟨h0, by omega⟩ (by omega)) (u := u) ⟨h0, by show u ≤ E.1.2.1; omega⟩ (by show E.1.2.1 ≤ 200; omega)
        have M1_ : RepN (cN (M1 (M1 σ 110 (10 * u + 3) (E.1.1 5 u)) 110 (10 * u + 9) (-1))) (jdgS c true E.1 u, E.2) := by
          rw [eJ]
          refine RepN.row hE N1 ⟨by show 0 ≤ E.1.2.1; omega, by show E.1.2.1 ≤ 200; omega⟩ (fun x hx => by rw [cN_M1 (by omega) (by omega), if_neg (by omega), cN_M1 (by omega) (by omega), if_neg (by omega)])
        have F1 : FrN σ (M1 (M1 σ 110 (10 * u + 3) (E.1.1 5 u)) 110 (10 * u + 9) (-1)) := FrN.m1.trans FrN.m1
        have Mr : RepNr (cN (M1 (M1 σ 110 (10 * u + 3) (E.1.1 5 u)) 110 (10 * u + 9) (-1))) (jdgS c true E.1 u) := M1_.1
        have j2 : (jdgS c true E.1 u).1 2 u = E.1.1 2 u := jdgS_ne (by omega)
        have j3 : (jdgS c true E.1 u).1 3 u = E.1.1 3 u := jdgS_ne (by omega)
        have jn : (jdgS c true E.1 u).2 = E.1.2 := jdgS_n
        have jn1 : (jdgS c true E.1 u).2.1 = E.1.2.1 := by rw [jn]
        have jw : RowW (jdgS c true E.1 u) := by unfold RowW; rw [jn]; exact hW
        have jlow : ∀ w i, 0 ≤ i → i ≤ u - 1 → (jdgS c true E.1 u).1 w i = D.1.1 w i := fun w i i0 i1 => by rw [jdgS_ne (by omega)]; exact hlow w i i0 (by omega)
        have s2 := m_setAt (σ := (M1 (M1 σ 110 (10 * u + 3) (E.1.1 5 u)) 110 (10 * u + 9) (-1))) hS (u := u) (p := 1) (z := (-1)) (by omega)
        have s3 := m_setAt (σ := (M1 (M1 (M1 σ 110 (10 * u + 3) (E.1.1 5 u)) 110 (10 * u + 9) (-1)) 110 (10 * u + 1) (-1))) hS (u := u) (p := 2) (z := (E.1.1 3 u)) (by omega)
        have N2 := rN_set1 (z := (-1)) Mr (u := u) ⟨h0, by omega⟩ (by omega)
        have N3 := rN_set2 (z := (E.1.1 3 u)) N2 (u := u) ⟨h0, by show u ≤ (jdgS c true E.1 u).2.1; omega⟩ (by show (jdgS c true E.1 u).2.1 ≤ 200; omega)
        have r2b := m_at2 (σ := (M1 (M1 (M1 σ 110 (10 * u + 3) (E.1.1 5 u)) 110 (10 * u + 9) (-1)) 110 (10 * u + 1) (-1))) hS N2 (u := u) ⟨h0, by show u ≤ (jdgS c true E.1 u).2.1; omega, by show (jdgS c true E.1 u).2.1 ≤ 200; omega⟩
        rw [setR_ne (by omega), j3] at r2b
        have eF : jdgF c true E.1 u = setR (setR (jdgS c true E.1 u) 2 u (-1)) 3 u (E.1.1 3 u) := by
          unfold jdgF
          rw [if_neg (fun q => by rcases q with q | q; exact absurd q.2 (by decide); exact he q.1), if_pos hw, if_neg he]
        rw [eF]
        refine ⟨(M1 (M1 (M1 (M1 σ 110 (10 * u + 3) (E.1.1 5 u)) 110 (10 * u + 9) (-1)) 110 (10 * u + 1) (-1)) 110 (10 * u + 2) (E.1.1 3 u)), ⟨M1_.row N3 ⟨by show 0 ≤ (jdgS c true E.1 u).2.1; omega, by show (jdgS c true E.1 u).2.1 ≤ 200; omega⟩ (fun x hx => by rw [cN_M1 (by omega) (by omega), if_neg (by omega), cN_M1 (by omega) (by omega), if_neg (by omega)]), hF.trans (F1.trans (FrN.m1.trans FrN.m1)), jw, by omega, by omega, by show u - 1 ≤ (jdgS c true E.1 u).2.1; omega, fun q => by show u - 1 < (jdgS c true E.1 u).2.1; omega, fun w i i0 i1 => ?_⟩, fun b out K v5 v6 => ?_⟩
        · rw [setR_ne (by omega), setR_ne (by omega)]; exact jlow w i i0 i1
        · skip
          refine go_iload (at_of tX10_judges 0 7 rfl) rfl rfl ?_
          refine go_if_lt (tgt := 182) (at_of tX10_judges 0 8 rfl) (by decide) (fun h14 => ?_) (fun h14 => ?_)
          · exfalso; omega
          refine go_aload_n (at_of tX10_judges 0 9 rfl) rfl ?_
          refine go_iload (at_of tX10_judges 0 10 rfl) rfl rfl ?_
          refine go_iconst (at_of tX10_judges 0 11 rfl) (by unfold in32; omega) ?_
          refine go_cV (r1) lk_X10_106 rfl G_109 (at_of tX10_judges 0 12 rfl) rfl (by decide) rfl (Nat.le_of_ble_eq_true rfl) rfl (by first | decide | exact ⟨Nat.zero_le _, Nat.zero_le _⟩) ?_
          refine go_iload_n (at_of tX10_judges 0 13 rfl) rfl ?_
          refine go_icmp_ne (tgt := 32) (at_of tX10_judges 0 14 rfl) (by decide) (fun h25 => ?_) (fun h25 => ?_)
          · exfalso; omega
          refine go_iconst (at_of tX10_judges 0 15 rfl) (by unfold in32; omega) ?_
          refine go_goto (tgt := 33) (at_of tX10_judges 1 0 rfl) (by decide) ?_
          refine go_istore (at_of tX10_judges 1 2 rfl) rfl rfl ?_
          refine go_aload_n (at_of tX10_judges 1 3 rfl) rfl ?_
          refine go_iload (at_of tX10_judges 1 4 rfl) rfl rfl ?_
          refine go_iconst (at_of tX10_judges 1 5 rfl) (by unfold in32; omega) ?_
          refine go_cV (r2) lk_X10_106 rfl G_109 (at_of tX10_judges 1 6 rfl) rfl (by decide) rfl (Nat.le_of_ble_eq_true rfl) rfl (by first | decide | exact ⟨Nat.zero_le _, Nat.zero_le _⟩) ?_
          refine go_iload_n (at_of tX10_judges 1 7 rfl) rfl ?_
          refine go_icmp_ne (tgt := 50) (at_of tX10_judges 1 8 rfl) (by decide) (fun h43 => ?_) (fun h43 => ?_)
          rotate_left
          · exfalso; omega
          refine go_iconst (at_of tX10_judges 1 11 rfl) (by unfold in32; omega) ?_
          refine go_istore (at_of tX10_judges 1 12 rfl) rfl rfl ?_
          refine go_aload_n (at_of tX10_judges 1 13 rfl) rfl ?_
          refine go_iload (at_of tX10_judges 1 14 rfl) rfl rfl ?_
          refine go_bipush (at_of tX10_judges 1 15 rfl) (by decide) ?_
          refine go_cV (r9) lk_X10_106 rfl G_109 (at_of tX10_judges 2 0 rfl) rfl (by decide) rfl (Nat.le_of_ble_eq_true rfl) rfl (by first | decide | exact ⟨Nat.zero_le _, Nat.zero_le _⟩) ?_
          refine go_iload_n (at_of tX10_judges 2 1 rfl) rfl ?_
          refine go_icmp_ne (tgt := 103) (at_of tX10_judges 2 2 rfl) (by decide) (fun h62 => ?_) (fun h62 => ?_)
          · exfalso; omega
          refine go_aload_n (at_of tX10_judges 2 3 rfl) rfl ?_
          refine go_iload (at_of tX10_judges 2 4 rfl) rfl rfl ?_
          refine go_iconst (at_of tX10_judges 2 5 rfl) (by unfold in32; omega) ?_
          refine go_iload_n (at_of tX10_judges 2 6 rfl) rfl ?_
          refine go_if_eq (tgt := 83) (at_of tX10_judges 2 7 rfl) (by decide) (fun h70 => ?_) (fun h70 => ?_)
          · exfalso; exact absurd h70 (by decide)
          refine go_aload_n (at_of tX10_judges 2 8 rfl) rfl ?_
          refine go_iload (at_of tX10_judges 2 9 rfl) rfl rfl ?_
          refine go_iconst (at_of tX10_judges 2 10 rfl) (by unfold in32; omega) ?_
          refine go_cV (r3) lk_X10_106 rfl G_109 (at_of tX10_judges 2 11 rfl) rfl (by decide) rfl (Nat.le_of_ble_eq_true rfl) rfl (by first | decide | exact ⟨Nat.zero_le _, Nat.zero_le _⟩) ?_
          refine go_goto (tgt := 91) (at_of tX10_judges 2 12 rfl) (by decide) ?_
          refine go_cV (m_setAt hS (by omega)) lk_X10_99 rfl G_109 (at_of tX10_judges 3 1 rfl) rfl (by decide) rfl (Nat.le_of_ble_eq_true rfl) rfl (by first | decide | exact ⟨Nat.zero_le _, Nat.zero_le _⟩) ?_
          refine go_aload_n (at_of tX10_judges 3 2 rfl) rfl ?_
          refine go_iload (at_of tX10_judges 3 3 rfl) rfl rfl ?_
          refine go_bipush (at_of tX10_judges 3 4 rfl) (by decide) ?_
          refine go_iconst (at_of tX10_judges 3 5 rfl) (by unfold in32; omega) ?_
          refine go_cV (m_setAt (by exact hS) (by omega)) lk_X10_99 rfl G_109 (at_of tX10_judges 3 6 rfl) rfl (by decide) rfl (Nat.le_of_ble_eq_true rfl) rfl (by first | decide | exact ⟨Nat.zero_le _, Nat.zero_le _⟩) ?_
          refine go_iload (at_of tX10_judges 3 7 rfl) rfl rfl ?_
          refine go_if_eq (tgt := 112) (at_of tX10_judges 3 8 rfl) (by decide) (fun h105 => ?_) (fun h105 => ?_)
          · exfalso; omega
          refine go_iload_n (at_of tX10_judges 3 9 rfl) rfl ?_
          refine go_if_eq (tgt := 121) (at_of tX10_judges 3 10 rfl) (by decide) (fun h109 => ?_) (fun h109 => ?_)
          · exfalso; exact absurd h109 (by decide)
          refine go_iload (at_of tX10_judges 3 11 rfl) rfl rfl ?_
          refine go_if_eq (tgt := 130) (at_of tX10_judges 3 12 rfl) (by decide) (fun h114 => ?_) (fun h114 => ?_)
          rotate_left
          · exfalso; omega
          refine go_aload_n (at_of tX10_judges 4 3 rfl) rfl ?_
          refine go_iload (at_of tX10_judges 4 4 rfl) rfl rfl ?_
          refine go_iconst (at_of tX10_judges 4 5 rfl) (by unfold in32; omega) ?_
          refine go_iload (at_of tX10_judges 4 6 rfl) rfl rfl ?_
          refine go_if_eq (tgt := 143) (at_of tX10_judges 4 7 rfl) (by decide) (fun h136 => ?_) (fun h136 => ?_)
          · exfalso; omega
          refine go_iconst (at_of tX10_judges 4 8 rfl) (by unfold in32; omega) ?_
          refine go_goto (tgt := 150) (at_of tX10_judges 4 9 rfl) (by decide) ?_
          refine go_cV (s2) lk_X10_99 rfl G_109 (at_of tX10_judges 4 14 rfl) rfl (by decide) rfl (Nat.le_of_ble_eq_true rfl) rfl (by first | decide | exact ⟨Nat.zero_le _, Nat.zero_le _⟩) ?_
          refine go_aload_n (at_of tX10_judges 4 15 rfl) rfl ?_
          refine go_iload (at_of tX10_judges 5 0 rfl) rfl rfl ?_
          refine go_iconst (at_of tX10_judges 5 1 rfl) (by unfold in32; omega) ?_
          refine go_iload (at_of tX10_judges 5 2 rfl) rfl rfl ?_
          refine go_if_eq (tgt := 166) (at_of tX10_judges 5 3 rfl) (by decide) (fun h159 => ?_) (fun h159 => ?_)
          rotate_left
          · exfalso; omega
          refine go_aload_n (at_of tX10_judges 5 6 rfl) rfl ?_
          refine go_iload (at_of tX10_judges 5 7 rfl) rfl rfl ?_
          refine go_iconst (at_of tX10_judges 5 8 rfl) (by unfold in32; omega) ?_
          refine go_cV (r2b) lk_X10_106 rfl G_109 (at_of tX10_judges 5 9 rfl) rfl (by decide) rfl (Nat.le_of_ble_eq_true rfl) rfl (by first | decide | exact ⟨Nat.zero_le _, Nat.zero_le _⟩) ?_
          refine go_cV (s3) lk_X10_99 rfl G_109 (at_of tX10_judges 5 10 rfl) rfl (by decide) rfl (Nat.le_of_ble_eq_true rfl) rfl (by first | decide | exact ⟨Nat.zero_le _, Nat.zero_le _⟩) ?_
          refine go_iinc (at_of tX10_judges 5 11 rfl) rfl (by unfold in32; omega) rfl rfl ?_
          refine go_goto (tgt := 12) (at_of tX10_judges 5 12 rfl) (by decide) ?_
          exact K _ _ _
      · skip
        have eJ : jdgS c true E.1 u = E.1 := if_neg hb
        have M1_ : RepN (cN σ) (jdgS c true E.1 u, E.2) := by rw [eJ]; exact hE
        have F1 : FrN σ σ := FrN.refl
        have Mr : RepNr (cN σ) (jdgS c true E.1 u) := M1_.1
        have j2 : (jdgS c true E.1 u).1 2 u = E.1.1 2 u := jdgS_ne (by omega)
        have j3 : (jdgS c true E.1 u).1 3 u = E.1.1 3 u := jdgS_ne (by omega)
        have jn : (jdgS c true E.1 u).2 = E.1.2 := jdgS_n
        have jn1 : (jdgS c true E.1 u).2.1 = E.1.2.1 := by rw [jn]
        have jw : RowW (jdgS c true E.1 u) := by unfold RowW; rw [jn]; exact hW
        have jlow : ∀ w i, 0 ≤ i → i ≤ u - 1 → (jdgS c true E.1 u).1 w i = D.1.1 w i := fun w i i0 i1 => by rw [jdgS_ne (by omega)]; exact hlow w i i0 (by omega)
        have s2 := m_setAt (σ := σ) hS (u := u) (p := 1) (z := (-1)) (by omega)
        have s3 := m_setAt (σ := (M1 σ 110 (10 * u + 1) (-1))) hS (u := u) (p := 2) (z := (E.1.1 3 u)) (by omega)
        have N2 := rN_set1 (z := (-1)) Mr (u := u) ⟨h0, by omega⟩ (by omega)
        have N3 := rN_set2 (z := (E.1.1 3 u)) N2 (u := u) ⟨h0, by show u ≤ (jdgS c true E.1 u).2.1; omega⟩ (by show (jdgS c true E.1 u).2.1 ≤ 200; omega)
        have r2b := m_at2 (σ := (M1 σ 110 (10 * u + 1) (-1))) hS N2 (u := u) ⟨h0, by show u ≤ (jdgS c true E.1 u).2.1; omega, by show (jdgS c true E.1 u).2.1 ≤ 200; omega⟩
        rw [setR_ne (by omega), j3] at r2b
        have eF : jdgF c true E.1 u = setR (setR (jdgS c true E.1 u) 2 u (-1)) 3 u (E.1.1 3 u) := by
          unfold jdgF
          rw [if_neg (fun q => by rcases q with q | q; exact absurd q.2 (by decide); exact he q.1), if_pos hw, if_neg he]
        rw [eF]
        refine ⟨(M1 (M1 σ 110 (10 * u + 1) (-1)) 110 (10 * u + 2) (E.1.1 3 u)), ⟨M1_.row N3 ⟨by show 0 ≤ (jdgS c true E.1 u).2.1; omega, by show (jdgS c true E.1 u).2.1 ≤ 200; omega⟩ (fun x hx => by rw [cN_M1 (by omega) (by omega), if_neg (by omega), cN_M1 (by omega) (by omega), if_neg (by omega)]), hF.trans (F1.trans (FrN.m1.trans FrN.m1)), jw, by omega, by omega, by show u - 1 ≤ (jdgS c true E.1 u).2.1; omega, fun q => by show u - 1 < (jdgS c true E.1 u).2.1; omega, fun w i i0 i1 => ?_⟩, fun b out K v5 v6 => ?_⟩
        · rw [setR_ne (by omega), setR_ne (by omega)]; exact jlow w i i0 i1
        · skip
          refine go_iload (at_of tX10_judges 0 7 rfl) rfl rfl ?_
          refine go_if_lt (tgt := 182) (at_of tX10_judges 0 8 rfl) (by decide) (fun h14 => ?_) (fun h14 => ?_)
          · exfalso; omega
          refine go_aload_n (at_of tX10_judges 0 9 rfl) rfl ?_
          refine go_iload (at_of tX10_judges 0 10 rfl) rfl rfl ?_
          refine go_iconst (at_of tX10_judges 0 11 rfl) (by unfold in32; omega) ?_
          refine go_cV (r1) lk_X10_106 rfl G_109 (at_of tX10_judges 0 12 rfl) rfl (by decide) rfl (Nat.le_of_ble_eq_true rfl) rfl (by first | decide | exact ⟨Nat.zero_le _, Nat.zero_le _⟩) ?_
          refine go_iload_n (at_of tX10_judges 0 13 rfl) rfl ?_
          refine go_icmp_ne (tgt := 32) (at_of tX10_judges 0 14 rfl) (by decide) (fun h25 => ?_) (fun h25 => ?_)
          · exfalso; omega
          refine go_iconst (at_of tX10_judges 0 15 rfl) (by unfold in32; omega) ?_
          refine go_goto (tgt := 33) (at_of tX10_judges 1 0 rfl) (by decide) ?_
          refine go_istore (at_of tX10_judges 1 2 rfl) rfl rfl ?_
          refine go_aload_n (at_of tX10_judges 1 3 rfl) rfl ?_
          refine go_iload (at_of tX10_judges 1 4 rfl) rfl rfl ?_
          refine go_iconst (at_of tX10_judges 1 5 rfl) (by unfold in32; omega) ?_
          refine go_cV (r2) lk_X10_106 rfl G_109 (at_of tX10_judges 1 6 rfl) rfl (by decide) rfl (Nat.le_of_ble_eq_true rfl) rfl (by first | decide | exact ⟨Nat.zero_le _, Nat.zero_le _⟩) ?_
          refine go_iload_n (at_of tX10_judges 1 7 rfl) rfl ?_
          refine go_icmp_ne (tgt := 50) (at_of tX10_judges 1 8 rfl) (by decide) (fun h43 => ?_) (fun h43 => ?_)
          rotate_left
          · exfalso; omega
          refine go_iconst (at_of tX10_judges 1 11 rfl) (by unfold in32; omega) ?_
          refine go_istore (at_of tX10_judges 1 12 rfl) rfl rfl ?_
          refine go_aload_n (at_of tX10_judges 1 13 rfl) rfl ?_
          refine go_iload (at_of tX10_judges 1 14 rfl) rfl rfl ?_
          refine go_bipush (at_of tX10_judges 1 15 rfl) (by decide) ?_
          refine go_cV (r9) lk_X10_106 rfl G_109 (at_of tX10_judges 2 0 rfl) rfl (by decide) rfl (Nat.le_of_ble_eq_true rfl) rfl (by first | decide | exact ⟨Nat.zero_le _, Nat.zero_le _⟩) ?_
          refine go_iload_n (at_of tX10_judges 2 1 rfl) rfl ?_
          refine go_icmp_ne (tgt := 103) (at_of tX10_judges 2 2 rfl) (by decide) (fun h62 => ?_) (fun h62 => ?_)
          rotate_left
          · exfalso; omega
          refine go_iload (at_of tX10_judges 3 7 rfl) rfl rfl ?_
          refine go_if_eq (tgt := 112) (at_of tX10_judges 3 8 rfl) (by decide) (fun h105 => ?_) (fun h105 => ?_)
          · exfalso; omega
          refine go_iload_n (at_of tX10_judges 3 9 rfl) rfl ?_
          refine go_if_eq (tgt := 121) (at_of tX10_judges 3 10 rfl) (by decide) (fun h109 => ?_) (fun h109 => ?_)
          · exfalso; exact absurd h109 (by decide)
          refine go_iload (at_of tX10_judges 3 11 rfl) rfl rfl ?_
          refine go_if_eq (tgt := 130) (at_of tX10_judges 3 12 rfl) (by decide) (fun h114 => ?_) (fun h114 => ?_)
          rotate_left
          · exfalso; omega
          refine go_aload_n (at_of tX10_judges 4 3 rfl) rfl ?_
          refine go_iload (at_of tX10_judges 4 4 rfl) rfl rfl ?_
          refine go_iconst (at_of tX10_judges 4 5 rfl) (by unfold in32; omega) ?_
          refine go_iload (at_of tX10_judges 4 6 rfl) rfl rfl ?_
          refine go_if_eq (tgt := 143) (at_of tX10_judges 4 7 rfl) (by decide) (fun h136 => ?_) (fun h136 => ?_)
          · exfalso; omega
          refine go_iconst (at_of tX10_judges 4 8 rfl) (by unfold in32; omega) ?_
          refine go_goto (tgt := 150) (at_of tX10_judges 4 9 rfl) (by decide) ?_
          refine go_cV (s2) lk_X10_99 rfl G_109 (at_of tX10_judges 4 14 rfl) rfl (by decide) rfl (Nat.le_of_ble_eq_true rfl) rfl (by first | decide | exact ⟨Nat.zero_le _, Nat.zero_le _⟩) ?_
          refine go_aload_n (at_of tX10_judges 4 15 rfl) rfl ?_
          refine go_iload (at_of tX10_judges 5 0 rfl) rfl rfl ?_
          refine go_iconst (at_of tX10_judges 5 1 rfl) (by unfold in32; omega) ?_
          refine go_iload (at_of tX10_judges 5 2 rfl) rfl rfl ?_
          refine go_if_eq (tgt := 166) (at_of tX10_judges 5 3 rfl) (by decide) (fun h159 => ?_) (fun h159 => ?_)
          rotate_left
          · exfalso; omega
          refine go_aload_n (at_of tX10_judges 5 6 rfl) rfl ?_
          refine go_iload (at_of tX10_judges 5 7 rfl) rfl rfl ?_
          refine go_iconst (at_of tX10_judges 5 8 rfl) (by unfold in32; omega) ?_
          refine go_cV (r2b) lk_X10_106 rfl G_109 (at_of tX10_judges 5 9 rfl) rfl (by decide) rfl (Nat.le_of_ble_eq_true rfl) rfl (by first | decide | exact ⟨Nat.zero_le _, Nat.zero_le _⟩) ?_
          refine go_cV (s3) lk_X10_99 rfl G_109 (at_of tX10_judges 5 10 rfl) rfl (by decide) rfl (Nat.le_of_ble_eq_true rfl) rfl (by first | decide | exact ⟨Nat.zero_le _, Nat.zero_le _⟩) ?_
          refine go_iinc (at_of tX10_judges 5 11 rfl) rfl (by unfold in32; omega) rfl rfl ?_
          refine go_goto (tgt := 12) (at_of tX10_judges 5 12 rfl) (by decide) ?_
          exact K _ _ _
  · by_cases he : E.1.1 3 u = c
    · by_cases hb : E.1.1 4 u = c
      · skip
        have eJ : jdgS c true E.1 u = setR (setR E.1 5 u (E.1.1 5 u)) 4 u (-1) := if_pos hb
        have h9 : E.1.1 0 u = 47 := by rw [(hlow 0 u h0 (Int.le_refl _))]; exact h47 u h0 (by omega) (by rw [← hlow 4 u h0 (Int.le_refl _)]; omega)
        have r3 := m_at3 hS hE.1 (u := u) ⟨h0, by omega, by omega⟩ h9
        have N1 := rN_set9 (z := -1) (rN_set3 (z := E.1.1 5 u) hE.1 (u := u) ⟨h0, by omega⟩ (by omega)) (u := u) ⟨h0, by show u ≤ E.1.2.1; omega⟩ (by show E.1.2.1 ≤ 200; omega)
        have M1_ : RepN (cN (M1 (M1 σ 110 (10 * u + 3) (E.1.1 5 u)) 110 (10 * u + 9) (-1))) (jdgS c true E.1 u, E.2) := by
          rw [eJ]
          refine RepN.row hE N1 ⟨by show 0 ≤ E.1.2.1; omega, by show E.1.2.1 ≤ 200; omega⟩ (fun x hx => by rw [cN_M1 (by omega) (by omega), if_neg (by omega), cN_M1 (by omega) (by omega), if_neg (by omega)])
        have F1 : FrN σ (M1 (M1 σ 110 (10 * u + 3) (E.1.1 5 u)) 110 (10 * u + 9) (-1)) := FrN.m1.trans FrN.m1
        have Mr : RepNr (cN (M1 (M1 σ 110 (10 * u + 3) (E.1.1 5 u)) 110 (10 * u + 9) (-1))) (jdgS c true E.1 u) := M1_.1
        have j2 : (jdgS c true E.1 u).1 2 u = E.1.1 2 u := jdgS_ne (by omega)
        have j3 : (jdgS c true E.1 u).1 3 u = E.1.1 3 u := jdgS_ne (by omega)
        have jn : (jdgS c true E.1 u).2 = E.1.2 := jdgS_n
        have jn1 : (jdgS c true E.1 u).2.1 = E.1.2.1 := by rw [jn]
        have jw : RowW (jdgS c true E.1 u) := by unfold RowW; rw [jn]; exact hW
        have jlow : ∀ w i, 0 ≤ i → i ≤ u - 1 → (jdgS c true E.1 u).1 w i = D.1.1 w i := fun w i i0 i1 => by rw [jdgS_ne (by omega)]; exact hlow w i i0 (by omega)
        have un : u < D.1.2.1 := by
          rcases Int.lt_or_eq_of_le hu with q | q
          · exact q
          · exfalso; have q2 := hlow 2 u h0 (Int.le_refl _); have q3 := hlow 3 u h0 (Int.le_refl _); rw [q] at q2 q3 hw he; rw [q2, hl2.1] at hw; rw [q3, hl2.2] at he; omega
        obtain ⟨σ2, cl, F2, C2, N2⟩ := m_closes (σ := (M1 (M1 σ 110 (10 * u + 3) (E.1.1 5 u)) 110 (10 * u + 9) (-1))) hS Mr jw (u := u) ⟨h0, by omega⟩
        have eF : jdgF c true E.1 u = drpR (jdgS c true E.1 u) u := if_pos (Or.inr ⟨he, rfl⟩)
        rw [eF]
        refine ⟨σ2, ⟨M1_.row N2 ⟨by show 0 ≤ (jdgS c true E.1 u).2.1 - 1; omega, by show (jdgS c true E.1 u).2.1 - 1 ≤ 200; omega⟩ C2, hF.trans (F1.trans F2), jw.drp ⟨h0, by omega⟩, by omega, by omega, by show u - 1 ≤ (jdgS c true E.1 u).2.1 - 1; omega, fun q => by show u - 1 < (jdgS c true E.1 u).2.1 - 1; omega, fun w i i0 i1 => ?_⟩, fun b out K v5 v6 => ?_⟩
        · show (if i < u then _ else _) = _; rw [if_pos (by omega)]; exact jlow w i i0 i1
        · skip
          refine go_iload (at_of tX10_judges 0 7 rfl) rfl rfl ?_
          refine go_if_lt (tgt := 182) (at_of tX10_judges 0 8 rfl) (by decide) (fun h14 => ?_) (fun h14 => ?_)
          · exfalso; omega
          refine go_aload_n (at_of tX10_judges 0 9 rfl) rfl ?_
          refine go_iload (at_of tX10_judges 0 10 rfl) rfl rfl ?_
          refine go_iconst (at_of tX10_judges 0 11 rfl) (by unfold in32; omega) ?_
          refine go_cV (r1) lk_X10_106 rfl G_109 (at_of tX10_judges 0 12 rfl) rfl (by decide) rfl (Nat.le_of_ble_eq_true rfl) rfl (by first | decide | exact ⟨Nat.zero_le _, Nat.zero_le _⟩) ?_
          refine go_iload_n (at_of tX10_judges 0 13 rfl) rfl ?_
          refine go_icmp_ne (tgt := 32) (at_of tX10_judges 0 14 rfl) (by decide) (fun h25 => ?_) (fun h25 => ?_)
          rotate_left
          · exfalso; omega
          refine go_iconst (at_of tX10_judges 1 1 rfl) (by unfold in32; omega) ?_
          refine go_istore (at_of tX10_judges 1 2 rfl) rfl rfl ?_
          refine go_aload_n (at_of tX10_judges 1 3 rfl) rfl ?_
          refine go_iload (at_of tX10_judges 1 4 rfl) rfl rfl ?_
          refine go_iconst (at_of tX10_judges 1 5 rfl) (by unfold in32; omega) ?_
          refine go_cV (r2) lk_X10_106 rfl G_109 (at_of tX10_judges 1 6 rfl) rfl (by decide) rfl (Nat.le_of_ble_eq_true rfl) rfl (by first | decide | exact ⟨Nat.zero_le _, Nat.zero_le _⟩) ?_
          refine go_iload_n (at_of tX10_judges 1 7 rfl) rfl ?_
          refine go_icmp_ne (tgt := 50) (at_of tX10_judges 1 8 rfl) (by decide) (fun h43 => ?_) (fun h43 => ?_)
          · exfalso; omega
          refine go_iconst (at_of tX10_judges 1 9 rfl) (by unfold in32; omega) ?_
          refine go_goto (tgt := 51) (at_of tX10_judges 1 10 rfl) (by decide) ?_
          refine go_istore (at_of tX10_judges 1 12 rfl) rfl rfl ?_
          refine go_aload_n (at_of tX10_judges 1 13 rfl) rfl ?_
          refine go_iload (at_of tX10_judges 1 14 rfl) rfl rfl ?_
          refine go_bipush (at_of tX10_judges 1 15 rfl) (by decide) ?_
          refine go_cV (r9) lk_X10_106 rfl G_109 (at_of tX10_judges 2 0 rfl) rfl (by decide) rfl (Nat.le_of_ble_eq_true rfl) rfl (by first | decide | exact ⟨Nat.zero_le _, Nat.zero_le _⟩) ?_
          refine go_iload_n (at_of tX10_judges 2 1 rfl) rfl ?_
          refine go_icmp_ne (tgt := 103) (at_of tX10_judges 2 2 rfl) (by decide) (fun h62 => ?_) (fun h62 => ?_)
          · exfalso; omega
          refine go_aload_n (at_of tX10_judges 2 3 rfl) rfl ?_
          refine go_iload (at_of tX10_judges 2 4 rfl) rfl rfl ?_
          refine go_iconst (at_of tX10_judges 2 5 rfl) (by unfold in32; omega) ?_
          refine go_iload_n (at_of tX10_judges 2 6 rfl) rfl ?_
          refine go_if_eq (tgt := 83) (at_of tX10_judges 2 7 rfl) (by decide) (fun h70 => ?_) (fun h70 => ?_)
          · exfalso; exact absurd h70 (by decide)
          refine go_aload_n (at_of tX10_judges 2 8 rfl) rfl ?_
          refine go_iload (at_of tX10_judges 2 9 rfl) rfl rfl ?_
          refine go_iconst (at_of tX10_judges 2 10 rfl) (by unfold in32; omega) ?_
          refine go_cV (r3) lk_X10_106 rfl G_109 (at_of tX10_judges 2 11 rfl) rfl (by decide) rfl (Nat.le_of_ble_eq_true rfl) rfl (by first | decide | exact ⟨Nat.zero_le _, Nat.zero_le _⟩) ?_
          refine go_goto (tgt := 91) (at_of tX10_judges 2 12 rfl) (by decide) ?_
          refine go_cV (m_setAt hS (by omega)) lk_X10_99 rfl G_109 (at_of tX10_judges 3 1 rfl) rfl (by decide) rfl (Nat.le_of_ble_eq_true rfl) rfl (by first | decide | exact ⟨Nat.zero_le _, Nat.zero_le _⟩) ?_
          refine go_aload_n (at_of tX10_judges 3 2 rfl) rfl ?_
          refine go_iload (at_of tX10_judges 3 3 rfl) rfl rfl ?_
          refine go_bipush (at_of tX10_judges 3 4 rfl) (by decide) ?_
          refine go_iconst (at_of tX10_judges 3 5 rfl) (by unfold in32; omega) ?_
          refine go_cV (m_setAt (by exact hS) (by omega)) lk_X10_99 rfl G_109 (at_of tX10_judges 3 6 rfl) rfl (by decide) rfl (Nat.le_of_ble_eq_true rfl) rfl (by first | decide | exact ⟨Nat.zero_le _, Nat.zero_le _⟩) ?_
          refine go_iload (at_of tX10_judges 3 7 rfl) rfl rfl ?_
          refine go_if_eq (tgt := 112) (at_of tX10_judges 3 8 rfl) (by decide) (fun h105 => ?_) (fun h105 => ?_)
          rotate_left
          · exfalso; omega
          refine go_iload (at_of tX10_judges 3 11 rfl) rfl rfl ?_
          refine go_if_eq (tgt := 130) (at_of tX10_judges 3 12 rfl) (by decide) (fun h114 => ?_) (fun h114 => ?_)
          · exfalso; omega
          refine go_iload_n (at_of tX10_judges 3 13 rfl) rfl ?_
          refine go_if_eq (tgt := 130) (at_of tX10_judges 3 14 rfl) (by decide) (fun h118 => ?_) (fun h118 => ?_)
          · exfalso; exact absurd h118 (by decide)
          refine go_aload_n (at_of tX10_judges 3 15 rfl) rfl ?_
          refine go_iload (at_of tX10_judges 4 0 rfl) rfl rfl ?_
          refine go_cV (cl) lk_X10_200 rfl G_109 (at_of tX10_judges 4 1 rfl) rfl (by decide) rfl (Nat.le_of_ble_eq_true rfl) rfl (by first | decide | exact ⟨Nat.zero_le _, Nat.zero_le _⟩) ?_
          refine go_goto (tgt := 176) (at_of tX10_judges 4 2 rfl) (by decide) ?_
          refine go_iinc (at_of tX10_judges 5 11 rfl) rfl (by unfold in32; omega) rfl rfl ?_
          refine go_goto (tgt := 12) (at_of tX10_judges 5 12 rfl) (by decide) ?_
          exact K _ _ _
      · skip
        have eJ : jdgS c true E.1 u = E.1 := if_neg hb
        have M1_ : RepN (cN σ) (jdgS c true E.1 u, E.2) := by rw [eJ]; exact hE
        have F1 : FrN σ σ := FrN.refl
        have Mr : RepNr (cN σ) (jdgS c true E.1 u) := M1_.1
        have j2 : (jdgS c true E.1 u).1 2 u = E.1.1 2 u := jdgS_ne (by omega)
        have j3 : (jdgS c true E.1 u).1 3 u = E.1.1 3 u := jdgS_ne (by omega)
        have jn : (jdgS c true E.1 u).2 = E.1.2 := jdgS_n
        have jn1 : (jdgS c true E.1 u).2.1 = E.1.2.1 := by rw [jn]
        have jw : RowW (jdgS c true E.1 u) := by unfold RowW; rw [jn]; exact hW
        have jlow : ∀ w i, 0 ≤ i → i ≤ u - 1 → (jdgS c true E.1 u).1 w i = D.1.1 w i := fun w i i0 i1 => by rw [jdgS_ne (by omega)]; exact hlow w i i0 (by omega)
        have un : u < D.1.2.1 := by
          rcases Int.lt_or_eq_of_le hu with q | q
          · exact q
          · exfalso; have q2 := hlow 2 u h0 (Int.le_refl _); have q3 := hlow 3 u h0 (Int.le_refl _); rw [q] at q2 q3 hw he; rw [q2, hl2.1] at hw; rw [q3, hl2.2] at he; omega
        obtain ⟨σ2, cl, F2, C2, N2⟩ := m_closes (σ := σ) hS Mr jw (u := u) ⟨h0, by omega⟩
        have eF : jdgF c true E.1 u = drpR (jdgS c true E.1 u) u := if_pos (Or.inr ⟨he, rfl⟩)
        rw [eF]
        refine ⟨σ2, ⟨M1_.row N2 ⟨by show 0 ≤ (jdgS c true E.1 u).2.1 - 1; omega, by show (jdgS c true E.1 u).2.1 - 1 ≤ 200; omega⟩ C2, hF.trans (F1.trans F2), jw.drp ⟨h0, by omega⟩, by omega, by omega, by show u - 1 ≤ (jdgS c true E.1 u).2.1 - 1; omega, fun q => by show u - 1 < (jdgS c true E.1 u).2.1 - 1; omega, fun w i i0 i1 => ?_⟩, fun b out K v5 v6 => ?_⟩
        · show (if i < u then _ else _) = _; rw [if_pos (by omega)]; exact jlow w i i0 i1
        · skip
          refine go_iload (at_of tX10_judges 0 7 rfl) rfl rfl ?_
          refine go_if_lt (tgt := 182) (at_of tX10_judges 0 8 rfl) (by decide) (fun h14 => ?_) (fun h14 => ?_)
          · exfalso; omega
          refine go_aload_n (at_of tX10_judges 0 9 rfl) rfl ?_
          refine go_iload (at_of tX10_judges 0 10 rfl) rfl rfl ?_
          refine go_iconst (at_of tX10_judges 0 11 rfl) (by unfold in32; omega) ?_
          refine go_cV (r1) lk_X10_106 rfl G_109 (at_of tX10_judges 0 12 rfl) rfl (by decide) rfl (Nat.le_of_ble_eq_true rfl) rfl (by first | decide | exact ⟨Nat.zero_le _, Nat.zero_le _⟩) ?_
          refine go_iload_n (at_of tX10_judges 0 13 rfl) rfl ?_
          refine go_icmp_ne (tgt := 32) (at_of tX10_judges 0 14 rfl) (by decide) (fun h25 => ?_) (fun h25 => ?_)
          rotate_left
          · exfalso; omega
          refine go_iconst (at_of tX10_judges 1 1 rfl) (by unfold in32; omega) ?_
          refine go_istore (at_of tX10_judges 1 2 rfl) rfl rfl ?_
          refine go_aload_n (at_of tX10_judges 1 3 rfl) rfl ?_
          refine go_iload (at_of tX10_judges 1 4 rfl) rfl rfl ?_
          refine go_iconst (at_of tX10_judges 1 5 rfl) (by unfold in32; omega) ?_
          refine go_cV (r2) lk_X10_106 rfl G_109 (at_of tX10_judges 1 6 rfl) rfl (by decide) rfl (Nat.le_of_ble_eq_true rfl) rfl (by first | decide | exact ⟨Nat.zero_le _, Nat.zero_le _⟩) ?_
          refine go_iload_n (at_of tX10_judges 1 7 rfl) rfl ?_
          refine go_icmp_ne (tgt := 50) (at_of tX10_judges 1 8 rfl) (by decide) (fun h43 => ?_) (fun h43 => ?_)
          · exfalso; omega
          refine go_iconst (at_of tX10_judges 1 9 rfl) (by unfold in32; omega) ?_
          refine go_goto (tgt := 51) (at_of tX10_judges 1 10 rfl) (by decide) ?_
          refine go_istore (at_of tX10_judges 1 12 rfl) rfl rfl ?_
          refine go_aload_n (at_of tX10_judges 1 13 rfl) rfl ?_
          refine go_iload (at_of tX10_judges 1 14 rfl) rfl rfl ?_
          refine go_bipush (at_of tX10_judges 1 15 rfl) (by decide) ?_
          refine go_cV (r9) lk_X10_106 rfl G_109 (at_of tX10_judges 2 0 rfl) rfl (by decide) rfl (Nat.le_of_ble_eq_true rfl) rfl (by first | decide | exact ⟨Nat.zero_le _, Nat.zero_le _⟩) ?_
          refine go_iload_n (at_of tX10_judges 2 1 rfl) rfl ?_
          refine go_icmp_ne (tgt := 103) (at_of tX10_judges 2 2 rfl) (by decide) (fun h62 => ?_) (fun h62 => ?_)
          rotate_left
          · exfalso; omega
          refine go_iload (at_of tX10_judges 3 7 rfl) rfl rfl ?_
          refine go_if_eq (tgt := 112) (at_of tX10_judges 3 8 rfl) (by decide) (fun h105 => ?_) (fun h105 => ?_)
          rotate_left
          · exfalso; omega
          refine go_iload (at_of tX10_judges 3 11 rfl) rfl rfl ?_
          refine go_if_eq (tgt := 130) (at_of tX10_judges 3 12 rfl) (by decide) (fun h114 => ?_) (fun h114 => ?_)
          · exfalso; omega
          refine go_iload_n (at_of tX10_judges 3 13 rfl) rfl ?_
          refine go_if_eq (tgt := 130) (at_of tX10_judges 3 14 rfl) (by decide) (fun h118 => ?_) (fun h118 => ?_)
          · exfalso; exact absurd h118 (by decide)
          refine go_aload_n (at_of tX10_judges 3 15 rfl) rfl ?_
          refine go_iload (at_of tX10_judges 4 0 rfl) rfl rfl ?_
          refine go_cV (cl) lk_X10_200 rfl G_109 (at_of tX10_judges 4 1 rfl) rfl (by decide) rfl (Nat.le_of_ble_eq_true rfl) rfl (by first | decide | exact ⟨Nat.zero_le _, Nat.zero_le _⟩) ?_
          refine go_goto (tgt := 176) (at_of tX10_judges 4 2 rfl) (by decide) ?_
          refine go_iinc (at_of tX10_judges 5 11 rfl) rfl (by unfold in32; omega) rfl rfl ?_
          refine go_goto (tgt := 12) (at_of tX10_judges 5 12 rfl) (by decide) ?_
          exact K _ _ _
    · by_cases hb : E.1.1 4 u = c
      · skip
        have eJ : jdgS c true E.1 u = setR (setR E.1 5 u (E.1.1 5 u)) 4 u (-1) := if_pos hb
        have h9 : E.1.1 0 u = 47 := by rw [(hlow 0 u h0 (Int.le_refl _))]; exact h47 u h0 (by omega) (by rw [← hlow 4 u h0 (Int.le_refl _)]; omega)
        have r3 := m_at3 hS hE.1 (u := u) ⟨h0, by omega, by omega⟩ h9
        have N1 := rN_set9 (z := -1) (rN_set3 (z := E.1.1 5 u) hE.1 (u := u) ⟨h0, by omega⟩ (by omega)) (u := u) ⟨h0, by show u ≤ E.1.2.1; omega⟩ (by show E.1.2.1 ≤ 200; omega)
        have M1_ : RepN (cN (M1 (M1 σ 110 (10 * u + 3) (E.1.1 5 u)) 110 (10 * u + 9) (-1))) (jdgS c true E.1 u, E.2) := by
          rw [eJ]
          refine RepN.row hE N1 ⟨by show 0 ≤ E.1.2.1; omega, by show E.1.2.1 ≤ 200; omega⟩ (fun x hx => by rw [cN_M1 (by omega) (by omega), if_neg (by omega), cN_M1 (by omega) (by omega), if_neg (by omega)])
        have F1 : FrN σ (M1 (M1 σ 110 (10 * u + 3) (E.1.1 5 u)) 110 (10 * u + 9) (-1)) := FrN.m1.trans FrN.m1
        have Mr : RepNr (cN (M1 (M1 σ 110 (10 * u + 3) (E.1.1 5 u)) 110 (10 * u + 9) (-1))) (jdgS c true E.1 u) := M1_.1
        have j2 : (jdgS c true E.1 u).1 2 u = E.1.1 2 u := jdgS_ne (by omega)
        have j3 : (jdgS c true E.1 u).1 3 u = E.1.1 3 u := jdgS_ne (by omega)
        have jn : (jdgS c true E.1 u).2 = E.1.2 := jdgS_n
        have jn1 : (jdgS c true E.1 u).2.1 = E.1.2.1 := by rw [jn]
        have jw : RowW (jdgS c true E.1 u) := by unfold RowW; rw [jn]; exact hW
        have jlow : ∀ w i, 0 ≤ i → i ≤ u - 1 → (jdgS c true E.1 u).1 w i = D.1.1 w i := fun w i i0 i1 => by rw [jdgS_ne (by omega)]; exact hlow w i i0 (by omega)
        have s2 := m_setAt (σ := (M1 (M1 σ 110 (10 * u + 3) (E.1.1 5 u)) 110 (10 * u + 9) (-1))) hS (u := u) (p := 1) (z := (E.1.1 2 u)) (by omega)
        have s3 := m_setAt (σ := (M1 (M1 (M1 σ 110 (10 * u + 3) (E.1.1 5 u)) 110 (10 * u + 9) (-1)) 110 (10 * u + 1) (E.1.1 2 u))) hS (u := u) (p := 2) (z := (E.1.1 3 u)) (by omega)
        have N2 := rN_set1 (z := (E.1.1 2 u)) Mr (u := u) ⟨h0, by omega⟩ (by omega)
        have N3 := rN_set2 (z := (E.1.1 3 u)) N2 (u := u) ⟨h0, by show u ≤ (jdgS c true E.1 u).2.1; omega⟩ (by show (jdgS c true E.1 u).2.1 ≤ 200; omega)
        have r1b := m_at1 (σ := (M1 (M1 σ 110 (10 * u + 3) (E.1.1 5 u)) 110 (10 * u + 9) (-1))) hS Mr (u := u) ⟨h0, by omega, by omega⟩
        rw [j2] at r1b
        have r2b := m_at2 (σ := (M1 (M1 (M1 σ 110 (10 * u + 3) (E.1.1 5 u)) 110 (10 * u + 9) (-1)) 110 (10 * u + 1) (E.1.1 2 u))) hS N2 (u := u) ⟨h0, by show u ≤ (jdgS c true E.1 u).2.1; omega, by show (jdgS c true E.1 u).2.1 ≤ 200; omega⟩
        rw [setR_ne (by omega), j3] at r2b
        have eF : jdgF c true E.1 u = setR (setR (jdgS c true E.1 u) 2 u (E.1.1 2 u)) 3 u (E.1.1 3 u) := by
          unfold jdgF
          rw [if_neg (fun q => by rcases q with q | q; exact absurd q.2 (by decide); exact he q.1), if_neg hw, if_neg he]
        rw [eF]
        refine ⟨(M1 (M1 (M1 (M1 σ 110 (10 * u + 3) (E.1.1 5 u)) 110 (10 * u + 9) (-1)) 110 (10 * u + 1) (E.1.1 2 u)) 110 (10 * u + 2) (E.1.1 3 u)), ⟨M1_.row N3 ⟨by show 0 ≤ (jdgS c true E.1 u).2.1; omega, by show (jdgS c true E.1 u).2.1 ≤ 200; omega⟩ (fun x hx => by rw [cN_M1 (by omega) (by omega), if_neg (by omega), cN_M1 (by omega) (by omega), if_neg (by omega)]), hF.trans (F1.trans (FrN.m1.trans FrN.m1)), jw, by omega, by omega, by show u - 1 ≤ (jdgS c true E.1 u).2.1; omega, fun q => by show u - 1 < (jdgS c true E.1 u).2.1; omega, fun w i i0 i1 => ?_⟩, fun b out K v5 v6 => ?_⟩
        · rw [setR_ne (by omega), setR_ne (by omega)]; exact jlow w i i0 i1
        · skip
          refine go_iload (at_of tX10_judges 0 7 rfl) rfl rfl ?_
          refine go_if_lt (tgt := 182) (at_of tX10_judges 0 8 rfl) (by decide) (fun h14 => ?_) (fun h14 => ?_)
          · exfalso; omega
          refine go_aload_n (at_of tX10_judges 0 9 rfl) rfl ?_
          refine go_iload (at_of tX10_judges 0 10 rfl) rfl rfl ?_
          refine go_iconst (at_of tX10_judges 0 11 rfl) (by unfold in32; omega) ?_
          refine go_cV (r1) lk_X10_106 rfl G_109 (at_of tX10_judges 0 12 rfl) rfl (by decide) rfl (Nat.le_of_ble_eq_true rfl) rfl (by first | decide | exact ⟨Nat.zero_le _, Nat.zero_le _⟩) ?_
          refine go_iload_n (at_of tX10_judges 0 13 rfl) rfl ?_
          refine go_icmp_ne (tgt := 32) (at_of tX10_judges 0 14 rfl) (by decide) (fun h25 => ?_) (fun h25 => ?_)
          rotate_left
          · exfalso; omega
          refine go_iconst (at_of tX10_judges 1 1 rfl) (by unfold in32; omega) ?_
          refine go_istore (at_of tX10_judges 1 2 rfl) rfl rfl ?_
          refine go_aload_n (at_of tX10_judges 1 3 rfl) rfl ?_
          refine go_iload (at_of tX10_judges 1 4 rfl) rfl rfl ?_
          refine go_iconst (at_of tX10_judges 1 5 rfl) (by unfold in32; omega) ?_
          refine go_cV (r2) lk_X10_106 rfl G_109 (at_of tX10_judges 1 6 rfl) rfl (by decide) rfl (Nat.le_of_ble_eq_true rfl) rfl (by first | decide | exact ⟨Nat.zero_le _, Nat.zero_le _⟩) ?_
          refine go_iload_n (at_of tX10_judges 1 7 rfl) rfl ?_
          refine go_icmp_ne (tgt := 50) (at_of tX10_judges 1 8 rfl) (by decide) (fun h43 => ?_) (fun h43 => ?_)
          rotate_left
          · exfalso; omega
          refine go_iconst (at_of tX10_judges 1 11 rfl) (by unfold in32; omega) ?_
          refine go_istore (at_of tX10_judges 1 12 rfl) rfl rfl ?_
          refine go_aload_n (at_of tX10_judges 1 13 rfl) rfl ?_
          refine go_iload (at_of tX10_judges 1 14 rfl) rfl rfl ?_
          refine go_bipush (at_of tX10_judges 1 15 rfl) (by decide) ?_
          refine go_cV (r9) lk_X10_106 rfl G_109 (at_of tX10_judges 2 0 rfl) rfl (by decide) rfl (Nat.le_of_ble_eq_true rfl) rfl (by first | decide | exact ⟨Nat.zero_le _, Nat.zero_le _⟩) ?_
          refine go_iload_n (at_of tX10_judges 2 1 rfl) rfl ?_
          refine go_icmp_ne (tgt := 103) (at_of tX10_judges 2 2 rfl) (by decide) (fun h62 => ?_) (fun h62 => ?_)
          · exfalso; omega
          refine go_aload_n (at_of tX10_judges 2 3 rfl) rfl ?_
          refine go_iload (at_of tX10_judges 2 4 rfl) rfl rfl ?_
          refine go_iconst (at_of tX10_judges 2 5 rfl) (by unfold in32; omega) ?_
          refine go_iload_n (at_of tX10_judges 2 6 rfl) rfl ?_
          refine go_if_eq (tgt := 83) (at_of tX10_judges 2 7 rfl) (by decide) (fun h70 => ?_) (fun h70 => ?_)
          · exfalso; exact absurd h70 (by decide)
          refine go_aload_n (at_of tX10_judges 2 8 rfl) rfl ?_
          refine go_iload (at_of tX10_judges 2 9 rfl) rfl rfl ?_
          refine go_iconst (at_of tX10_judges 2 10 rfl) (by unfold in32; omega) ?_
          refine go_cV (r3) lk_X10_106 rfl G_109 (at_of tX10_judges 2 11 rfl) rfl (by decide) rfl (Nat.le_of_ble_eq_true rfl) rfl (by first | decide | exact ⟨Nat.zero_le _, Nat.zero_le _⟩) ?_
          refine go_goto (tgt := 91) (at_of tX10_judges 2 12 rfl) (by decide) ?_
          refine go_cV (m_setAt hS (by omega)) lk_X10_99 rfl G_109 (at_of tX10_judges 3 1 rfl) rfl (by decide) rfl (Nat.le_of_ble_eq_true rfl) rfl (by first | decide | exact ⟨Nat.zero_le _, Nat.zero_le _⟩) ?_
          refine go_aload_n (at_of tX10_judges 3 2 rfl) rfl ?_
          refine go_iload (at_of tX10_judges 3 3 rfl) rfl rfl ?_
          refine go_bipush (at_of tX10_judges 3 4 rfl) (by decide) ?_
          refine go_iconst (at_of tX10_judges 3 5 rfl) (by unfold in32; omega) ?_
          refine go_cV (m_setAt (by exact hS) (by omega)) lk_X10_99 rfl G_109 (at_of tX10_judges 3 6 rfl) rfl (by decide) rfl (Nat.le_of_ble_eq_true rfl) rfl (by first | decide | exact ⟨Nat.zero_le _, Nat.zero_le _⟩) ?_
          refine go_iload (at_of tX10_judges 3 7 rfl) rfl rfl ?_
          refine go_if_eq (tgt := 112) (at_of tX10_judges 3 8 rfl) (by decide) (fun h105 => ?_) (fun h105 => ?_)
          rotate_left
          · exfalso; omega
          refine go_iload (at_of tX10_judges 3 11 rfl) rfl rfl ?_
          refine go_if_eq (tgt := 130) (at_of tX10_judges 3 12 rfl) (by decide) (fun h114 => ?_) (fun h114 => ?_)
          rotate_left
          · exfalso; omega
          refine go_aload_n (at_of tX10_judges 4 3 rfl) rfl ?_
          refine go_iload (at_of tX10_judges 4 4 rfl) rfl rfl ?_
          refine go_iconst (at_of tX10_judges 4 5 rfl) (by unfold in32; omega) ?_
          refine go_iload (at_of tX10_judges 4 6 rfl) rfl rfl ?_
          refine go_if_eq (tgt := 143) (at_of tX10_judges 4 7 rfl) (by decide) (fun h136 => ?_) (fun h136 => ?_)
          rotate_left
          · exfalso; omega
          refine go_aload_n (at_of tX10_judges 4 10 rfl) rfl ?_
          refine go_iload (at_of tX10_judges 4 11 rfl) rfl rfl ?_
          refine go_iconst (at_of tX10_judges 4 12 rfl) (by unfold in32; omega) ?_
          refine go_cV (r1b) lk_X10_106 rfl G_109 (at_of tX10_judges 4 13 rfl) rfl (by decide) rfl (Nat.le_of_ble_eq_true rfl) rfl (by first | decide | exact ⟨Nat.zero_le _, Nat.zero_le _⟩) ?_
          refine go_cV (s2) lk_X10_99 rfl G_109 (at_of tX10_judges 4 14 rfl) rfl (by decide) rfl (Nat.le_of_ble_eq_true rfl) rfl (by first | decide | exact ⟨Nat.zero_le _, Nat.zero_le _⟩) ?_
          refine go_aload_n (at_of tX10_judges 4 15 rfl) rfl ?_
          refine go_iload (at_of tX10_judges 5 0 rfl) rfl rfl ?_
          refine go_iconst (at_of tX10_judges 5 1 rfl) (by unfold in32; omega) ?_
          refine go_iload (at_of tX10_judges 5 2 rfl) rfl rfl ?_
          refine go_if_eq (tgt := 166) (at_of tX10_judges 5 3 rfl) (by decide) (fun h159 => ?_) (fun h159 => ?_)
          rotate_left
          · exfalso; omega
          refine go_aload_n (at_of tX10_judges 5 6 rfl) rfl ?_
          refine go_iload (at_of tX10_judges 5 7 rfl) rfl rfl ?_
          refine go_iconst (at_of tX10_judges 5 8 rfl) (by unfold in32; omega) ?_
          refine go_cV (r2b) lk_X10_106 rfl G_109 (at_of tX10_judges 5 9 rfl) rfl (by decide) rfl (Nat.le_of_ble_eq_true rfl) rfl (by first | decide | exact ⟨Nat.zero_le _, Nat.zero_le _⟩) ?_
          refine go_cV (s3) lk_X10_99 rfl G_109 (at_of tX10_judges 5 10 rfl) rfl (by decide) rfl (Nat.le_of_ble_eq_true rfl) rfl (by first | decide | exact ⟨Nat.zero_le _, Nat.zero_le _⟩) ?_
          refine go_iinc (at_of tX10_judges 5 11 rfl) rfl (by unfold in32; omega) rfl rfl ?_
          refine go_goto (tgt := 12) (at_of tX10_judges 5 12 rfl) (by decide) ?_
          exact K _ _ _
      · skip
        have eJ : jdgS c true E.1 u = E.1 := if_neg hb
        have M1_ : RepN (cN σ) (jdgS c true E.1 u, E.2) := by rw [eJ]; exact hE
        have F1 : FrN σ σ := FrN.refl
        have Mr : RepNr (cN σ) (jdgS c true E.1 u) := M1_.1
        have j2 : (jdgS c true E.1 u).1 2 u = E.1.1 2 u := jdgS_ne (by omega)
        have j3 : (jdgS c true E.1 u).1 3 u = E.1.1 3 u := jdgS_ne (by omega)
        have jn : (jdgS c true E.1 u).2 = E.1.2 := jdgS_n
        have jn1 : (jdgS c true E.1 u).2.1 = E.1.2.1 := by rw [jn]
        have jw : RowW (jdgS c true E.1 u) := by unfold RowW; rw [jn]; exact hW
        have jlow : ∀ w i, 0 ≤ i → i ≤ u - 1 → (jdgS c true E.1 u).1 w i = D.1.1 w i := fun w i i0 i1 => by rw [jdgS_ne (by omega)]; exact hlow w i i0 (by omega)
        have s2 := m_setAt (σ := σ) hS (u := u) (p := 1) (z := (E.1.1 2 u)) (by omega)
        have s3 := m_setAt (σ := (M1 σ 110 (10 * u + 1) (E.1.1 2 u))) hS (u := u) (p := 2) (z := (E.1.1 3 u)) (by omega)
        have N2 := rN_set1 (z := (E.1.1 2 u)) Mr (u := u) ⟨h0, by omega⟩ (by omega)
        have N3 := rN_set2 (z := (E.1.1 3 u)) N2 (u := u) ⟨h0, by show u ≤ (jdgS c true E.1 u).2.1; omega⟩ (by show (jdgS c true E.1 u).2.1 ≤ 200; omega)
        have r1b := m_at1 (σ := σ) hS Mr (u := u) ⟨h0, by omega, by omega⟩
        rw [j2] at r1b
        have r2b := m_at2 (σ := (M1 σ 110 (10 * u + 1) (E.1.1 2 u))) hS N2 (u := u) ⟨h0, by show u ≤ (jdgS c true E.1 u).2.1; omega, by show (jdgS c true E.1 u).2.1 ≤ 200; omega⟩
        rw [setR_ne (by omega), j3] at r2b
        have eF : jdgF c true E.1 u = setR (setR (jdgS c true E.1 u) 2 u (E.1.1 2 u)) 3 u (E.1.1 3 u) := by
          unfold jdgF
          rw [if_neg (fun q => by rcases q with q | q; exact absurd q.2 (by decide); exact he q.1), if_neg hw, if_neg he]
        rw [eF]
        refine ⟨(M1 (M1 σ 110 (10 * u + 1) (E.1.1 2 u)) 110 (10 * u + 2) (E.1.1 3 u)), ⟨M1_.row N3 ⟨by show 0 ≤ (jdgS c true E.1 u).2.1; omega, by show (jdgS c true E.1 u).2.1 ≤ 200; omega⟩ (fun x hx => by rw [cN_M1 (by omega) (by omega), if_neg (by omega), cN_M1 (by omega) (by omega), if_neg (by omega)]), hF.trans (F1.trans (FrN.m1.trans FrN.m1)), jw, by omega, by omega, by show u - 1 ≤ (jdgS c true E.1 u).2.1; omega, fun q => by show u - 1 < (jdgS c true E.1 u).2.1; omega, fun w i i0 i1 => ?_⟩, fun b out K v5 v6 => ?_⟩
        · rw [setR_ne (by omega), setR_ne (by omega)]; exact jlow w i i0 i1
        · skip
          refine go_iload (at_of tX10_judges 0 7 rfl) rfl rfl ?_
          refine go_if_lt (tgt := 182) (at_of tX10_judges 0 8 rfl) (by decide) (fun h14 => ?_) (fun h14 => ?_)
          · exfalso; omega
          refine go_aload_n (at_of tX10_judges 0 9 rfl) rfl ?_
          refine go_iload (at_of tX10_judges 0 10 rfl) rfl rfl ?_
          refine go_iconst (at_of tX10_judges 0 11 rfl) (by unfold in32; omega) ?_
          refine go_cV (r1) lk_X10_106 rfl G_109 (at_of tX10_judges 0 12 rfl) rfl (by decide) rfl (Nat.le_of_ble_eq_true rfl) rfl (by first | decide | exact ⟨Nat.zero_le _, Nat.zero_le _⟩) ?_
          refine go_iload_n (at_of tX10_judges 0 13 rfl) rfl ?_
          refine go_icmp_ne (tgt := 32) (at_of tX10_judges 0 14 rfl) (by decide) (fun h25 => ?_) (fun h25 => ?_)
          rotate_left
          · exfalso; omega
          refine go_iconst (at_of tX10_judges 1 1 rfl) (by unfold in32; omega) ?_
          refine go_istore (at_of tX10_judges 1 2 rfl) rfl rfl ?_
          refine go_aload_n (at_of tX10_judges 1 3 rfl) rfl ?_
          refine go_iload (at_of tX10_judges 1 4 rfl) rfl rfl ?_
          refine go_iconst (at_of tX10_judges 1 5 rfl) (by unfold in32; omega) ?_
          refine go_cV (r2) lk_X10_106 rfl G_109 (at_of tX10_judges 1 6 rfl) rfl (by decide) rfl (Nat.le_of_ble_eq_true rfl) rfl (by first | decide | exact ⟨Nat.zero_le _, Nat.zero_le _⟩) ?_
          refine go_iload_n (at_of tX10_judges 1 7 rfl) rfl ?_
          refine go_icmp_ne (tgt := 50) (at_of tX10_judges 1 8 rfl) (by decide) (fun h43 => ?_) (fun h43 => ?_)
          rotate_left
          · exfalso; omega
          refine go_iconst (at_of tX10_judges 1 11 rfl) (by unfold in32; omega) ?_
          refine go_istore (at_of tX10_judges 1 12 rfl) rfl rfl ?_
          refine go_aload_n (at_of tX10_judges 1 13 rfl) rfl ?_
          refine go_iload (at_of tX10_judges 1 14 rfl) rfl rfl ?_
          refine go_bipush (at_of tX10_judges 1 15 rfl) (by decide) ?_
          refine go_cV (r9) lk_X10_106 rfl G_109 (at_of tX10_judges 2 0 rfl) rfl (by decide) rfl (Nat.le_of_ble_eq_true rfl) rfl (by first | decide | exact ⟨Nat.zero_le _, Nat.zero_le _⟩) ?_
          refine go_iload_n (at_of tX10_judges 2 1 rfl) rfl ?_
          refine go_icmp_ne (tgt := 103) (at_of tX10_judges 2 2 rfl) (by decide) (fun h62 => ?_) (fun h62 => ?_)
          rotate_left
          · exfalso; omega
          refine go_iload (at_of tX10_judges 3 7 rfl) rfl rfl ?_
          refine go_if_eq (tgt := 112) (at_of tX10_judges 3 8 rfl) (by decide) (fun h105 => ?_) (fun h105 => ?_)
          rotate_left
          · exfalso; omega
          refine go_iload (at_of tX10_judges 3 11 rfl) rfl rfl ?_
          refine go_if_eq (tgt := 130) (at_of tX10_judges 3 12 rfl) (by decide) (fun h114 => ?_) (fun h114 => ?_)
          rotate_left
          · exfalso; omega
          refine go_aload_n (at_of tX10_judges 4 3 rfl) rfl ?_
          refine go_iload (at_of tX10_judges 4 4 rfl) rfl rfl ?_
          refine go_iconst (at_of tX10_judges 4 5 rfl) (by unfold in32; omega) ?_
          refine go_iload (at_of tX10_judges 4 6 rfl) rfl rfl ?_
          refine go_if_eq (tgt := 143) (at_of tX10_judges 4 7 rfl) (by decide) (fun h136 => ?_) (fun h136 => ?_)
          rotate_left
          · exfalso; omega
          refine go_aload_n (at_of tX10_judges 4 10 rfl) rfl ?_
          refine go_iload (at_of tX10_judges 4 11 rfl) rfl rfl ?_
          refine go_iconst (at_of tX10_judges 4 12 rfl) (by unfold in32; omega) ?_
          refine go_cV (r1b) lk_X10_106 rfl G_109 (at_of tX10_judges 4 13 rfl) rfl (by decide) rfl (Nat.le_of_ble_eq_true rfl) rfl (by first | decide | exact ⟨Nat.zero_le _, Nat.zero_le _⟩) ?_
          refine go_cV (s2) lk_X10_99 rfl G_109 (at_of tX10_judges 4 14 rfl) rfl (by decide) rfl (Nat.le_of_ble_eq_true rfl) rfl (by first | decide | exact ⟨Nat.zero_le _, Nat.zero_le _⟩) ?_
          refine go_aload_n (at_of tX10_judges 4 15 rfl) rfl ?_
          refine go_iload (at_of tX10_judges 5 0 rfl) rfl rfl ?_
          refine go_iconst (at_of tX10_judges 5 1 rfl) (by unfold in32; omega) ?_
          refine go_iload (at_of tX10_judges 5 2 rfl) rfl rfl ?_
          refine go_if_eq (tgt := 166) (at_of tX10_judges 5 3 rfl) (by decide) (fun h159 => ?_) (fun h159 => ?_)
          rotate_left
          · exfalso; omega
          refine go_aload_n (at_of tX10_judges 5 6 rfl) rfl ?_
          refine go_iload (at_of tX10_judges 5 7 rfl) rfl rfl ?_
          refine go_iconst (at_of tX10_judges 5 8 rfl) (by unfold in32; omega) ?_
          refine go_cV (r2b) lk_X10_106 rfl G_109 (at_of tX10_judges 5 9 rfl) rfl (by decide) rfl (Nat.le_of_ble_eq_true rfl) rfl (by first | decide | exact ⟨Nat.zero_le _, Nat.zero_le _⟩) ?_
          refine go_cV (s3) lk_X10_99 rfl G_109 (at_of tX10_judges 5 10 rfl) rfl (by decide) rfl (Nat.le_of_ble_eq_true rfl) rfl (by first | decide | exact ⟨Nat.zero_le _, Nat.zero_le _⟩) ?_
          refine go_iinc (at_of tX10_judges 5 11 rfl) rfl (by unfold in32; omega) rfl rfl ?_
          refine go_goto (tgt := 12) (at_of tX10_judges 5 12 rfl) (by decide) ?_
          exact K _ _ _

theorem m_judge_step_false {σ0 : St} {D E : PapD} (hS : Str σ.2.1) (hl2 : D.1.1 2 D.1.2.1 = -1 ∧ D.1.1 3 D.1.2.1 = -1) (h47 : ∀ i, 0 ≤ i → i ≤ D.1.2.1 → D.1.1 4 i ≠ -1 → D.1.1 0 i = 47) {c u n0 : Int} (hc : 0 ≤ c) (hE : RepN (cN σ) E) (hF : FrN σ0 σ) (hW : RowW E.1) (h0 : 0 ≤ u) (hu : u ≤ D.1.2.1) (hu2 : u ≤ E.1.2.1) (hu3 : u < D.1.2.1 → u < E.1.2.1) (hlow : ∀ w i, 0 ≤ i → i ≤ u → E.1.1 w i = D.1.1 w i) :
    ∃ σ', (RepN (cN σ') (jdgF c false E.1 u, E.2) ∧ FrN σ0 σ' ∧ RowW (jdgF c false E.1 u) ∧ -1 ≤ u - 1 ∧ u - 1 ≤ D.1.2.1 ∧ u - 1 ≤ (jdgF c false E.1 u).2.1 ∧ (u - 1 < D.1.2.1 → u - 1 < (jdgF c false E.1 u).2.1) ∧ ∀ w i, 0 ≤ i → i ≤ u - 1 → (jdgF c false E.1 u).1 w i = D.1.1 w i) ∧
      ∀ (b : Nat × Nat) (out : MV × St), (∀ b' v5 v6, Go (fun _ => 0) 2 mX10_judges b' 12 [vA 109, vI c, vI (bI (false = true)), vI n0, vI (u - 1), v5, v6] [] σ' out) → ∀ v5 v6, Go (fun _ => 0) 2 mX10_judges b 12 [vA 109, vI c, vI (bI (false = true)), vI n0, vI u, v5, v6] [] σ out := by
  have hw2 := hW.2.1
  have r1 := m_at1 hS hE.1 (u := u) ⟨h0, hu2, hw2⟩
  have r2 := m_at2 hS hE.1 (u := u) ⟨h0, hu2, hw2⟩
  have r9 := m_at9 hS hE.1 (u := u) ⟨h0, hu2, hw2⟩
  by_cases hw : E.1.1 2 u = c
  · by_cases he : E.1.1 3 u = c
    · by_cases hb : E.1.1 4 u = c
      · skip
        have eJ : jdgS c false E.1 u = setR (setR E.1 5 u (E.1.1 6 u)) 4 u (-1) := if_pos hb
        have h9 : E.1.1 0 u = 47 := by rw [(hlow 0 u h0 (Int.le_refl _))]; exact h47 u h0 (by omega) (by rw [← hlow 4 u h0 (Int.le_refl _)]; omega)
        have r8 := m_at8 hS hE.1 (u := u) ⟨h0, by omega, by omega⟩ h9
        have N1 := rN_set9 (z := -1) (rN_set3 (z := E.1.1 6 u) hE.1 (u := u) ⟨h0, by omega⟩ (by omega)) (u := u) ⟨h0, by show u ≤ E.1.2.1; omega⟩ (by show E.1.2.1 ≤ 200; omega)
        have M1_ : RepN (cN (M1 (M1 σ 110 (10 * u + 3) (E.1.1 6 u)) 110 (10 * u + 9) (-1))) (jdgS c false E.1 u, E.2) := by
          rw [eJ]
          refine RepN.row hE N1 ⟨by show 0 ≤ E.1.2.1; omega, by show E.1.2.1 ≤ 200; omega⟩ (fun x hx => by rw [cN_M1 (by omega) (by omega), if_neg (by omega), cN_M1 (by omega) (by omega), if_neg (by omega)])
        have F1 : FrN σ (M1 (M1 σ 110 (10 * u + 3) (E.1.1 6 u)) 110 (10 * u + 9) (-1)) := FrN.m1.trans FrN.m1
        have Mr : RepNr (cN (M1 (M1 σ 110 (10 * u + 3) (E.1.1 6 u)) 110 (10 * u + 9) (-1))) (jdgS c false E.1 u) := M1_.1
        have j2 : (jdgS c false E.1 u).1 2 u = E.1.1 2 u := jdgS_ne (by omega)
        have j3 : (jdgS c false E.1 u).1 3 u = E.1.1 3 u := jdgS_ne (by omega)
        have jn : (jdgS c false E.1 u).2 = E.1.2 := jdgS_n
        have jn1 : (jdgS c false E.1 u).2.1 = E.1.2.1 := by rw [jn]
        have jw : RowW (jdgS c false E.1 u) := by unfold RowW; rw [jn]; exact hW
        have jlow : ∀ w i, 0 ≤ i → i ≤ u - 1 → (jdgS c false E.1 u).1 w i = D.1.1 w i := fun w i i0 i1 => by rw [jdgS_ne (by omega)]; exact hlow w i i0 (by omega)
        have un : u < D.1.2.1 := by
          rcases Int.lt_or_eq_of_le hu with q | q
          · exact q
          · exfalso; have q2 := hlow 2 u h0 (Int.le_refl _); have q3 := hlow 3 u h0 (Int.le_refl _); rw [q] at q2 q3 hw he; rw [q2, hl2.1] at hw; rw [q3, hl2.2] at he; omega
        obtain ⟨σ2, cl, F2, C2, N2⟩ := m_closes (σ := (M1 (M1 σ 110 (10 * u + 3) (E.1.1 6 u)) 110 (10 * u + 9) (-1))) hS Mr jw (u := u) ⟨h0, by omega⟩
        have eF : jdgF c false E.1 u = drpR (jdgS c false E.1 u) u := if_pos (Or.inl ⟨hw, rfl⟩)
        rw [eF]
        refine ⟨σ2, ⟨M1_.row N2 ⟨by show 0 ≤ (jdgS c false E.1 u).2.1 - 1; omega, by show (jdgS c false E.1 u).2.1 - 1 ≤ 200; omega⟩ C2, hF.trans (F1.trans F2), jw.drp ⟨h0, by omega⟩, by omega, by omega, by show u - 1 ≤ (jdgS c false E.1 u).2.1 - 1; omega, fun q => by show u - 1 < (jdgS c false E.1 u).2.1 - 1; omega, fun w i i0 i1 => ?_⟩, fun b out K v5 v6 => ?_⟩
        · show (if i < u then _ else _) = _; rw [if_pos (by omega)]; exact jlow w i i0 i1
        · skip
          refine go_iload (at_of tX10_judges 0 7 rfl) rfl rfl ?_
          refine go_if_lt (tgt := 182) (at_of tX10_judges 0 8 rfl) (by decide) (fun h14 => ?_) (fun h14 => ?_)
          · exfalso; omega
          refine go_aload_n (at_of tX10_judges 0 9 rfl) rfl ?_
          refine go_iload (at_of tX10_judges 0 10 rfl) rfl rfl ?_
          refine go_iconst (at_of tX10_judges 0 11 rfl) (by unfold in32; omega) ?_
          refine go_cV (r1) lk_X10_106 rfl G_109 (at_of tX10_judges 0 12 rfl) rfl (by decide) rfl (Nat.le_of_ble_eq_true rfl) rfl (by first | decide | exact ⟨Nat.zero_le _, Nat.zero_le _⟩) ?_
          refine go_iload_n (at_of tX10_judges 0 13 rfl) rfl ?_
          refine go_icmp_ne (tgt := 32) (at_of tX10_judges 0 14 rfl) (by decide) (fun h25 => ?_) (fun h25 => ?_)
          · exfalso; omega
          refine go_iconst (at_of tX10_judges 0 15 rfl) (by unfold in32; omega) ?_
          refine go_goto (tgt := 33) (at_of tX10_judges 1 0 rfl) (by decide) ?_
          refine go_istore (at_of tX10_judges 1 2 rfl) rfl rfl ?_
          refine go_aload_n (at_of tX10_judges 1 3 rfl) rfl ?_
          refine go_iload (at_of tX10_judges 1 4 rfl) rfl rfl ?_
          refine go_iconst (at_of tX10_judges 1 5 rfl) (by unfold in32; omega) ?_
          refine go_cV (r2) lk_X10_106 rfl G_109 (at_of tX10_judges 1 6 rfl) rfl (by decide) rfl (Nat.le_of_ble_eq_true rfl) rfl (by first | decide | exact ⟨Nat.zero_le _, Nat.zero_le _⟩) ?_
          refine go_iload_n (at_of tX10_judges 1 7 rfl) rfl ?_
          refine go_icmp_ne (tgt := 50) (at_of tX10_judges 1 8 rfl) (by decide) (fun h43 => ?_) (fun h43 => ?_)
          · exfalso; omega
          refine go_iconst (at_of tX10_judges 1 9 rfl) (by unfold in32; omega) ?_
          refine go_goto (tgt := 51) (at_of tX10_judges 1 10 rfl) (by decide) ?_
          refine go_istore (at_of tX10_judges 1 12 rfl) rfl rfl ?_
          refine go_aload_n (at_of tX10_judges 1 13 rfl) rfl ?_
          refine go_iload (at_of tX10_judges 1 14 rfl) rfl rfl ?_
          refine go_bipush (at_of tX10_judges 1 15 rfl) (by decide) ?_
          refine go_cV (r9) lk_X10_106 rfl G_109 (at_of tX10_judges 2 0 rfl) rfl (by decide) rfl (Nat.le_of_ble_eq_true rfl) rfl (by first | decide | exact ⟨Nat.zero_le _, Nat.zero_le _⟩) ?_
          refine go_iload_n (at_of tX10_judges 2 1 rfl) rfl ?_
          refine go_icmp_ne (tgt := 103) (at_of tX10_judges 2 2 rfl) (by decide) (fun h62 => ?_) (fun h62 => ?_)
          · exfalso; omega
          refine go_aload_n (at_of tX10_judges 2 3 rfl) rfl ?_
          refine go_iload (at_of tX10_judges 2 4 rfl) rfl rfl ?_
          refine go_iconst (at_of tX10_judges 2 5 rfl) (by unfold in32; omega) ?_
          refine go_iload_n (at_of tX10_judges 2 6 rfl) rfl ?_
          refine go_if_eq (tgt := 83) (at_of tX10_judges 2 7 rfl) (by decide) (fun h70 => ?_) (fun h70 => ?_)
          rotate_left
          · exfalso; exact h70 rfl
          refine go_aload_n (at_of tX10_judges 2 13 rfl) rfl ?_
          refine go_iload (at_of tX10_judges 2 14 rfl) rfl rfl ?_
          refine go_bipush (at_of tX10_judges 2 15 rfl) (by decide) ?_
          refine go_cV (r8) lk_X10_106 rfl G_109 (at_of tX10_judges 3 0 rfl) rfl (by decide) rfl (Nat.le_of_ble_eq_true rfl) rfl (by first | decide | exact ⟨Nat.zero_le _, Nat.zero_le _⟩) ?_
          refine go_cV (m_setAt hS (by omega)) lk_X10_99 rfl G_109 (at_of tX10_judges 3 1 rfl) rfl (by decide) rfl (Nat.le_of_ble_eq_true rfl) rfl (by first | decide | exact ⟨Nat.zero_le _, Nat.zero_le _⟩) ?_
          refine go_aload_n (at_of tX10_judges 3 2 rfl) rfl ?_
          refine go_iload (at_of tX10_judges 3 3 rfl) rfl rfl ?_
          refine go_bipush (at_of tX10_judges 3 4 rfl) (by decide) ?_
          refine go_iconst (at_of tX10_judges 3 5 rfl) (by unfold in32; omega) ?_
          refine go_cV (m_setAt (by exact hS) (by omega)) lk_X10_99 rfl G_109 (at_of tX10_judges 3 6 rfl) rfl (by decide) rfl (Nat.le_of_ble_eq_true rfl) rfl (by first | decide | exact ⟨Nat.zero_le _, Nat.zero_le _⟩) ?_
          refine go_iload (at_of tX10_judges 3 7 rfl) rfl rfl ?_
          refine go_if_eq (tgt := 112) (at_of tX10_judges 3 8 rfl) (by decide) (fun h105 => ?_) (fun h105 => ?_)
          · exfalso; omega
          refine go_iload_n (at_of tX10_judges 3 9 rfl) rfl ?_
          refine go_if_eq (tgt := 121) (at_of tX10_judges 3 10 rfl) (by decide) (fun h109 => ?_) (fun h109 => ?_)
          rotate_left
          · exfalso; exact h109 rfl
          refine go_aload_n (at_of tX10_judges 3 15 rfl) rfl ?_
          refine go_iload (at_of tX10_judges 4 0 rfl) rfl rfl ?_
          refine go_cV (cl) lk_X10_200 rfl G_109 (at_of tX10_judges 4 1 rfl) rfl (by decide) rfl (Nat.le_of_ble_eq_true rfl) rfl (by first | decide | exact ⟨Nat.zero_le _, Nat.zero_le _⟩) ?_
          refine go_goto (tgt := 176) (at_of tX10_judges 4 2 rfl) (by decide) ?_
          refine go_iinc (at_of tX10_judges 5 11 rfl) rfl (by unfold in32; omega) rfl rfl ?_
          refine go_goto (tgt := 12) (at_of tX10_judges 5 12 rfl) (by decide) ?_
          exact K _ _ _
      · skip
        have eJ : jdgS c false E.1 u = E.1 := if_neg hb
        have M1_ : RepN (cN σ) (jdgS c false E.1 u, E.2) := by rw [eJ]; exact hE
        have F1 : FrN σ σ := FrN.refl
        have Mr : RepNr (cN σ) (jdgS c false E.1 u) := M1_.1
        have j2 : (jdgS c false E.1 u).1 2 u = E.1.1 2 u := jdgS_ne (by omega)
        have j3 : (jdgS c false E.1 u).1 3 u = E.1.1 3 u := jdgS_ne (by omega)
        have jn : (jdgS c false E.1 u).2 = E.1.2 := jdgS_n
        have jn1 : (jdgS c false E.1 u).2.1 = E.1.2.1 := by rw [jn]
        have jw : RowW (jdgS c false E.1 u) := by unfold RowW; rw [jn]; exact hW
        have jlow : ∀ w i, 0 ≤ i → i ≤ u - 1 → (jdgS c false E.1 u).1 w i = D.1.1 w i := fun w i i0 i1 => by rw [jdgS_ne (by omega)]; exact hlow w i i0 (by omega)
        have un : u < D.1.2.1 := by
          rcases Int.lt_or_eq_of_le hu with q | q
          · exact q
          · exfalso; have q2 := hlow 2 u h0 (Int.le_refl _); have q3 := hlow 3 u h0 (Int.le_refl _); rw [q] at q2 q3 hw he; rw [q2, hl2.1] at hw; rw [q3, hl2.2] at he; omega
        obtain ⟨σ2, cl, F2, C2, N2⟩ := m_closes (σ := σ) hS Mr jw (u := u) ⟨h0, by omega⟩
        have eF : jdgF c false E.1 u = drpR (jdgS c false E.1 u) u := if_pos (Or.inl ⟨hw, rfl⟩)
        rw [eF]
        refine ⟨σ2, ⟨M1_.row N2 ⟨by show 0 ≤ (jdgS c false E.1 u).2.1 - 1; omega, by show (jdgS c false E.1 u).2.1 - 1 ≤ 200; omega⟩ C2, hF.trans (F1.trans F2), jw.drp ⟨h0, by omega⟩, by omega, by omega, by show u - 1 ≤ (jdgS c false E.1 u).2.1 - 1; omega, fun q => by show u - 1 < (jdgS c false E.1 u).2.1 - 1; omega, fun w i i0 i1 => ?_⟩, fun b out K v5 v6 => ?_⟩
        · show (if i < u then _ else _) = _; rw [if_pos (by omega)]; exact jlow w i i0 i1
        · skip
          refine go_iload (at_of tX10_judges 0 7 rfl) rfl rfl ?_
          refine go_if_lt (tgt := 182) (at_of tX10_judges 0 8 rfl) (by decide) (fun h14 => ?_) (fun h14 => ?_)
          · exfalso; omega
          refine go_aload_n (at_of tX10_judges 0 9 rfl) rfl ?_
          refine go_iload (at_of tX10_judges 0 10 rfl) rfl rfl ?_
          refine go_iconst (at_of tX10_judges 0 11 rfl) (by unfold in32; omega) ?_
          refine go_cV (r1) lk_X10_106 rfl G_109 (at_of tX10_judges 0 12 rfl) rfl (by decide) rfl (Nat.le_of_ble_eq_true rfl) rfl (by first | decide | exact ⟨Nat.zero_le _, Nat.zero_le _⟩) ?_
          refine go_iload_n (at_of tX10_judges 0 13 rfl) rfl ?_
          refine go_icmp_ne (tgt := 32) (at_of tX10_judges 0 14 rfl) (by decide) (fun h25 => ?_) (fun h25 => ?_)
          · exfalso; omega
          refine go_iconst (at_of tX10_judges 0 15 rfl) (by unfold in32; omega) ?_
          refine go_goto (tgt := 33) (at_of tX10_judges 1 0 rfl) (by decide) ?_
          refine go_istore (at_of tX10_judges 1 2 rfl) rfl rfl ?_
          refine go_aload_n (at_of tX10_judges 1 3 rfl) rfl ?_
          refine go_iload (at_of tX10_judges 1 4 rfl) rfl rfl ?_
          refine go_iconst (at_of tX10_judges 1 5 rfl) (by unfold in32; omega) ?_
          refine go_cV (r2) lk_X10_106 rfl G_109 (at_of tX10_judges 1 6 rfl) rfl (by decide) rfl (Nat.le_of_ble_eq_true rfl) rfl (by first | decide | exact ⟨Nat.zero_le _, Nat.zero_le _⟩) ?_
          refine go_iload_n (at_of tX10_judges 1 7 rfl) rfl ?_
          refine go_icmp_ne (tgt := 50) (at_of tX10_judges 1 8 rfl) (by decide) (fun h43 => ?_) (fun h43 => ?_)
          · exfalso; omega
          refine go_iconst (at_of tX10_judges 1 9 rfl) (by unfold in32; omega) ?_
          refine go_goto (tgt := 51) (at_of tX10_judges 1 10 rfl) (by decide) ?_
          refine go_istore (at_of tX10_judges 1 12 rfl) rfl rfl ?_
          refine go_aload_n (at_of tX10_judges 1 13 rfl) rfl ?_
          refine go_iload (at_of tX10_judges 1 14 rfl) rfl rfl ?_
          refine go_bipush (at_of tX10_judges 1 15 rfl) (by decide) ?_
          refine go_cV (r9) lk_X10_106 rfl G_109 (at_of tX10_judges 2 0 rfl) rfl (by decide) rfl (Nat.le_of_ble_eq_true rfl) rfl (by first | decide | exact ⟨Nat.zero_le _, Nat.zero_le _⟩) ?_
          refine go_iload_n (at_of tX10_judges 2 1 rfl) rfl ?_
          refine go_icmp_ne (tgt := 103) (at_of tX10_judges 2 2 rfl) (by decide) (fun h62 => ?_) (fun h62 => ?_)
          rotate_left
          · exfalso; omega
          refine go_iload (at_of tX10_judges 3 7 rfl) rfl rfl ?_
          refine go_if_eq (tgt := 112) (at_of tX10_judges 3 8 rfl) (by decide) (fun h105 => ?_) (fun h105 => ?_)
          · exfalso; omega
          refine go_iload_n (at_of tX10_judges 3 9 rfl) rfl ?_
          refine go_if_eq (tgt := 121) (at_of tX10_judges 3 10 rfl) (by decide) (fun h109 => ?_) (fun h109 => ?_)
          rotate_left
          · exfalso; exact h109 rfl
          refine go_aload_n (at_of tX10_judges 3 15 rfl) rfl ?_
          refine go_iload (at_of tX10_judges 4 0 rfl) rfl rfl ?_
          refine go_cV (cl) lk_X10_200 rfl G_109 (at_of tX10_judges 4 1 rfl) rfl (by decide) rfl (Nat.le_of_ble_eq_true rfl) rfl (by first | decide | exact ⟨Nat.zero_le _, Nat.zero_le _⟩) ?_
          refine go_goto (tgt := 176) (at_of tX10_judges 4 2 rfl) (by decide) ?_
          refine go_iinc (at_of tX10_judges 5 11 rfl) rfl (by unfold in32; omega) rfl rfl ?_
          refine go_goto (tgt := 12) (at_of tX10_judges 5 12 rfl) (by decide) ?_
          exact K _ _ _
    · by_cases hb : E.1.1 4 u = c
      · skip
        have eJ : jdgS c false E.1 u = setR (setR E.1 5 u (E.1.1 6 u)) 4 u (-1) := if_pos hb
        have h9 : E.1.1 0 u = 47 := by rw [(hlow 0 u h0 (Int.le_refl _))]; exact h47 u h0 (by omega) (by rw [← hlow 4 u h0 (Int.le_refl _)]; omega)
        have r8 := m_at8 hS hE.1 (u := u) ⟨h0, by omega, by omega⟩ h9
        have N1 := rN_set9 (z := -1) (rN_set3 (z := E.1.1 6 u) hE.1 (u := u) ⟨h0, by omega⟩ (by omega)) (u := u) ⟨h0, by show u ≤ E.1.2.1; omega⟩ (by show E.1.2.1 ≤ 200; omega)
        have M1_ : RepN (cN (M1 (M1 σ 110 (10 * u + 3) (E.1.1 6 u)) 110 (10 * u + 9) (-1))) (jdgS c false E.1 u, E.2) := by
          rw [eJ]
          refine RepN.row hE N1 ⟨by show 0 ≤ E.1.2.1; omega, by show E.1.2.1 ≤ 200; omega⟩ (fun x hx => by rw [cN_M1 (by omega) (by omega), if_neg (by omega), cN_M1 (by omega) (by omega), if_neg (by omega)])
        have F1 : FrN σ (M1 (M1 σ 110 (10 * u + 3) (E.1.1 6 u)) 110 (10 * u + 9) (-1)) := FrN.m1.trans FrN.m1
        have Mr : RepNr (cN (M1 (M1 σ 110 (10 * u + 3) (E.1.1 6 u)) 110 (10 * u + 9) (-1))) (jdgS c false E.1 u) := M1_.1
        have j2 : (jdgS c false E.1 u).1 2 u = E.1.1 2 u := jdgS_ne (by omega)
        have j3 : (jdgS c false E.1 u).1 3 u = E.1.1 3 u := jdgS_ne (by omega)
        have jn : (jdgS c false E.1 u).2 = E.1.2 := jdgS_n
        have jn1 : (jdgS c false E.1 u).2.1 = E.1.2.1 := by rw [jn]
        have jw : RowW (jdgS c false E.1 u) := by unfold RowW; rw [jn]; exact hW
        have jlow : ∀ w i, 0 ≤ i → i ≤ u - 1 → (jdgS c false E.1 u).1 w i = D.1.1 w i := fun w i i0 i1 => by rw [jdgS_ne (by omega)]; exact hlow w i i0 (by omega)
        have un : u < D.1.2.1 := by
          rcases Int.lt_or_eq_of_le hu with q | q
          · exact q
          · exfalso; have q2 := hlow 2 u h0 (Int.le_refl _); have q3 := hlow 3 u h0 (Int.le_refl _); rw [q] at q2 q3 hw he; rw [q2, hl2.1] at hw; rw [q3, hl2.2] at he; omega
        obtain ⟨σ2, cl, F2, C2, N2⟩ := m_closes (σ := (M1 (M1 σ 110 (10 * u + 3) (E.1.1 6 u)) 110 (10 * u + 9) (-1))) hS Mr jw (u := u) ⟨h0, by omega⟩
        have eF : jdgF c false E.1 u = drpR (jdgS c false E.1 u) u := if_pos (Or.inl ⟨hw, rfl⟩)
        rw [eF]
        refine ⟨σ2, ⟨M1_.row N2 ⟨by show 0 ≤ (jdgS c false E.1 u).2.1 - 1; omega, by show (jdgS c false E.1 u).2.1 - 1 ≤ 200; omega⟩ C2, hF.trans (F1.trans F2), jw.drp ⟨h0, by omega⟩, by omega, by omega, by show u - 1 ≤ (jdgS c false E.1 u).2.1 - 1; omega, fun q => by show u - 1 < (jdgS c false E.1 u).2.1 - 1; omega, fun w i i0 i1 => ?_⟩, fun b out K v5 v6 => ?_⟩
        · show (if i < u then _ else _) = _; rw [if_pos (by omega)]; exact jlow w i i0 i1
        · skip
          refine go_iload (at_of tX10_judges 0 7 rfl) rfl rfl ?_
          refine go_if_lt (tgt := 182) (at_of tX10_judges 0 8 rfl) (by decide) (fun h14 => ?_) (fun h14 => ?_)
          · exfalso; omega
          refine go_aload_n (at_of tX10_judges 0 9 rfl) rfl ?_
          refine go_iload (at_of tX10_judges 0 10 rfl) rfl rfl ?_
          refine go_iconst (at_of tX10_judges 0 11 rfl) (by unfold in32; omega) ?_
          refine go_cV (r1) lk_X10_106 rfl G_109 (at_of tX10_judges 0 12 rfl) rfl (by decide) rfl (Nat.le_of_ble_eq_true rfl) rfl (by first | decide | exact ⟨Nat.zero_le _, Nat.zero_le _⟩) ?_
          refine go_iload_n (at_of tX10_judges 0 13 rfl) rfl ?_
          refine go_icmp_ne (tgt := 32) (at_of tX10_judges 0 14 rfl) (by decide) (fun h25 => ?_) (fun h25 => ?_)
          · exfalso; omega
          refine go_iconst (at_of tX10_judges 0 15 rfl) (by unfold in32; omega) ?_
          refine go_goto (tgt := 33) (at_of tX10_judges 1 0 rfl) (by decide) ?_
          refine go_istore (at_of tX10_judges 1 2 rfl) rfl rfl ?_
          refine go_aload_n (at_of tX10_judges 1 3 rfl) rfl ?_
          refine go_iload (at_of tX10_judges 1 4 rfl) rfl rfl ?_
          refine go_iconst (at_of tX10_judges 1 5 rfl) (by unfold in32; omega) ?_
          refine go_cV (r2) lk_X10_106 rfl G_109 (at_of tX10_judges 1 6 rfl) rfl (by decide) rfl (Nat.le_of_ble_eq_true rfl) rfl (by first | decide | exact ⟨Nat.zero_le _, Nat.zero_le _⟩) ?_
          refine go_iload_n (at_of tX10_judges 1 7 rfl) rfl ?_
          refine go_icmp_ne (tgt := 50) (at_of tX10_judges 1 8 rfl) (by decide) (fun h43 => ?_) (fun h43 => ?_)
          rotate_left
          · exfalso; omega
          refine go_iconst (at_of tX10_judges 1 11 rfl) (by unfold in32; omega) ?_
          refine go_istore (at_of tX10_judges 1 12 rfl) rfl rfl ?_
          refine go_aload_n (at_of tX10_judges 1 13 rfl) rfl ?_
          refine go_iload (at_of tX10_judges 1 14 rfl) rfl rfl ?_
          refine go_bipush (at_of tX10_judges 1 15 rfl) (by decide) ?_
          refine go_cV (r9) lk_X10_106 rfl G_109 (at_of tX10_judges 2 0 rfl) rfl (by decide) rfl (Nat.le_of_ble_eq_true rfl) rfl (by first | decide | exact ⟨Nat.zero_le _, Nat.zero_le _⟩) ?_
          refine go_iload_n (at_of tX10_judges 2 1 rfl) rfl ?_
          refine go_icmp_ne (tgt := 103) (at_of tX10_judges 2 2 rfl) (by decide) (fun h62 => ?_) (fun h62 => ?_)
          · exfalso; omega
          refine go_aload_n (at_of tX10_judges 2 3 rfl) rfl ?_
          refine go_iload (at_of tX10_judges 2 4 rfl) rfl rfl ?_
          refine go_iconst (at_of tX10_judges 2 5 rfl) (by unfold in32; omega) ?_
          refine go_iload_n (at_of tX10_judges 2 6 rfl) rfl ?_
          refine go_if_eq (tgt := 83) (at_of tX10_judges 2 7 rfl) (by decide) (fun h70 => ?_) (fun h70 => ?_)
          rotate_left
          · exfalso; exact h70 rfl
          refine go_aload_n (at_of tX10_judges 2 13 rfl) rfl ?_
          refine go_iload (at_of tX10_judges 2 14 rfl) rfl rfl ?_
          refine go_bipush (at_of tX10_judges 2 15 rfl) (by decide) ?_
          refine go_cV (r8) lk_X10_106 rfl G_109 (at_of tX10_judges 3 0 rfl) rfl (by decide) rfl (Nat.le_of_ble_eq_true rfl) rfl (by first | decide | exact ⟨Nat.zero_le _, Nat.zero_le _⟩) ?_
          refine go_cV (m_setAt hS (by omega)) lk_X10_99 rfl G_109 (at_of tX10_judges 3 1 rfl) rfl (by decide) rfl (Nat.le_of_ble_eq_true rfl) rfl (by first | decide | exact ⟨Nat.zero_le _, Nat.zero_le _⟩) ?_
          refine go_aload_n (at_of tX10_judges 3 2 rfl) rfl ?_
          refine go_iload (at_of tX10_judges 3 3 rfl) rfl rfl ?_
          refine go_bipush (at_of tX10_judges 3 4 rfl) (by decide) ?_
          refine go_iconst (at_of tX10_judges 3 5 rfl) (by unfold in32; omega) ?_
          refine go_cV (m_setAt (by exact hS) (by omega)) lk_X10_99 rfl G_109 (at_of tX10_judges 3 6 rfl) rfl (by decide) rfl (Nat.le_of_ble_eq_true rfl) rfl (by first | decide | exact ⟨Nat.zero_le _, Nat.zero_le _⟩) ?_
          refine go_iload (at_of tX10_judges 3 7 rfl) rfl rfl ?_
          refine go_if_eq (tgt := 112) (at_of tX10_judges 3 8 rfl) (by decide) (fun h105 => ?_) (fun h105 => ?_)
          · exfalso; omega
          refine go_iload_n (at_of tX10_judges 3 9 rfl) rfl ?_
          refine go_if_eq (tgt := 121) (at_of tX10_judges 3 10 rfl) (by decide) (fun h109 => ?_) (fun h109 => ?_)
          rotate_left
          · exfalso; exact h109 rfl
          refine go_aload_n (at_of tX10_judges 3 15 rfl) rfl ?_
          refine go_iload (at_of tX10_judges 4 0 rfl) rfl rfl ?_
          refine go_cV (cl) lk_X10_200 rfl G_109 (at_of tX10_judges 4 1 rfl) rfl (by decide) rfl (Nat.le_of_ble_eq_true rfl) rfl (by first | decide | exact ⟨Nat.zero_le _, Nat.zero_le _⟩) ?_
          refine go_goto (tgt := 176) (at_of tX10_judges 4 2 rfl) (by decide) ?_
          refine go_iinc (at_of tX10_judges 5 11 rfl) rfl (by unfold in32; omega) rfl rfl ?_
          refine go_goto (tgt := 12) (at_of tX10_judges 5 12 rfl) (by decide) ?_
          exact K _ _ _
      · skip
        have eJ : jdgS c false E.1 u = E.1 := if_neg hb
        have M1_ : RepN (cN σ) (jdgS c false E.1 u, E.2) := by rw [eJ]; exact hE
        have F1 : FrN σ σ := FrN.refl
        have Mr : RepNr (cN σ) (jdgS c false E.1 u) := M1_.1
        have j2 : (jdgS c false E.1 u).1 2 u = E.1.1 2 u := jdgS_ne (by omega)
        have j3 : (jdgS c false E.1 u).1 3 u = E.1.1 3 u := jdgS_ne (by omega)
        have jn : (jdgS c false E.1 u).2 = E.1.2 := jdgS_n
        have jn1 : (jdgS c false E.1 u).2.1 = E.1.2.1 := by rw [jn]
        have jw : RowW (jdgS c false E.1 u) := by unfold RowW; rw [jn]; exact hW
        have jlow : ∀ w i, 0 ≤ i → i ≤ u - 1 → (jdgS c false E.1 u).1 w i = D.1.1 w i := fun w i i0 i1 => by rw [jdgS_ne (by omega)]; exact hlow w i i0 (by omega)
        have un : u < D.1.2.1 := by
          rcases Int.lt_or_eq_of_le hu with q | q
          · exact q
          · exfalso; have q2 := hlow 2 u h0 (Int.le_refl _); have q3 := hlow 3 u h0 (Int.le_refl _); rw [q] at q2 q3 hw he; rw [q2, hl2.1] at hw; rw [q3, hl2.2] at he; omega
        obtain ⟨σ2, cl, F2, C2, N2⟩ := m_closes (σ := σ) hS Mr jw (u := u) ⟨h0, by omega⟩
        have eF : jdgF c false E.1 u = drpR (jdgS c false E.1 u) u := if_pos (Or.inl ⟨hw, rfl⟩)
        rw [eF]
        refine ⟨σ2, ⟨M1_.row N2 ⟨by show 0 ≤ (jdgS c false E.1 u).2.1 - 1; omega, by show (jdgS c false E.1 u).2.1 - 1 ≤ 200; omega⟩ C2, hF.trans (F1.trans F2), jw.drp ⟨h0, by omega⟩, by omega, by omega, by show u - 1 ≤ (jdgS c false E.1 u).2.1 - 1; omega, fun q => by show u - 1 < (jdgS c false E.1 u).2.1 - 1; omega, fun w i i0 i1 => ?_⟩, fun b out K v5 v6 => ?_⟩
        · show (if i < u then _ else _) = _; rw [if_pos (by omega)]; exact jlow w i i0 i1
        · skip
          refine go_iload (at_of tX10_judges 0 7 rfl) rfl rfl ?_
          refine go_if_lt (tgt := 182) (at_of tX10_judges 0 8 rfl) (by decide) (fun h14 => ?_) (fun h14 => ?_)
          · exfalso; omega
          refine go_aload_n (at_of tX10_judges 0 9 rfl) rfl ?_
          refine go_iload (at_of tX10_judges 0 10 rfl) rfl rfl ?_
          refine go_iconst (at_of tX10_judges 0 11 rfl) (by unfold in32; omega) ?_
          refine go_cV (r1) lk_X10_106 rfl G_109 (at_of tX10_judges 0 12 rfl) rfl (by decide) rfl (Nat.le_of_ble_eq_true rfl) rfl (by first | decide | exact ⟨Nat.zero_le _, Nat.zero_le _⟩) ?_
          refine go_iload_n (at_of tX10_judges 0 13 rfl) rfl ?_
          refine go_icmp_ne (tgt := 32) (at_of tX10_judges 0 14 rfl) (by decide) (fun h25 => ?_) (fun h25 => ?_)
          · exfalso; omega
          refine go_iconst (at_of tX10_judges 0 15 rfl) (by unfold in32; omega) ?_
          refine go_goto (tgt := 33) (at_of tX10_judges 1 0 rfl) (by decide) ?_
          refine go_istore (at_of tX10_judges 1 2 rfl) rfl rfl ?_
          refine go_aload_n (at_of tX10_judges 1 3 rfl) rfl ?_
          refine go_iload (at_of tX10_judges 1 4 rfl) rfl rfl ?_
          refine go_iconst (at_of tX10_judges 1 5 rfl) (by unfold in32; omega) ?_
          refine go_cV (r2) lk_X10_106 rfl G_109 (at_of tX10_judges 1 6 rfl) rfl (by decide) rfl (Nat.le_of_ble_eq_true rfl) rfl (by first | decide | exact ⟨Nat.zero_le _, Nat.zero_le _⟩) ?_
          refine go_iload_n (at_of tX10_judges 1 7 rfl) rfl ?_
          refine go_icmp_ne (tgt := 50) (at_of tX10_judges 1 8 rfl) (by decide) (fun h43 => ?_) (fun h43 => ?_)
          rotate_left
          · exfalso; omega
          refine go_iconst (at_of tX10_judges 1 11 rfl) (by unfold in32; omega) ?_
          refine go_istore (at_of tX10_judges 1 12 rfl) rfl rfl ?_
          refine go_aload_n (at_of tX10_judges 1 13 rfl) rfl ?_
          refine go_iload (at_of tX10_judges 1 14 rfl) rfl rfl ?_
          refine go_bipush (at_of tX10_judges 1 15 rfl) (by decide) ?_
          refine go_cV (r9) lk_X10_106 rfl G_109 (at_of tX10_judges 2 0 rfl) rfl (by decide) rfl (Nat.le_of_ble_eq_true rfl) rfl (by first | decide | exact ⟨Nat.zero_le _, Nat.zero_le _⟩) ?_
          refine go_iload_n (at_of tX10_judges 2 1 rfl) rfl ?_
          refine go_icmp_ne (tgt := 103) (at_of tX10_judges 2 2 rfl) (by decide) (fun h62 => ?_) (fun h62 => ?_)
          rotate_left
          · exfalso; omega
          refine go_iload (at_of tX10_judges 3 7 rfl) rfl rfl ?_
          refine go_if_eq (tgt := 112) (at_of tX10_judges 3 8 rfl) (by decide) (fun h105 => ?_) (fun h105 => ?_)
          · exfalso; omega
          refine go_iload_n (at_of tX10_judges 3 9 rfl) rfl ?_
          refine go_if_eq (tgt := 121) (at_of tX10_judges 3 10 rfl) (by decide) (fun h109 => ?_) (fun h109 => ?_)
          rotate_left
          · exfalso; exact h109 rfl
          refine go_aload_n (at_of tX10_judges 3 15 rfl) rfl ?_
          refine go_iload (at_of tX10_judges 4 0 rfl) rfl rfl ?_
          refine go_cV (cl) lk_X10_200 rfl G_109 (at_of tX10_judges 4 1 rfl) rfl (by decide) rfl (Nat.le_of_ble_eq_true rfl) rfl (by first | decide | exact ⟨Nat.zero_le _, Nat.zero_le _⟩) ?_
          refine go_goto (tgt := 176) (at_of tX10_judges 4 2 rfl) (by decide) ?_
          refine go_iinc (at_of tX10_judges 5 11 rfl) rfl (by unfold in32; omega) rfl rfl ?_
          refine go_goto (tgt := 12) (at_of tX10_judges 5 12 rfl) (by decide) ?_
          exact K _ _ _
  · by_cases he : E.1.1 3 u = c
    · by_cases hb : E.1.1 4 u = c
      · skip
        have eJ : jdgS c false E.1 u = setR (setR E.1 5 u (E.1.1 6 u)) 4 u (-1) := if_pos hb
        have h9 : E.1.1 0 u = 47 := by rw [(hlow 0 u h0 (Int.le_refl _))]; exact h47 u h0 (by omega) (by rw [← hlow 4 u h0 (Int.le_refl _)]; omega)
        have r8 := m_at8 hS hE.1 (u := u) ⟨h0, by omega, by omega⟩ h9
        have N1 := rN_set9 (z := -1) (rN_set3 (z := E.1.1 6 u) hE.1 (u := u) ⟨h0, by omega⟩ (by omega)) (u := u) ⟨h0, by show u ≤ E.1.2.1; omega⟩ (by show E.1.2.1 ≤ 200; omega)
        have M1_ : RepN (cN (M1 (M1 σ 110 (10 * u + 3) (E.1.1 6 u)) 110 (10 * u + 9) (-1))) (jdgS c false E.1 u, E.2) := by
          rw [eJ]
          refine RepN.row hE N1 ⟨by show 0 ≤ E.1.2.1; omega, by show E.1.2.1 ≤ 200; omega⟩ (fun x hx => by rw [cN_M1 (by omega) (by omega), if_neg (by omega), cN_M1 (by omega) (by omega), if_neg (by omega)])
        have F1 : FrN σ (M1 (M1 σ 110 (10 * u + 3) (E.1.1 6 u)) 110 (10 * u + 9) (-1)) := FrN.m1.trans FrN.m1
        have Mr : RepNr (cN (M1 (M1 σ 110 (10 * u + 3) (E.1.1 6 u)) 110 (10 * u + 9) (-1))) (jdgS c false E.1 u) := M1_.1
        have j2 : (jdgS c false E.1 u).1 2 u = E.1.1 2 u := jdgS_ne (by omega)
        have j3 : (jdgS c false E.1 u).1 3 u = E.1.1 3 u := jdgS_ne (by omega)
        have jn : (jdgS c false E.1 u).2 = E.1.2 := jdgS_n
        have jn1 : (jdgS c false E.1 u).2.1 = E.1.2.1 := by rw [jn]
        have jw : RowW (jdgS c false E.1 u) := by unfold RowW; rw [jn]; exact hW
        have jlow : ∀ w i, 0 ≤ i → i ≤ u - 1 → (jdgS c false E.1 u).1 w i = D.1.1 w i := fun w i i0 i1 => by rw [jdgS_ne (by omega)]; exact hlow w i i0 (by omega)
        have s2 := m_setAt (σ := (M1 (M1 σ 110 (10 * u + 3) (E.1.1 6 u)) 110 (10 * u + 9) (-1))) hS (u := u) (p := 1) (z := (E.1.1 2 u)) (by omega)
        have s3 := m_setAt (σ := (M1 (M1 (M1 σ 110 (10 * u + 3) (E.1.1 6 u)) 110 (10 * u + 9) (-1)) 110 (10 * u + 1) (E.1.1 2 u))) hS (u := u) (p := 2) (z := (-1)) (by omega)
        have N2 := rN_set1 (z := (E.1.1 2 u)) Mr (u := u) ⟨h0, by omega⟩ (by omega)
        have N3 := rN_set2 (z := (-1)) N2 (u := u) ⟨h0, by show u ≤ (jdgS c false E.1 u).2.1; omega⟩ (by show (jdgS c false E.1 u).2.1 ≤ 200; omega)
        have r1b := m_at1 (σ := (M1 (M1 σ 110 (10 * u + 3) (E.1.1 6 u)) 110 (10 * u + 9) (-1))) hS Mr (u := u) ⟨h0, by omega, by omega⟩
        rw [j2] at r1b
        have eF : jdgF c false E.1 u = setR (setR (jdgS c false E.1 u) 2 u (E.1.1 2 u)) 3 u (-1) := by
          unfold jdgF
          rw [if_neg (fun q => by rcases q with q | q; exact hw q.1; exact absurd q.2 (by decide)), if_neg hw, if_pos he]
        rw [eF]
        refine ⟨(M1 (M1 (M1 (M1 σ 110 (10 * u + 3) (E.1.1 6 u)) 110 (10 * u + 9) (-1)) 110 (10 * u + 1) (E.1.1 2 u)) 110 (10 * u + 2) (-1)), ⟨M1_.row N3 ⟨by show 0 ≤ (jdgS c false E.1 u).2.1; omega, by show (jdgS c false E.1 u).2.1 ≤ 200; omega⟩ (fun x hx => by rw [cN_M1 (by omega) (by omega), if_neg (by omega), cN_M1 (by omega) (by omega), if_neg (by omega)]), hF.trans (F1.trans (FrN.m1.trans FrN.m1)), jw, by omega, by omega, by show u - 1 ≤ (jdgS c false E.1 u).2.1; omega, fun q => by show u - 1 < (jdgS c false E.1 u).2.1; omega, fun w i i0 i1 => ?_⟩, fun b out K v5 v6 => ?_⟩
        · rw [setR_ne (by omega), setR_ne (by omega)]; exact jlow w i i0 i1
        · skip
          refine go_iload (at_of tX10_judges 0 7 rfl) rfl rfl ?_
          refine go_if_lt (tgt := 182) (at_of tX10_judges 0 8 rfl) (by decide) (fun h14 => ?_) (fun h14 => ?_)
          · exfalso; omega
          refine go_aload_n (at_of tX10_judges 0 9 rfl) rfl ?_
          refine go_iload (at_of tX10_judges 0 10 rfl) rfl rfl ?_
          refine go_iconst (at_of tX10_judges 0 11 rfl) (by unfold in32; omega) ?_
          refine go_cV (r1) lk_X10_106 rfl G_109 (at_of tX10_judges 0 12 rfl) rfl (by decide) rfl (Nat.le_of_ble_eq_true rfl) rfl (by first | decide | exact ⟨Nat.zero_le _, Nat.zero_le _⟩) ?_
          refine go_iload_n (at_of tX10_judges 0 13 rfl) rfl ?_
          refine go_icmp_ne (tgt := 32) (at_of tX10_judges 0 14 rfl) (by decide) (fun h25 => ?_) (fun h25 => ?_)
          rotate_left
          · exfalso; omega
          refine go_iconst (at_of tX10_judges 1 1 rfl) (by unfold in32; omega) ?_
          refine go_istore (at_of tX10_judges 1 2 rfl) rfl rfl ?_
          refine go_aload_n (at_of tX10_judges 1 3 rfl) rfl ?_
          refine go_iload (at_of tX10_judges 1 4 rfl) rfl rfl ?_
          refine go_iconst (at_of tX10_judges 1 5 rfl) (by unfold in32; omega) ?_
          refine go_cV (r2) lk_X10_106 rfl G_109 (at_of tX10_judges 1 6 rfl) rfl (by decide) rfl (Nat.le_of_ble_eq_true rfl) rfl (by first | decide | exact ⟨Nat.zero_le _, Nat.zero_le _⟩) ?_
          refine go_iload_n (at_of tX10_judges 1 7 rfl) rfl ?_
          refine go_icmp_ne (tgt := 50) (at_of tX10_judges 1 8 rfl) (by decide) (fun h43 => ?_) (fun h43 => ?_)
          · exfalso; omega
          refine go_iconst (at_of tX10_judges 1 9 rfl) (by unfold in32; omega) ?_
          refine go_goto (tgt := 51) (at_of tX10_judges 1 10 rfl) (by decide) ?_
          refine go_istore (at_of tX10_judges 1 12 rfl) rfl rfl ?_
          refine go_aload_n (at_of tX10_judges 1 13 rfl) rfl ?_
          refine go_iload (at_of tX10_judges 1 14 rfl) rfl rfl ?_
          refine go_bipush (at_of tX10_judges 1 15 rfl) (by decide) ?_
          refine go_cV (r9) lk_X10_106 rfl G_109 (at_of tX10_judges 2 0 rfl) rfl (by decide) rfl (Nat.le_of_ble_eq_true rfl) rfl (by first | decide | exact ⟨Nat.zero_le _, Nat.zero_le _⟩) ?_
          refine go_iload_n (at_of tX10_judges 2 1 rfl) rfl ?_
          refine go_icmp_ne (tgt := 103) (at_of tX10_judges 2 2 rfl) (by decide) (fun h62 => ?_) (fun h62 => ?_)
          · exfalso; omega
          refine go_aload_n (at_of tX10_judges 2 3 rfl) rfl ?_
          refine go_iload (at_of tX10_judges 2 4 rfl) rfl rfl ?_
          refine go_iconst (at_of tX10_judges 2 5 rfl) (by unfold in32; omega) ?_
          refine go_iload_n (at_of tX10_judges 2 6 rfl) rfl ?_
          refine go_if_eq (tgt := 83) (at_of tX10_judges 2 7 rfl) (by decide) (fun h70 => ?_) (fun h70 => ?_)
          rotate_left
          · exfalso; exact h70 rfl
          refine go_aload_n (at_of tX10_judges 2 13 rfl) rfl ?_
          refine go_iload (at_of tX10_judges 2 14 rfl) rfl rfl ?_
          refine go_bipush (at_of tX10_judges 2 15 rfl) (by decide) ?_
          refine go_cV (r8) lk_X10_106 rfl G_109 (at_of tX10_judges 3 0 rfl) rfl (by decide) rfl (Nat.le_of_ble_eq_true rfl) rfl (by first | decide | exact ⟨Nat.zero_le _, Nat.zero_le _⟩) ?_
          refine go_cV (m_setAt hS (by omega)) lk_X10_99 rfl G_109 (at_of tX10_judges 3 1 rfl) rfl (by decide) rfl (Nat.le_of_ble_eq_true rfl) rfl (by first | decide | exact ⟨Nat.zero_le _, Nat.zero_le _⟩) ?_
          refine go_aload_n (at_of tX10_judges 3 2 rfl) rfl ?_
          refine go_iload (at_of tX10_judges 3 3 rfl) rfl rfl ?_
          refine go_bipush (at_of tX10_judges 3 4 rfl) (by decide) ?_
          refine go_iconst (at_of tX10_judges 3 5 rfl) (by unfold in32; omega) ?_
          refine go_cV (m_setAt (by exact hS) (by omega)) lk_X10_99 rfl G_109 (at_of tX10_judges 3 6 rfl) rfl (by decide) rfl (Nat.le_of_ble_eq_true rfl) rfl (by first | decide | exact ⟨Nat.zero_le _, Nat.zero_le _⟩) ?_
          refine go_iload (at_of tX10_judges 3 7 rfl) rfl rfl ?_
          refine go_if_eq (tgt := 112) (at_of tX10_judges 3 8 rfl) (by decide) (fun h105 => ?_) (fun h105 => ?_)
          rotate_left
          · exfalso; omega
          refine go_iload (at_of tX10_judges 3 11 rfl) rfl rfl ?_
          refine go_if_eq (tgt := 130) (at_of tX10_judges 3 12 rfl) (by decide) (fun h114 => ?_) (fun h114 => ?_)
          · exfalso; omega
          refine go_iload_n (at_of tX10_judges 3 13 rfl) rfl ?_
          refine go_if_eq (tgt := 130) (at_of tX10_judges 3 14 rfl) (by decide) (fun h118 => ?_) (fun h118 => ?_)
          rotate_left
          · exfalso; exact h118 rfl
          refine go_aload_n (at_of tX10_judges 4 3 rfl) rfl ?_
          refine go_iload (at_of tX10_judges 4 4 rfl) rfl rfl ?_
          refine go_iconst (at_of tX10_judges 4 5 rfl) (by unfold in32; omega) ?_
          refine go_iload (at_of tX10_judges 4 6 rfl) rfl rfl ?_
          refine go_if_eq (tgt := 143) (at_of tX10_judges 4 7 rfl) (by decide) (fun h136 => ?_) (fun h136 => ?_)
          rotate_left
          · exfalso; omega
          refine go_aload_n (at_of tX10_judges 4 10 rfl) rfl ?_
          refine go_iload (at_of tX10_judges 4 11 rfl) rfl rfl ?_
          refine go_iconst (at_of tX10_judges 4 12 rfl) (by unfold in32; omega) ?_
          refine go_cV (r1b) lk_X10_106 rfl G_109 (at_of tX10_judges 4 13 rfl) rfl (by decide) rfl (Nat.le_of_ble_eq_true rfl) rfl (by first | decide | exact ⟨Nat.zero_le _, Nat.zero_le _⟩) ?_
          refine go_cV (s2) lk_X10_99 rfl G_109 (at_of tX10_judges 4 14 rfl) rfl (by decide) rfl (Nat.le_of_ble_eq_true rfl) rfl (by first | decide | exact ⟨Nat.zero_le _, Nat.zero_le _⟩) ?_
          refine go_aload_n (at_of tX10_judges 4 15 rfl) rfl ?_
          refine go_iload (at_of tX10_judges 5 0 rfl) rfl rfl ?_
          refine go_iconst (at_of tX10_judges 5 1 rfl) (by unfold in32; omega) ?_
          refine go_iload (at_of tX10_judges 5 2 rfl) rfl rfl ?_
          refine go_if_eq (tgt := 166) (at_of tX10_judges 5 3 rfl) (by decide) (fun h159 => ?_) (fun h159 => ?_)
          · exfalso; omega
          refine go_iconst (at_of tX10_judges 5 4 rfl) (by unfold in32; omega) ?_
          refine go_goto (tgt := 173) (at_of tX10_judges 5 5 rfl) (by decide) ?_
          refine go_cV (s3) lk_X10_99 rfl G_109 (at_of tX10_judges 5 10 rfl) rfl (by decide) rfl (Nat.le_of_ble_eq_true rfl) rfl (by first | decide | exact ⟨Nat.zero_le _, Nat.zero_le _⟩) ?_
          refine go_iinc (at_of tX10_judges 5 11 rfl) rfl (by unfold in32; omega) rfl rfl ?_
          refine go_goto (tgt := 12) (at_of tX10_judges 5 12 rfl) (by decide) ?_
          exact K _ _ _
      · skip
        have eJ : jdgS c false E.1 u = E.1 := if_neg hb
        have M1_ : RepN (cN σ) (jdgS c false E.1 u, E.2) := by rw [eJ]; exact hE
        have F1 : FrN σ σ := FrN.refl
        have Mr : RepNr (cN σ) (jdgS c false E.1 u) := M1_.1
        have j2 : (jdgS c false E.1 u).1 2 u = E.1.1 2 u := jdgS_ne (by omega)
        have j3 : (jdgS c false E.1 u).1 3 u = E.1.1 3 u := jdgS_ne (by omega)
        have jn : (jdgS c false E.1 u).2 = E.1.2 := jdgS_n
        have jn1 : (jdgS c false E.1 u).2.1 = E.1.2.1 := by rw [jn]
        have jw : RowW (jdgS c false E.1 u) := by unfold RowW; rw [jn]; exact hW
        have jlow : ∀ w i, 0 ≤ i → i ≤ u - 1 → (jdgS c false E.1 u).1 w i = D.1.1 w i := fun w i i0 i1 => by rw [jdgS_ne (by omega)]; exact hlow w i i0 (by omega)
        have s2 := m_setAt (σ := σ) hS (u := u) (p := 1) (z := (E.1.1 2 u)) (by omega)
        have s3 := m_setAt (σ := (M1 σ 110 (10 * u + 1) (E.1.1 2 u))) hS (u := u) (p := 2) (z := (-1)) (by omega)
        have N2 := rN_set1 (z := (E.1.1 2 u)) Mr (u := u) ⟨h0, by omega⟩ (by omega)
        have N3 := rN_set2 (z := (-1)) N2 (u := u) ⟨h0, by show u ≤ (jdgS c false E.1 u).2.1; omega⟩ (by show (jdgS c false E.1 u).2.1 ≤ 200; omega)
        have r1b := m_at1 (σ := σ) hS Mr (u := u) ⟨h0, by omega, by omega⟩
        rw [j2] at r1b
        have eF : jdgF c false E.1 u = setR (setR (jdgS c false E.1 u) 2 u (E.1.1 2 u)) 3 u (-1) := by
          unfold jdgF
          rw [if_neg (fun q => by rcases q with q | q; exact hw q.1; exact absurd q.2 (by decide)), if_neg hw, if_pos he]
        rw [eF]
        refine ⟨(M1 (M1 σ 110 (10 * u + 1) (E.1.1 2 u)) 110 (10 * u + 2) (-1)), ⟨M1_.row N3 ⟨by show 0 ≤ (jdgS c false E.1 u).2.1; omega, by show (jdgS c false E.1 u).2.1 ≤ 200; omega⟩ (fun x hx => by rw [cN_M1 (by omega) (by omega), if_neg (by omega), cN_M1 (by omega) (by omega), if_neg (by omega)]), hF.trans (F1.trans (FrN.m1.trans FrN.m1)), jw, by omega, by omega, by show u - 1 ≤ (jdgS c false E.1 u).2.1; omega, fun q => by show u - 1 < (jdgS c false E.1 u).2.1; omega, fun w i i0 i1 => ?_⟩, fun b out K v5 v6 => ?_⟩
        · rw [setR_ne (by omega), setR_ne (by omega)]; exact jlow w i i0 i1
        · skip
          refine go_iload (at_of tX10_judges 0 7 rfl) rfl rfl ?_
          refine go_if_lt (tgt := 182) (at_of tX10_judges 0 8 rfl) (by decide) (fun h14 => ?_) (fun h14 => ?_)
          · exfalso; omega
          refine go_aload_n (at_of tX10_judges 0 9 rfl) rfl ?_
          refine go_iload (at_of tX10_judges 0 10 rfl) rfl rfl ?_
          refine go_iconst (at_of tX10_judges 0 11 rfl) (by unfold in32; omega) ?_
          refine go_cV (r1) lk_X10_106 rfl G_109 (at_of tX10_judges 0 12 rfl) rfl (by decide) rfl (Nat.le_of_ble_eq_true rfl) rfl (by first | decide | exact ⟨Nat.zero_le _, Nat.zero_le _⟩) ?_
          refine go_iload_n (at_of tX10_judges 0 13 rfl) rfl ?_
          refine go_icmp_ne (tgt := 32) (at_of tX10_judges 0 14 rfl) (by decide) (fun h25 => ?_) (fun h25 => ?_)
          rotate_left
          · exfalso; omega
          refine go_iconst (at_of tX10_judges 1 1 rfl) (by unfold in32; omega) ?_
          refine go_istore (at_of tX10_judges 1 2 rfl) rfl rfl ?_
          refine go_aload_n (at_of tX10_judges 1 3 rfl) rfl ?_
          refine go_iload (at_of tX10_judges 1 4 rfl) rfl rfl ?_
          refine go_iconst (at_of tX10_judges 1 5 rfl) (by unfold in32; omega) ?_
          refine go_cV (r2) lk_X10_106 rfl G_109 (at_of tX10_judges 1 6 rfl) rfl (by decide) rfl (Nat.le_of_ble_eq_true rfl) rfl (by first | decide | exact ⟨Nat.zero_le _, Nat.zero_le _⟩) ?_
          refine go_iload_n (at_of tX10_judges 1 7 rfl) rfl ?_
          refine go_icmp_ne (tgt := 50) (at_of tX10_judges 1 8 rfl) (by decide) (fun h43 => ?_) (fun h43 => ?_)
          · exfalso; omega
          refine go_iconst (at_of tX10_judges 1 9 rfl) (by unfold in32; omega) ?_
          refine go_goto (tgt := 51) (at_of tX10_judges 1 10 rfl) (by decide) ?_
          refine go_istore (at_of tX10_judges 1 12 rfl) rfl rfl ?_
          refine go_aload_n (at_of tX10_judges 1 13 rfl) rfl ?_
          refine go_iload (at_of tX10_judges 1 14 rfl) rfl rfl ?_
          refine go_bipush (at_of tX10_judges 1 15 rfl) (by decide) ?_
          refine go_cV (r9) lk_X10_106 rfl G_109 (at_of tX10_judges 2 0 rfl) rfl (by decide) rfl (Nat.le_of_ble_eq_true rfl) rfl (by first | decide | exact ⟨Nat.zero_le _, Nat.zero_le _⟩) ?_
          refine go_iload_n (at_of tX10_judges 2 1 rfl) rfl ?_
          refine go_icmp_ne (tgt := 103) (at_of tX10_judges 2 2 rfl) (by decide) (fun h62 => ?_) (fun h62 => ?_)
          rotate_left
          · exfalso; omega
          refine go_iload (at_of tX10_judges 3 7 rfl) rfl rfl ?_
          refine go_if_eq (tgt := 112) (at_of tX10_judges 3 8 rfl) (by decide) (fun h105 => ?_) (fun h105 => ?_)
          rotate_left
          · exfalso; omega
          refine go_iload (at_of tX10_judges 3 11 rfl) rfl rfl ?_
          refine go_if_eq (tgt := 130) (at_of tX10_judges 3 12 rfl) (by decide) (fun h114 => ?_) (fun h114 => ?_)
          · exfalso; omega
          refine go_iload_n (at_of tX10_judges 3 13 rfl) rfl ?_
          refine go_if_eq (tgt := 130) (at_of tX10_judges 3 14 rfl) (by decide) (fun h118 => ?_) (fun h118 => ?_)
          rotate_left
          · exfalso; exact h118 rfl
          refine go_aload_n (at_of tX10_judges 4 3 rfl) rfl ?_
          refine go_iload (at_of tX10_judges 4 4 rfl) rfl rfl ?_
          refine go_iconst (at_of tX10_judges 4 5 rfl) (by unfold in32; omega) ?_
          refine go_iload (at_of tX10_judges 4 6 rfl) rfl rfl ?_
          refine go_if_eq (tgt := 143) (at_of tX10_judges 4 7 rfl) (by decide) (fun h136 => ?_) (fun h136 => ?_)
          rotate_left
          · exfalso; omega
          refine go_aload_n (at_of tX10_judges 4 10 rfl) rfl ?_
          refine go_iload (at_of tX10_judges 4 11 rfl) rfl rfl ?_
          refine go_iconst (at_of tX10_judges 4 12 rfl) (by unfold in32; omega) ?_
          refine go_cV (r1b) lk_X10_106 rfl G_109 (at_of tX10_judges 4 13 rfl) rfl (by decide) rfl (Nat.le_of_ble_eq_true rfl) rfl (by first | decide | exact ⟨Nat.zero_le _, Nat.zero_le _⟩) ?_
          refine go_cV (s2) lk_X10_99 rfl G_109 (at_of tX10_judges 4 14 rfl) rfl (by decide) rfl (Nat.le_of_ble_eq_true rfl) rfl (by first | decide | exact ⟨Nat.zero_le _, Nat.zero_le _⟩) ?_
          refine go_aload_n (at_of tX10_judges 4 15 rfl) rfl ?_
          refine go_iload (at_of tX10_judges 5 0 rfl) rfl rfl ?_
          refine go_iconst (at_of tX10_judges 5 1 rfl) (by unfold in32; omega) ?_
          refine go_iload (at_of tX10_judges 5 2 rfl) rfl rfl ?_
          refine go_if_eq (tgt := 166) (at_of tX10_judges 5 3 rfl) (by decide) (fun h159 => ?_) (fun h159 => ?_)
          · exfalso; omega
          refine go_iconst (at_of tX10_judges 5 4 rfl) (by unfold in32; omega) ?_
          refine go_goto (tgt := 173) (at_of tX10_judges 5 5 rfl) (by decide) ?_
          refine go_cV (s3) lk_X10_99 rfl G_109 (at_of tX10_judges 5 10 rfl) rfl (by decide) rfl (Nat.le_of_ble_eq_true rfl) rfl (by first | decide | exact ⟨Nat.zero_le _, Nat.zero_le _⟩) ?_
          refine go_iinc (at_of tX10_judges 5 11 rfl) rfl (by unfold in32; omega) rfl rfl ?_
          refine go_goto (tgt := 12) (at_of tX10_judges 5 12 rfl) (by decide) ?_
          exact K _ _ _
    · by_cases hb : E.1.1 4 u = c
      · skip
        have eJ : jdgS c false E.1 u = setR (setR E.1 5 u (E.1.1 6 u)) 4 u (-1) := if_pos hb
        have h9 : E.1.1 0 u = 47 := by rw [(hlow 0 u h0 (Int.le_refl _))]; exact h47 u h0 (by omega) (by rw [← hlow 4 u h0 (Int.le_refl _)]; omega)
        have r8 := m_at8 hS hE.1 (u := u) ⟨h0, by omega, by omega⟩ h9
        have N1 := rN_set9 (z := -1) (rN_set3 (z := E.1.1 6 u) hE.1 (u := u) ⟨h0, by omega⟩ (by omega)) (u := u) ⟨h0, by show u ≤ E.1.2.1; omega⟩ (by show E.1.2.1 ≤ 200; omega)
        have M1_ : RepN (cN (M1 (M1 σ 110 (10 * u + 3) (E.1.1 6 u)) 110 (10 * u + 9) (-1))) (jdgS c false E.1 u, E.2) := by
          rw [eJ]
          refine RepN.row hE N1 ⟨by show 0 ≤ E.1.2.1; omega, by show E.1.2.1 ≤ 200; omega⟩ (fun x hx => by rw [cN_M1 (by omega) (by omega), if_neg (by omega), cN_M1 (by omega) (by omega), if_neg (by omega)])
        have F1 : FrN σ (M1 (M1 σ 110 (10 * u + 3) (E.1.1 6 u)) 110 (10 * u + 9) (-1)) := FrN.m1.trans FrN.m1
        have Mr : RepNr (cN (M1 (M1 σ 110 (10 * u + 3) (E.1.1 6 u)) 110 (10 * u + 9) (-1))) (jdgS c false E.1 u) := M1_.1
        have j2 : (jdgS c false E.1 u).1 2 u = E.1.1 2 u := jdgS_ne (by omega)
        have j3 : (jdgS c false E.1 u).1 3 u = E.1.1 3 u := jdgS_ne (by omega)
        have jn : (jdgS c false E.1 u).2 = E.1.2 := jdgS_n
        have jn1 : (jdgS c false E.1 u).2.1 = E.1.2.1 := by rw [jn]
        have jw : RowW (jdgS c false E.1 u) := by unfold RowW; rw [jn]; exact hW
        have jlow : ∀ w i, 0 ≤ i → i ≤ u - 1 → (jdgS c false E.1 u).1 w i = D.1.1 w i := fun w i i0 i1 => by rw [jdgS_ne (by omega)]; exact hlow w i i0 (by omega)
        have s2 := m_setAt (σ := (M1 (M1 σ 110 (10 * u + 3) (E.1.1 6 u)) 110 (10 * u + 9) (-1))) hS (u := u) (p := 1) (z := (E.1.1 2 u)) (by omega)
        have s3 := m_setAt (σ := (M1 (M1 (M1 σ 110 (10 * u + 3) (E.1.1 6 u)) 110 (10 * u + 9) (-1)) 110 (10 * u + 1) (E.1.1 2 u))) hS (u := u) (p := 2) (z := (E.1.1 3 u)) (by omega)
        have N2 := rN_set1 (z := (E.1.1 2 u)) Mr (u := u) ⟨h0, by omega⟩ (by omega)
        have N3 := rN_set2 (z := (E.1.1 3 u)) N2 (u := u) ⟨h0, by show u ≤ (jdgS c false E.1 u).2.1; omega⟩ (by show (jdgS c false E.1 u).2.1 ≤ 200; omega)
        have r1b := m_at1 (σ := (M1 (M1 σ 110 (10 * u + 3) (E.1.1 6 u)) 110 (10 * u + 9) (-1))) hS Mr (u := u) ⟨h0, by omega, by omega⟩
        rw [j2] at r1b
        have r2b := m_at2 (σ := (M1 (M1 (M1 σ 110 (10 * u + 3) (E.1.1 6 u)) 110 (10 * u + 9) (-1)) 110 (10 * u + 1) (E.1.1 2 u))) hS N2 (u := u) ⟨h0, by show u ≤ (jdgS c false E.1 u).2.1; omega, by show (jdgS c false E.1 u).2.1 ≤ 200; omega⟩
        rw [setR_ne (by omega), j3] at r2b
        have eF : jdgF c false E.1 u = setR (setR (jdgS c false E.1 u) 2 u (E.1.1 2 u)) 3 u (E.1.1 3 u) := by
          unfold jdgF
          rw [if_neg (fun q => by rcases q with q | q; exact hw q.1; exact absurd q.2 (by decide)), if_neg hw, if_neg he]
        rw [eF]
        refine ⟨(M1 (M1 (M1 (M1 σ 110 (10 * u + 3) (E.1.1 6 u)) 110 (10 * u + 9) (-1)) 110 (10 * u + 1) (E.1.1 2 u)) 110 (10 * u + 2) (E.1.1 3 u)), ⟨M1_.row N3 ⟨by show 0 ≤ (jdgS c false E.1 u).2.1; omega, by show (jdgS c false E.1 u).2.1 ≤ 200; omega⟩ (fun x hx => by rw [cN_M1 (by omega) (by omega), if_neg (by omega), cN_M1 (by omega) (by omega), if_neg (by omega)]), hF.trans (F1.trans (FrN.m1.trans FrN.m1)), jw, by omega, by omega, by show u - 1 ≤ (jdgS c false E.1 u).2.1; omega, fun q => by show u - 1 < (jdgS c false E.1 u).2.1; omega, fun w i i0 i1 => ?_⟩, fun b out K v5 v6 => ?_⟩
        · rw [setR_ne (by omega), setR_ne (by omega)]; exact jlow w i i0 i1
        · skip
          refine go_iload (at_of tX10_judges 0 7 rfl) rfl rfl ?_
          refine go_if_lt (tgt := 182) (at_of tX10_judges 0 8 rfl) (by decide) (fun h14 => ?_) (fun h14 => ?_)
          · exfalso; omega
          refine go_aload_n (at_of tX10_judges 0 9 rfl) rfl ?_
          refine go_iload (at_of tX10_judges 0 10 rfl) rfl rfl ?_
          refine go_iconst (at_of tX10_judges 0 11 rfl) (by unfold in32; omega) ?_
          refine go_cV (r1) lk_X10_106 rfl G_109 (at_of tX10_judges 0 12 rfl) rfl (by decide) rfl (Nat.le_of_ble_eq_true rfl) rfl (by first | decide | exact ⟨Nat.zero_le _, Nat.zero_le _⟩) ?_
          refine go_iload_n (at_of tX10_judges 0 13 rfl) rfl ?_
          refine go_icmp_ne (tgt := 32) (at_of tX10_judges 0 14 rfl) (by decide) (fun h25 => ?_) (fun h25 => ?_)
          rotate_left
          · exfalso; omega
          refine go_iconst (at_of tX10_judges 1 1 rfl) (by unfold in32; omega) ?_
          refine go_istore (at_of tX10_judges 1 2 rfl) rfl rfl ?_
          refine go_aload_n (at_of tX10_judges 1 3 rfl) rfl ?_
          refine go_iload (at_of tX10_judges 1 4 rfl) rfl rfl ?_
          refine go_iconst (at_of tX10_judges 1 5 rfl) (by unfold in32; omega) ?_
          refine go_cV (r2) lk_X10_106 rfl G_109 (at_of tX10_judges 1 6 rfl) rfl (by decide) rfl (Nat.le_of_ble_eq_true rfl) rfl (by first | decide | exact ⟨Nat.zero_le _, Nat.zero_le _⟩) ?_
          refine go_iload_n (at_of tX10_judges 1 7 rfl) rfl ?_
          refine go_icmp_ne (tgt := 50) (at_of tX10_judges 1 8 rfl) (by decide) (fun h43 => ?_) (fun h43 => ?_)
          rotate_left
          · exfalso; omega
          refine go_iconst (at_of tX10_judges 1 11 rfl) (by unfold in32; omega) ?_
          refine go_istore (at_of tX10_judges 1 12 rfl) rfl rfl ?_
          refine go_aload_n (at_of tX10_judges 1 13 rfl) rfl ?_
          refine go_iload (at_of tX10_judges 1 14 rfl) rfl rfl ?_
          refine go_bipush (at_of tX10_judges 1 15 rfl) (by decide) ?_
          refine go_cV (r9) lk_X10_106 rfl G_109 (at_of tX10_judges 2 0 rfl) rfl (by decide) rfl (Nat.le_of_ble_eq_true rfl) rfl (by first | decide | exact ⟨Nat.zero_le _, Nat.zero_le _⟩) ?_
          refine go_iload_n (at_of tX10_judges 2 1 rfl) rfl ?_
          refine go_icmp_ne (tgt := 103) (at_of tX10_judges 2 2 rfl) (by decide) (fun h62 => ?_) (fun h62 => ?_)
          · exfalso; omega
          refine go_aload_n (at_of tX10_judges 2 3 rfl) rfl ?_
          refine go_iload (at_of tX10_judges 2 4 rfl) rfl rfl ?_
          refine go_iconst (at_of tX10_judges 2 5 rfl) (by unfold in32; omega) ?_
          refine go_iload_n (at_of tX10_judges 2 6 rfl) rfl ?_
          refine go_if_eq (tgt := 83) (at_of tX10_judges 2 7 rfl) (by decide) (fun h70 => ?_) (fun h70 => ?_)
          rotate_left
          · exfalso; exact h70 rfl
          refine go_aload_n (at_of tX10_judges 2 13 rfl) rfl ?_
          refine go_iload (at_of tX10_judges 2 14 rfl) rfl rfl ?_
          refine go_bipush (at_of tX10_judges 2 15 rfl) (by decide) ?_
          refine go_cV (r8) lk_X10_106 rfl G_109 (at_of tX10_judges 3 0 rfl) rfl (by decide) rfl (Nat.le_of_ble_eq_true rfl) rfl (by first | decide | exact ⟨Nat.zero_le _, Nat.zero_le _⟩) ?_
          refine go_cV (m_setAt hS (by omega)) lk_X10_99 rfl G_109 (at_of tX10_judges 3 1 rfl) rfl (by decide) rfl (Nat.le_of_ble_eq_true rfl) rfl (by first | decide | exact ⟨Nat.zero_le _, Nat.zero_le _⟩) ?_
          refine go_aload_n (at_of tX10_judges 3 2 rfl) rfl ?_
          refine go_iload (at_of tX10_judges 3 3 rfl) rfl rfl ?_
          refine go_bipush (at_of tX10_judges 3 4 rfl) (by decide) ?_
          refine go_iconst (at_of tX10_judges 3 5 rfl) (by unfold in32; omega) ?_
          refine go_cV (m_setAt (by exact hS) (by omega)) lk_X10_99 rfl G_109 (at_of tX10_judges 3 6 rfl) rfl (by decide) rfl (Nat.le_of_ble_eq_true rfl) rfl (by first | decide | exact ⟨Nat.zero_le _, Nat.zero_le _⟩) ?_
          refine go_iload (at_of tX10_judges 3 7 rfl) rfl rfl ?_
          refine go_if_eq (tgt := 112) (at_of tX10_judges 3 8 rfl) (by decide) (fun h105 => ?_) (fun h105 => ?_)
          rotate_left
          · exfalso; omega
          refine go_iload (at_of tX10_judges 3 11 rfl) rfl rfl ?_
          refine go_if_eq (tgt := 130) (at_of tX10_judges 3 12 rfl) (by decide) (fun h114 => ?_) (fun h114 => ?_)
          rotate_left
          · exfalso; omega
          refine go_aload_n (at_of tX10_judges 4 3 rfl) rfl ?_
          refine go_iload (at_of tX10_judges 4 4 rfl) rfl rfl ?_
          refine go_iconst (at_of tX10_judges 4 5 rfl) (by unfold in32; omega) ?_
          refine go_iload (at_of tX10_judges 4 6 rfl) rfl rfl ?_
          refine go_if_eq (tgt := 143) (at_of tX10_judges 4 7 rfl) (by decide) (fun h136 => ?_) (fun h136 => ?_)
          rotate_left
          · exfalso; omega
          refine go_aload_n (at_of tX10_judges 4 10 rfl) rfl ?_
          refine go_iload (at_of tX10_judges 4 11 rfl) rfl rfl ?_
          refine go_iconst (at_of tX10_judges 4 12 rfl) (by unfold in32; omega) ?_
          refine go_cV (r1b) lk_X10_106 rfl G_109 (at_of tX10_judges 4 13 rfl) rfl (by decide) rfl (Nat.le_of_ble_eq_true rfl) rfl (by first | decide | exact ⟨Nat.zero_le _, Nat.zero_le _⟩) ?_
          refine go_cV (s2) lk_X10_99 rfl G_109 (at_of tX10_judges 4 14 rfl) rfl (by decide) rfl (Nat.le_of_ble_eq_true rfl) rfl (by first | decide | exact ⟨Nat.zero_le _, Nat.zero_le _⟩) ?_
          refine go_aload_n (at_of tX10_judges 4 15 rfl) rfl ?_
          refine go_iload (at_of tX10_judges 5 0 rfl) rfl rfl ?_
          refine go_iconst (at_of tX10_judges 5 1 rfl) (by unfold in32; omega) ?_
          refine go_iload (at_of tX10_judges 5 2 rfl) rfl rfl ?_
          refine go_if_eq (tgt := 166) (at_of tX10_judges 5 3 rfl) (by decide) (fun h159 => ?_) (fun h159 => ?_)
          rotate_left
          · exfalso; omega
          refine go_aload_n (at_of tX10_judges 5 6 rfl) rfl ?_
          refine go_iload (at_of tX10_judges 5 7 rfl) rfl rfl ?_
          refine go_iconst (at_of tX10_judges 5 8 rfl) (by unfold in32; omega) ?_
          refine go_cV (r2b) lk_X10_106 rfl G_109 (at_of tX10_judges 5 9 rfl) rfl (by decide) rfl (Nat.le_of_ble_eq_true rfl) rfl (by first | decide | exact ⟨Nat.zero_le _, Nat.zero_le _⟩) ?_
          refine go_cV (s3) lk_X10_99 rfl G_109 (at_of tX10_judges 5 10 rfl) rfl (by decide) rfl (Nat.le_of_ble_eq_true rfl) rfl (by first | decide | exact ⟨Nat.zero_le _, Nat.zero_le _⟩) ?_
          refine go_iinc (at_of tX10_judges 5 11 rfl) rfl (by unfold in32; omega) rfl rfl ?_
          refine go_goto (tgt := 12) (at_of tX10_judges 5 12 rfl) (by decide) ?_
          exact K _ _ _
      · skip
        have eJ : jdgS c false E.1 u = E.1 := if_neg hb
        have M1_ : RepN (cN σ) (jdgS c false E.1 u, E.2) := by rw [eJ]; exact hE
        have F1 : FrN σ σ := FrN.refl
        have Mr : RepNr (cN σ) (jdgS c false E.1 u) := M1_.1
        have j2 : (jdgS c false E.1 u).1 2 u = E.1.1 2 u := jdgS_ne (by omega)
        have j3 : (jdgS c false E.1 u).1 3 u = E.1.1 3 u := jdgS_ne (by omega)
        have jn : (jdgS c false E.1 u).2 = E.1.2 := jdgS_n
        have jn1 : (jdgS c false E.1 u).2.1 = E.1.2.1 := by rw [jn]
        have jw : RowW (jdgS c false E.1 u) := by unfold RowW; rw [jn]; exact hW
        have jlow : ∀ w i, 0 ≤ i → i ≤ u - 1 → (jdgS c false E.1 u).1 w i = D.1.1 w i := fun w i i0 i1 => by rw [jdgS_ne (by omega)]; exact hlow w i i0 (by omega)
        have s2 := m_setAt (σ := σ) hS (u := u) (p := 1) (z := (E.1.1 2 u)) (by omega)
        have s3 := m_setAt (σ := (M1 σ 110 (10 * u + 1) (E.1.1 2 u))) hS (u := u) (p := 2) (z := (E.1.1 3 u)) (by omega)
        have N2 := rN_set1 (z := (E.1.1 2 u)) Mr (u := u) ⟨h0, by omega⟩ (by omega)
        have N3 := rN_set2 (z := (E.1.1 3 u)) N2 (u := u) ⟨h0, by show u ≤ (jdgS c false E.1 u).2.1; omega⟩ (by show (jdgS c false E.1 u).2.1 ≤ 200; omega)
        have r1b := m_at1 (σ := σ) hS Mr (u := u) ⟨h0, by omega, by omega⟩
        rw [j2] at r1b
        have r2b := m_at2 (σ := (M1 σ 110 (10 * u + 1) (E.1.1 2 u))) hS N2 (u := u) ⟨h0, by show u ≤ (jdgS c false E.1 u).2.1; omega, by show (jdgS c false E.1 u).2.1 ≤ 200; omega⟩
        rw [setR_ne (by omega), j3] at r2b
        have eF : jdgF c false E.1 u = setR (setR (jdgS c false E.1 u) 2 u (E.1.1 2 u)) 3 u (E.1.1 3 u) := by
          unfold jdgF
          rw [if_neg (fun q => by rcases q with q | q; exact hw q.1; exact absurd q.2 (by decide)), if_neg hw, if_neg he]
        rw [eF]
        refine ⟨(M1 (M1 σ 110 (10 * u + 1) (E.1.1 2 u)) 110 (10 * u + 2) (E.1.1 3 u)), ⟨M1_.row N3 ⟨by show 0 ≤ (jdgS c false E.1 u).2.1; omega, by show (jdgS c false E.1 u).2.1 ≤ 200; omega⟩ (fun x hx => by rw [cN_M1 (by omega) (by omega), if_neg (by omega), cN_M1 (by omega) (by omega), if_neg (by omega)]), hF.trans (F1.trans (FrN.m1.trans FrN.m1)), jw, by omega, by omega, by show u - 1 ≤ (jdgS c false E.1 u).2.1; omega, fun q => by show u - 1 < (jdgS c false E.1 u).2.1; omega, fun w i i0 i1 => ?_⟩, fun b out K v5 v6 => ?_⟩
        · rw [setR_ne (by omega), setR_ne (by omega)]; exact jlow w i i0 i1
        · skip
          refine go_iload (at_of tX10_judges 0 7 rfl) rfl rfl ?_
          refine go_if_lt (tgt := 182) (at_of tX10_judges 0 8 rfl) (by decide) (fun h14 => ?_) (fun h14 => ?_)
          · exfalso; omega
          refine go_aload_n (at_of tX10_judges 0 9 rfl) rfl ?_
          refine go_iload (at_of tX10_judges 0 10 rfl) rfl rfl ?_
          refine go_iconst (at_of tX10_judges 0 11 rfl) (by unfold in32; omega) ?_
          refine go_cV (r1) lk_X10_106 rfl G_109 (at_of tX10_judges 0 12 rfl) rfl (by decide) rfl (Nat.le_of_ble_eq_true rfl) rfl (by first | decide | exact ⟨Nat.zero_le _, Nat.zero_le _⟩) ?_
          refine go_iload_n (at_of tX10_judges 0 13 rfl) rfl ?_
          refine go_icmp_ne (tgt := 32) (at_of tX10_judges 0 14 rfl) (by decide) (fun h25 => ?_) (fun h25 => ?_)
          rotate_left
          · exfalso; omega
          refine go_iconst (at_of tX10_judges 1 1 rfl) (by unfold in32; omega) ?_
          refine go_istore (at_of tX10_judges 1 2 rfl) rfl rfl ?_
          refine go_aload_n (at_of tX10_judges 1 3 rfl) rfl ?_
          refine go_iload (at_of tX10_judges 1 4 rfl) rfl rfl ?_
          refine go_iconst (at_of tX10_judges 1 5 rfl) (by unfold in32; omega) ?_
          refine go_cV (r2) lk_X10_106 rfl G_109 (at_of tX10_judges 1 6 rfl) rfl (by decide) rfl (Nat.le_of_ble_eq_true rfl) rfl (by first | decide | exact ⟨Nat.zero_le _, Nat.zero_le _⟩) ?_
          refine go_iload_n (at_of tX10_judges 1 7 rfl) rfl ?_
          refine go_icmp_ne (tgt := 50) (at_of tX10_judges 1 8 rfl) (by decide) (fun h43 => ?_) (fun h43 => ?_)
          rotate_left
          · exfalso; omega
          refine go_iconst (at_of tX10_judges 1 11 rfl) (by unfold in32; omega) ?_
          refine go_istore (at_of tX10_judges 1 12 rfl) rfl rfl ?_
          refine go_aload_n (at_of tX10_judges 1 13 rfl) rfl ?_
          refine go_iload (at_of tX10_judges 1 14 rfl) rfl rfl ?_
          refine go_bipush (at_of tX10_judges 1 15 rfl) (by decide) ?_
          refine go_cV (r9) lk_X10_106 rfl G_109 (at_of tX10_judges 2 0 rfl) rfl (by decide) rfl (Nat.le_of_ble_eq_true rfl) rfl (by first | decide | exact ⟨Nat.zero_le _, Nat.zero_le _⟩) ?_
          refine go_iload_n (at_of tX10_judges 2 1 rfl) rfl ?_
          refine go_icmp_ne (tgt := 103) (at_of tX10_judges 2 2 rfl) (by decide) (fun h62 => ?_) (fun h62 => ?_)
          rotate_left
          · exfalso; omega
          refine go_iload (at_of tX10_judges 3 7 rfl) rfl rfl ?_
          refine go_if_eq (tgt := 112) (at_of tX10_judges 3 8 rfl) (by decide) (fun h105 => ?_) (fun h105 => ?_)
          rotate_left
          · exfalso; omega
          refine go_iload (at_of tX10_judges 3 11 rfl) rfl rfl ?_
          refine go_if_eq (tgt := 130) (at_of tX10_judges 3 12 rfl) (by decide) (fun h114 => ?_) (fun h114 => ?_)
          rotate_left
          · exfalso; omega
          refine go_aload_n (at_of tX10_judges 4 3 rfl) rfl ?_
          refine go_iload (at_of tX10_judges 4 4 rfl) rfl rfl ?_
          refine go_iconst (at_of tX10_judges 4 5 rfl) (by unfold in32; omega) ?_
          refine go_iload (at_of tX10_judges 4 6 rfl) rfl rfl ?_
          refine go_if_eq (tgt := 143) (at_of tX10_judges 4 7 rfl) (by decide) (fun h136 => ?_) (fun h136 => ?_)
          rotate_left
          · exfalso; omega
          refine go_aload_n (at_of tX10_judges 4 10 rfl) rfl ?_
          refine go_iload (at_of tX10_judges 4 11 rfl) rfl rfl ?_
          refine go_iconst (at_of tX10_judges 4 12 rfl) (by unfold in32; omega) ?_
          refine go_cV (r1b) lk_X10_106 rfl G_109 (at_of tX10_judges 4 13 rfl) rfl (by decide) rfl (Nat.le_of_ble_eq_true rfl) rfl (by first | decide | exact ⟨Nat.zero_le _, Nat.zero_le _⟩) ?_
          refine go_cV (s2) lk_X10_99 rfl G_109 (at_of tX10_judges 4 14 rfl) rfl (by decide) rfl (Nat.le_of_ble_eq_true rfl) rfl (by first | decide | exact ⟨Nat.zero_le _, Nat.zero_le _⟩) ?_
          refine go_aload_n (at_of tX10_judges 4 15 rfl) rfl ?_
          refine go_iload (at_of tX10_judges 5 0 rfl) rfl rfl ?_
          refine go_iconst (at_of tX10_judges 5 1 rfl) (by unfold in32; omega) ?_
          refine go_iload (at_of tX10_judges 5 2 rfl) rfl rfl ?_
          refine go_if_eq (tgt := 166) (at_of tX10_judges 5 3 rfl) (by decide) (fun h159 => ?_) (fun h159 => ?_)
          rotate_left
          · exfalso; omega
          refine go_aload_n (at_of tX10_judges 5 6 rfl) rfl ?_
          refine go_iload (at_of tX10_judges 5 7 rfl) rfl rfl ?_
          refine go_iconst (at_of tX10_judges 5 8 rfl) (by unfold in32; omega) ?_
          refine go_cV (r2b) lk_X10_106 rfl G_109 (at_of tX10_judges 5 9 rfl) rfl (by decide) rfl (Nat.le_of_ble_eq_true rfl) rfl (by first | decide | exact ⟨Nat.zero_le _, Nat.zero_le _⟩) ?_
          refine go_cV (s3) lk_X10_99 rfl G_109 (at_of tX10_judges 5 10 rfl) rfl (by decide) rfl (Nat.le_of_ble_eq_true rfl) rfl (by first | decide | exact ⟨Nat.zero_le _, Nat.zero_le _⟩) ?_
          refine go_iinc (at_of tX10_judges 5 11 rfl) rfl (by unfold in32; omega) rfl rfl ?_
          refine go_goto (tgt := 12) (at_of tX10_judges 5 12 rfl) (by decide) ?_
          exact K _ _ _

theorem m_judges (hS : Str σ.2.1) {D : PapD} (hN : RepN (cN σ) D) (hRw : RowW D.1) (hl2 : D.1.1 2 D.1.2.1 = -1 ∧ D.1.1 3 D.1.2.1 = -1) (h47 : ∀ i, 0 ≤ i → i ≤ D.1.2.1 → D.1.1 4 i ≠ -1 → D.1.1 0 i = 47) {c : Int} {acc : Bool} (hc : 0 ≤ c ∧ c < D.2.1.1) : ∃ σ', Con 2 mX10_judges 0 0 [vA 109, vI c, vI (bI (acc = true))] σ (vI (concN D.1.1 D.1.2.1 c), σ') ∧ RepN (cN σ') (jdgD D c acc) ∧ FrN σ σ' := by
  obtain ⟨w1, w2, w3⟩ := id hRw
  have mc := m_concerns hS hN.1 ⟨w1, w2⟩ (c := c)
  have mm := m_many hS hN.1
  obtain ⟨n0, hn0⟩ : ∃ n0, n0 = concN D.1.1 D.1.2.1 c := ⟨_, rfl⟩
  have key := loop_dn (α := RowD) (Rep := fun σ' R u => RepN (cN σ') (R, D.2) ∧ FrN σ σ' ∧ RowW R ∧ -1 ≤ u ∧ u ≤ D.1.2.1 ∧ u ≤ R.2.1 ∧ (u < D.1.2.1 → u < R.2.1) ∧ ∀ w i, 0 ≤ i → i ≤ u → R.1 w i = D.1.1 w i) (f := jdgF c acc) (lo := 0)
    (G := fun b _ u σ out => ∀ v5 v6, Go (fun _ => 0) 2 mX10_judges b 12 [vA 109, vI c, vI (bI (acc = true)), vI n0, vI u, v5, v6] [] σ out) (fun σ' R u hh hlo => ?_) (D.1.2.1 + 1).toNat σ D.1 D.1.2.1 ⟨hN, FrN.refl, hRw, by omega, by omega, by omega, fun q => absurd q (by omega), fun _ _ _ _ => rfl⟩ (by omega)
  · obtain ⟨σ', ⟨q1, q2, q3, -⟩, q4⟩ := key
    have hS' := q2.str hS
    refine ⟨M1 σ' 110 (3073 + c) (if acc = true then 97 else 114), ?_, m_setSt q1 hc, q2.trans FrN.m1⟩
    have hcb := hN.2.2.2.2.2.2
    rw [← hn0] at mc ⊢
    cases acc with
    | true =>
      refine con_of_go mfX10_judges.1 trivial (Nat.le_of_ble_eq_true rfl) rfl (by decide) ?_
      show Go _ _ _ _ 0 [vA _, vI _, vI _, vT 9 0, vT 9 0, vT 9 0, vT 9 0] [] _ _
      refine go_aload_n (at_of tX10_judges 0 0 rfl) rfl ?_
      refine go_iload_n (at_of tX10_judges 0 1 rfl) rfl ?_
      refine go_cV (mc) lk_X10_222 rfl G_109 (at_of tX10_judges 0 2 rfl) rfl (by decide) rfl (Nat.le_of_ble_eq_true rfl) rfl (by first | decide | exact ⟨Nat.zero_le _, Nat.zero_le _⟩) ?_
      refine go_istore_n (at_of tX10_judges 0 3 rfl) rfl rfl ?_
      refine go_aload_n (at_of tX10_judges 0 4 rfl) rfl ?_
      refine go_cV (mm) lk_X10_110 rfl G_109 (at_of tX10_judges 0 5 rfl) rfl (by decide) rfl (Nat.le_of_ble_eq_true rfl) rfl (by first | decide | exact ⟨Nat.zero_le _, Nat.zero_le _⟩) ?_
      refine go_istore (at_of tX10_judges 0 6 rfl) rfl rfl ?_
      refine q4 _ _ (fun b v5 v6 => ?_) _ _
      refine go_iload (at_of tX10_judges 0 7 rfl) rfl rfl ?_
      refine go_if_lt (tgt := 182) (at_of tX10_judges 0 8 rfl) (by decide) (fun h14 => ?_) (fun h14 => ?_)
      rotate_left
      · exfalso; omega
      refine go_aload_n (at_of tX10_judges 5 13 rfl) rfl ?_
      refine go_getr (q := 110) fl_X10_7 rfl G_109 ((hS' _ _ rfl).trans rfl) (at_of tX10_judges 5 14 rfl) ?_
      refine go_sipush (at_of tX10_judges 5 15 rfl) (by decide) ?_
      refine go_iload_n (at_of tX10_judges 6 0 rfl) rfl ?_
      refine go_iadd (at_of tX10_judges 6 1 rfl) (by unfold in32; omega) ?_
      refine go_iload_n (at_of tX10_judges 6 2 rfl) rfl ?_
      refine go_if_eq (tgt := 200) (at_of tX10_judges 6 3 rfl) (by decide) (fun h192 => ?_) (fun h192 => ?_)
      · exfalso; exact absurd h192 (by decide)
      refine go_bipush (at_of tX10_judges 6 4 rfl) (by decide) ?_
      refine go_goto (tgt := 202) (at_of tX10_judges 6 5 rfl) (by decide) ?_
      refine go_iast1 G_110 (by omega) (by omega) (at_of tX10_judges 6 7 rfl) ?_
      refine go_iload_n (at_of tX10_judges 6 8 rfl) rfl ?_
      first | exact go_reti (at_of tX10_judges 6 9 rfl) rfl | exact go_reti (at_of tX10_judges 6 9 rfl) (le_i (by omega)) | exact go_reti (at_of tX10_judges 6 9 rfl) (le_i (by first | exact bI_t (by omega) | exact bI_f (by omega)))
    | false =>
      refine con_of_go mfX10_judges.1 trivial (Nat.le_of_ble_eq_true rfl) rfl (by decide) ?_
      show Go _ _ _ _ 0 [vA _, vI _, vI _, vT 9 0, vT 9 0, vT 9 0, vT 9 0] [] _ _
      refine go_aload_n (at_of tX10_judges 0 0 rfl) rfl ?_
      refine go_iload_n (at_of tX10_judges 0 1 rfl) rfl ?_
      refine go_cV (mc) lk_X10_222 rfl G_109 (at_of tX10_judges 0 2 rfl) rfl (by decide) rfl (Nat.le_of_ble_eq_true rfl) rfl (by first | decide | exact ⟨Nat.zero_le _, Nat.zero_le _⟩) ?_
      refine go_istore_n (at_of tX10_judges 0 3 rfl) rfl rfl ?_
      refine go_aload_n (at_of tX10_judges 0 4 rfl) rfl ?_
      refine go_cV (mm) lk_X10_110 rfl G_109 (at_of tX10_judges 0 5 rfl) rfl (by decide) rfl (Nat.le_of_ble_eq_true rfl) rfl (by first | decide | exact ⟨Nat.zero_le _, Nat.zero_le _⟩) ?_
      refine go_istore (at_of tX10_judges 0 6 rfl) rfl rfl ?_
      refine q4 _ _ (fun b v5 v6 => ?_) _ _
      refine go_iload (at_of tX10_judges 0 7 rfl) rfl rfl ?_
      refine go_if_lt (tgt := 182) (at_of tX10_judges 0 8 rfl) (by decide) (fun h14 => ?_) (fun h14 => ?_)
      rotate_left
      · exfalso; omega
      refine go_aload_n (at_of tX10_judges 5 13 rfl) rfl ?_
      refine go_getr (q := 110) fl_X10_7 rfl G_109 ((hS' _ _ rfl).trans rfl) (at_of tX10_judges 5 14 rfl) ?_
      refine go_sipush (at_of tX10_judges 5 15 rfl) (by decide) ?_
      refine go_iload_n (at_of tX10_judges 6 0 rfl) rfl ?_
      refine go_iadd (at_of tX10_judges 6 1 rfl) (by unfold in32; omega) ?_
      refine go_iload_n (at_of tX10_judges 6 2 rfl) rfl ?_
      refine go_if_eq (tgt := 200) (at_of tX10_judges 6 3 rfl) (by decide) (fun h192 => ?_) (fun h192 => ?_)
      rotate_left
      · exfalso; exact h192 rfl
      refine go_bipush (at_of tX10_judges 6 6 rfl) (by decide) ?_
      refine go_iast1 G_110 (by omega) (by omega) (at_of tX10_judges 6 7 rfl) ?_
      refine go_iload_n (at_of tX10_judges 6 8 rfl) rfl ?_
      first | exact go_reti (at_of tX10_judges 6 9 rfl) rfl | exact go_reti (at_of tX10_judges 6 9 rfl) (le_i (by omega)) | exact go_reti (at_of tX10_judges 6 9 rfl) (le_i (by first | exact bI_t (by omega) | exact bI_f (by omega)))
  · obtain ⟨hE, hF, hW, hu1, hu, hu2, hu3, hlow⟩ := hh
    have hS := hF.str hS
    cases acc with
    | true => exact m_judge_step_true hS hl2 h47 hc.1 (E := (R, D.2)) hE hF hW hlo hu hu2 hu3 hlow
    | false => exact m_judge_step_false hS hl2 h47 hc.1 (E := (R, D.2)) hE hF hW hlo hu hu2 hu3 hlow
end Mod7
