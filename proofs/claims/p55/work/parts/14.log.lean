section Plan
/-- where each field of a reference leads, but for the papers -/
def strL : List (Nat × Nat × Nat) := [(0, 1, 1), (0, 2, 73), (0, 3, 83), (0, 4, 87), (0, 5, 92), (0, 6, 96), (0, 7, 98), (0, 8, 108), (1, 0, 2), (3, 0, 4), (3, 1, 8), (3, 2, 12), (4, 0, 5), (4, 1, 6), (4, 2, 7), (8, 0, 9), (8, 1, 10), (8, 2, 11), (13, 0, 14), (13, 1, 18), (13, 2, 22), (14, 0, 15), (14, 1, 16), (14, 2, 17), (18, 0, 19), (18, 1, 20), (18, 2, 21), (23, 0, 24), (23, 1, 28), (23, 2, 32), (24, 0, 25), (24, 1, 26), (24, 2, 27), (28, 0, 29), (28, 1, 30), (28, 2, 31), (33, 0, 34), (33, 1, 38), (33, 2, 42), (34, 0, 35), (34, 1, 36), (34, 2, 37), (38, 0, 39), (38, 1, 40), (38, 2, 41), (43, 0, 44), (43, 1, 48), (43, 2, 52), (44, 0, 45), (44, 1, 46), (44, 2, 47), (48, 0, 49), (48, 1, 50), (48, 2, 51), (53, 0, 54), (53, 1, 58), (53, 2, 62), (54, 0, 55), (54, 1, 56), (54, 2, 57), (58, 0, 59), (58, 1, 60), (58, 2, 61), (63, 0, 64), (63, 1, 68), (63, 2, 72), (64, 0, 65), (64, 1, 66), (64, 2, 67), (68, 0, 69), (68, 1, 70), (68, 2, 71), (73, 0, 74), (73, 1, 78), (73, 2, 82), (74, 0, 75), (74, 1, 76), (74, 2, 77), (78, 0, 79), (78, 1, 80), (78, 2, 81), (83, 0, 84), (83, 1, 85), (83, 2, 86), (87, 0, 88), (87, 1, 89), (87, 2, 90), (87, 3, 91), (92, 0, 93), (92, 1, 94), (92, 2, 95), (96, 0, 97), (98, 2, 99), (98, 3, 100), (98, 4, 101), (98, 5, 102), (98, 6, 103), (98, 7, 104), (98, 8, 105), (98, 9, 106), (98, 10, 107)]
def strF (a k : Nat) : Option Nat := (strL.find? (fun e => e.1 == a && e.2.1 == k)).map (fun e => e.2.2)
def Str (P : Nat → Nat → Option Nat) : Prop := ∀ a k, (strF a k).isSome = true → P a k = strF a k
/-- the papers, in their order: the j-th is paper pi j -/
def Pap (P : Nat → Nat → Option Nat) (pi : Nat → Nat) : Prop := (∀ j, j < 7 → P 2 j = some (3 + 10 * pi j) ∧ pi j < 7) ∧ ∀ i j, i < 7 → j < 7 → pi i = pi j → i = j
variable {σ : St} {k : Nat}
theorem lt8 {P : Nat → Prop} (h : P 0 ∧ P 1 ∧ P 2 ∧ P 3 ∧ P 4 ∧ P 5 ∧ P 6 ∧ P 7) : ∀ k, k < 8 → P k := by
  intro k hk
  obtain ⟨h0, h1, h2, h3, h4, h5, h6, h7⟩ := h
  match k, hk with
  | 0, _ => exact h0
  | 1, _ => exact h1
  | 2, _ => exact h2
  | 3, _ => exact h3
  | 4, _ => exact h4
  | 5, _ => exact h5
  | 6, _ => exact h6
  | 7, _ => exact h7
theorem gamk : ∀ k, k < 8 → Gam (3 + 10 * k) = (14, 0) ∧ Gam (4 + 10 * k) = (17, 0) ∧ Gam (5 + 10 * k) = (0, 2211) ∧ Gam (6 + 10 * k) = (0, 6) ∧ Gam (7 + 10 * k) = (0, 6) ∧ Gam (8 + 10 * k) = (12, 0) ∧ Gam (9 + 10 * k) = (0, 60) ∧ Gam (10 + 10 * k) = (0, 60) ∧ Gam (11 + 10 * k) = (0, 60) ∧ Gam (12 + 10 * k) = (0, 20) := lt8 ⟨by decide +kernel, by decide +kernel, by decide +kernel, by decide +kernel, by decide +kernel, by decide +kernel, by decide +kernel, by decide +kernel⟩
theorem strk (hS : Str σ.2.1) : ∀ k, k < 8 → σ.2.1 (3 + 10 * k) 0 = some (4 + 10 * k) ∧ σ.2.1 (3 + 10 * k) 1 = some (8 + 10 * k) ∧ σ.2.1 (3 + 10 * k) 2 = some (12 + 10 * k) ∧ σ.2.1 (4 + 10 * k) 0 = some (5 + 10 * k) ∧ σ.2.1 (4 + 10 * k) 1 = some (6 + 10 * k) ∧ σ.2.1 (4 + 10 * k) 2 = some (7 + 10 * k) ∧ σ.2.1 (8 + 10 * k) 0 = some (9 + 10 * k) ∧ σ.2.1 (8 + 10 * k) 1 = some (10 + 10 * k) ∧ σ.2.1 (8 + 10 * k) 2 = some (11 + 10 * k) := by
  have h : ∀ k, k < 8 → ∀ e ∈ [(3 + 10 * k, 0, 4 + 10 * k), (3 + 10 * k, 1, 8 + 10 * k), (3 + 10 * k, 2, 12 + 10 * k), (4 + 10 * k, 0, 5 + 10 * k), (4 + 10 * k, 1, 6 + 10 * k), (4 + 10 * k, 2, 7 + 10 * k), (8 + 10 * k, 0, 9 + 10 * k), (8 + 10 * k, 1, 10 + 10 * k), (8 + 10 * k, 2, 11 + 10 * k)], strF e.1 e.2.1 = some e.2.2 := lt8 ⟨by decide +kernel, by decide +kernel, by decide +kernel, by decide +kernel, by decide +kernel, by decide +kernel, by decide +kernel, by decide +kernel⟩
  intro k hk
  have g : ∀ a j q, (a, j, q) ∈ [(3 + 10 * k, 0, 4 + 10 * k), (3 + 10 * k, 1, 8 + 10 * k), (3 + 10 * k, 2, 12 + 10 * k), (4 + 10 * k, 0, 5 + 10 * k), (4 + 10 * k, 1, 6 + 10 * k), (4 + 10 * k, 2, 7 + 10 * k), (8 + 10 * k, 0, 9 + 10 * k), (8 + 10 * k, 1, 10 + 10 * k), (8 + 10 * k, 2, 11 + 10 * k)] → σ.2.1 a j = some q := by
    intro a j q hm
    have h9 : strF a j = some q := h k hk _ hm
    rw [hS a j (by rw [h9]; rfl), h9]
  exact ⟨g _ _ _ (by simp), g _ _ _ (by simp), g _ _ _ (by simp), g _ _ _ (by simp), g _ _ _ (by simp), g _ _ _ (by simp), g _ _ _ (by simp), g _ _ _ (by simp), g _ _ _ (by simp)⟩
theorem rowP (hS : Str σ.2.1) (hk : k < 8) : RowP σ (4 + 10 * k) (5 + 10 * k) (6 + 10 * k) (7 + 10 * k) := by
  obtain ⟨g1, g2, g3, g4, g5, -⟩ := gamk k hk
  obtain ⟨p1, p2, p3, p4, p5, p6, -⟩ := strk hS k hk
  exact ⟨g2, g3, g4, g5, p4, p5, p6⟩
theorem cl_in {a n : Nat} {i : Int} (h : 0 ≤ i ∧ i < n) : cl σ a n i = σ.1 a i.toNat := if_pos h
end Plan
section LogQ
variable {σ : St} {k : Nat}
/-- a log's numbers are what they can be -/
def LogU (σ : St) (k : Nat) : Prop := 0 ≤ σ.1 (8 + 10 * k) 3 ∧ σ.1 (8 + 10 * k) 3 ≤ 60 ∧ (∀ j, j < 60 → 0 ≤ σ.1 (9 + 10 * k) j ∧ σ.1 (9 + 10 * k) j < 65536) ∧ ∀ j, j < 60 → 0 ≤ σ.1 (11 + 10 * k) j ∧ σ.1 (11 + 10 * k) j < 65536
theorem con_many (hS : Str σ.2.1) (hk : k < 8) : Con 0 mX2_many 0 0 [vA (8 + 10 * k)] σ (vI (σ.1 (8 + 10 * k) 3), σ) := by
  obtain ⟨g1, g2, g3, g4, g5, g6, g7, g8, g9, g10⟩ := gamk k hk
  obtain ⟨p1, p2, p3, p4, p5, p6, p7, p8, p9⟩ := strk hS k hk
  refine con_of_go mfX2_many.1 trivial (Nat.le_of_ble_eq_true rfl) rfl (by decide) ?_
  show Go _ _ _ _ 0 [vA _] [] _ _
  refine go_aload_n (at_of tX2_many 0 0 rfl) rfl ?_
  refine go_getf fl_X2_21 rfl (by first | rfl | assumption) (at_of tX2_many 0 1 rfl) ?_
  exact go_reti (at_of tX2_many 0 2 rfl) rfl
theorem con_isFullL (hS : Str σ.2.1) (hk : k < 8) : Con 0 mX2_isFull 0 0 [vA (8 + 10 * k)] σ (vI (bI (60 ≤ σ.1 (8 + 10 * k) 3)), σ) := by
  obtain ⟨g1, g2, g3, g4, g5, g6, g7, g8, g9, g10⟩ := gamk k hk
  obtain ⟨p1, p2, p3, p4, p5, p6, p7, p8, p9⟩ := strk hS k hk
  refine con_of_go mfX2_isFull.1 bI_01 (Nat.le_of_ble_eq_true rfl) rfl (by decide) ?_
  show Go _ _ _ _ 0 [vA _] [] _ _
  refine go_aload_n (at_of tX2_isFull 0 0 rfl) rfl ?_
  refine go_getf fl_X2_21 rfl (by first | rfl | assumption) (at_of tX2_isFull 0 1 rfl) ?_
  refine go_bipush (at_of tX2_isFull 0 2 rfl) (by decide) ?_
  refine go_icmp_lt (tgt := 13) (at_of tX2_isFull 0 3 rfl) (by decide) (fun h6 => ?_) (fun h6 => ?_)
  · refine go_iconst (at_of tX2_isFull 0 6 rfl) (by unfold in32; omega) ?_
    exact go_reti (at_of tX2_isFull 0 7 rfl) (le_i (by first | exact bI_t (by omega) | exact bI_f (by omega)))
  · refine go_iconst (at_of tX2_isFull 0 4 rfl) (by unfold in32; omega) ?_
    refine go_goto (tgt := 14) (at_of tX2_isFull 0 5 rfl) (by decide) ?_
    exact go_reti (at_of tX2_isFull 0 7 rfl) (le_i (by first | exact bI_t (by omega) | exact bI_f (by omega)))
theorem con_kindL (hS : Str σ.2.1) (hk : k < 8) (hL : LogU σ k) {c : Int} (hc : 0 ≤ c ∧ c < 60) : Con 1 mX2_kind 0 0 [vA (8 + 10 * k), vI c] σ (vI (σ.1 (9 + 10 * k) c.toNat), σ) := by
  obtain ⟨g1, g2, g3, g4, g5, g6, g7, g8, g9, g10⟩ := gamk k hk
  obtain ⟨p1, p2, p3, p4, p5, p6, p7, p8, p9⟩ := strk hS k hk
  obtain ⟨u1, u2, u3, u4⟩ := id hL
  have q := u3 c.toNat (by omega)
  refine con_of_go mfX2_kind.1 ⟨by omega, by omega⟩ (Nat.le_of_ble_eq_true rfl) rfl (by decide) ?_
  show Go _ _ _ _ 0 [vA _, vI _] [] _ _
  refine go_aload_n (at_of tX2_kind 0 0 rfl) rfl ?_
  refine go_getr fl_X2_9 rfl (by first | rfl | assumption) (by first | assumption | exact (hS _ _ rfl).trans rfl) (at_of tX2_kind 0 1 rfl) ?_
  refine go_iload_n (at_of tX2_kind 0 2 rfl) rfl ?_
  refine go_cN (con_cell g7 (by omega) hc) lk_X2_39 rfl (at_of tX2_kind 0 3 rfl) rfl (by decide) rfl (Nat.le_of_ble_eq_true rfl) rfl (by first | decide | exact ⟨Nat.zero_le _, Nat.zero_le _⟩) ?_
  refine go_i2c (at_of tX2_kind 0 4 rfl) ?_
  exact go_reti (at_of tX2_kind 0 5 rfl) (le_i (by omega))
theorem con_stateL (hS : Str σ.2.1) (hk : k < 8) (hL : LogU σ k) {c : Int} (hc : 0 ≤ c ∧ c < 60) : Con 1 mX2_state 0 0 [vA (8 + 10 * k), vI c] σ (vI (σ.1 (11 + 10 * k) c.toNat), σ) := by
  obtain ⟨g1, g2, g3, g4, g5, g6, g7, g8, g9, g10⟩ := gamk k hk
  obtain ⟨p1, p2, p3, p4, p5, p6, p7, p8, p9⟩ := strk hS k hk
  obtain ⟨u1, u2, u3, u4⟩ := id hL
  have q := u4 c.toNat (by omega)
  refine con_of_go mfX2_state.1 ⟨by omega, by omega⟩ (Nat.le_of_ble_eq_true rfl) rfl (by decide) ?_
  show Go _ _ _ _ 0 [vA _, vI _] [] _ _
  refine go_aload_n (at_of tX2_state 0 0 rfl) rfl ?_
  refine go_getr fl_X2_18 rfl (by first | rfl | assumption) (by first | assumption | exact (hS _ _ rfl).trans rfl) (at_of tX2_state 0 1 rfl) ?_
  refine go_iload_n (at_of tX2_state 0 2 rfl) rfl ?_
  refine go_cN (con_cell g9 (by omega) hc) lk_X2_39 rfl (at_of tX2_state 0 3 rfl) rfl (by decide) rfl (Nat.le_of_ble_eq_true rfl) rfl (by first | decide | exact ⟨Nat.zero_le _, Nat.zero_le _⟩) ?_
  refine go_i2c (at_of tX2_state 0 4 rfl) ?_
  exact go_reti (at_of tX2_state 0 5 rfl) (le_i (by omega))
theorem con_authorL (hS : Str σ.2.1) (hk : k < 8) {c : Int} (hc : 0 ≤ c ∧ c < 60) : Con 1 mX2_author 0 0 [vA (8 + 10 * k), vI c] σ (vI (σ.1 (10 + 10 * k) c.toNat), σ) := by
  obtain ⟨g1, g2, g3, g4, g5, g6, g7, g8, g9, g10⟩ := gamk k hk
  obtain ⟨p1, p2, p3, p4, p5, p6, p7, p8, p9⟩ := strk hS k hk
  refine con_of_go mfX2_author.1 trivial (Nat.le_of_ble_eq_true rfl) rfl (by decide) ?_
  show Go _ _ _ _ 0 [vA _, vI _] [] _ _
  refine go_aload_n (at_of tX2_author 0 0 rfl) rfl ?_
  refine go_getr fl_X2_15 rfl (by first | rfl | assumption) (by first | assumption | exact (hS _ _ rfl).trans rfl) (at_of tX2_author 0 1 rfl) ?_
  refine go_iload_n (at_of tX2_author 0 2 rfl) rfl ?_
  refine go_cN (con_cell g8 (by omega) hc) lk_X2_39 rfl (at_of tX2_author 0 3 rfl) rfl (by decide) rfl (Nat.le_of_ble_eq_true rfl) rfl (by first | decide | exact ⟨Nat.zero_le _, Nat.zero_le _⟩) ?_
  exact go_reti (at_of tX2_author 0 4 rfl) rfl
theorem con_setState (hS : Str σ.2.1) (hk : k < 8) {c z : Int} (hc : 0 ≤ c ∧ c < 60) : Con 1 mX2_setState 0 0 [vA (8 + 10 * k), vI c, vI z] σ (vT 8 0, M1 σ (11 + 10 * k) c z) := by
  obtain ⟨g1, g2, g3, g4, g5, g6, g7, g8, g9, g10⟩ := gamk k hk
  obtain ⟨p1, p2, p3, p4, p5, p6, p7, p8, p9⟩ := strk hS k hk
  refine con_of_go mfX2_setState.1 trivial (Nat.le_of_ble_eq_true rfl) rfl (by decide) ?_
  show Go _ _ _ _ 0 [vA _, vI _, vI _] [] _ _
  refine go_aload_n (at_of tX2_setState 0 0 rfl) rfl ?_
  refine go_getr fl_X2_18 rfl (by first | rfl | assumption) (by first | assumption | exact (hS _ _ rfl).trans rfl) (at_of tX2_setState 0 1 rfl) ?_
  refine go_iload_n (at_of tX2_setState 0 2 rfl) rfl ?_
  refine go_iload_n (at_of tX2_setState 0 3 rfl) rfl ?_
  refine go_cN (con_setCell g9 (by omega) hc) lk_X2_35 rfl (at_of tX2_setState 0 4 rfl) rfl (by decide) rfl (Nat.le_of_ble_eq_true rfl) rfl (by first | decide | exact ⟨Nat.zero_le _, Nat.zero_le _⟩) ?_
  exact go_retv (at_of tX2_setState 0 5 rfl) rfl
def waitsB (σ : St) (k : Nat) (c a : Int) : Bool := decide (0 ≤ c ∧ c < σ.1 (8 + 10 * k) 3 ∧ σ.1 (11 + 10 * k) c.toNat = 119 ∧ σ.1 (10 + 10 * k) c.toNat = a)
theorem con_isWaitingOf (hS : Str σ.2.1) (hk : k < 8) (hL : LogU σ k) {c a : Int} : Con 2 mX2_isWaitingOf 0 0 [vA (8 + 10 * k), vI c, vI a] σ (vI (bI (waitsB σ k c a = true)), σ) := by
  obtain ⟨g1, g2, g3, g4, g5, g6, g7, g8, g9, g10⟩ := gamk k hk
  obtain ⟨p1, p2, p3, p4, p5, p6, p7, p8, p9⟩ := strk hS k hk
  obtain ⟨u1, u2, u3, u4⟩ := id hL
  refine con_of_go mfX2_isWaitingOf.1 bI_01 (Nat.le_of_ble_eq_true rfl) rfl (by decide) ?_
  show Go _ _ _ _ 0 [vA _, vI _, vI _] [] _ _
  refine go_iload_n (at_of tX2_isWaitingOf 0 0 rfl) rfl ?_
  refine go_aload_n (at_of tX2_isWaitingOf 0 1 rfl) rfl ?_
  refine go_getf fl_X2_21 rfl (by first | rfl | assumption) (at_of tX2_isWaitingOf 0 2 rfl) ?_
  refine go_cN (con_isWithin) lk_X2_43 rfl (at_of tX2_isWaitingOf 0 3 rfl) rfl (by decide) rfl (Nat.le_of_ble_eq_true rfl) rfl (by first | decide | exact ⟨Nat.zero_le _, Nat.zero_le _⟩) ?_
  have h8' := @bI_0 (0 ≤ c ∧ c < σ.1 (8 + 10 * k) 3) _
  refine go_if_eq (tgt := 34) (at_of tX2_isWaitingOf 0 4 rfl) (by decide) (fun h8 => ?_) (fun h8 => ?_)
  · refine go_iconst (at_of tX2_isWaitingOf 1 1 rfl) (by unfold in32; omega) ?_
    exact go_reti (at_of tX2_isWaitingOf 1 2 rfl) (le_i (by first | exact bI_t (by simp only [waitsB, decide_eq_true_eq]; omega) | exact bI_f (by simp only [waitsB, decide_eq_true_eq]; omega)))
  · refine go_aload_n (at_of tX2_isWaitingOf 0 5 rfl) rfl ?_
    refine go_iload_n (at_of tX2_isWaitingOf 0 6 rfl) rfl ?_
    refine go_cV (con_stateL hS hk hL (by omega)) lk_X2_47 rfl (by first | rfl | assumption) (at_of tX2_isWaitingOf 0 7 rfl) rfl (by decide) rfl (Nat.le_of_ble_eq_true rfl) rfl (by first | decide | exact ⟨Nat.zero_le _, Nat.zero_le _⟩) ?_
    refine go_bipush (at_of tX2_isWaitingOf 0 8 rfl) (by decide) ?_
    refine go_icmp_ne (tgt := 34) (at_of tX2_isWaitingOf 0 9 rfl) (by decide) (fun h18 => ?_) (fun h18 => ?_)
    · refine go_iconst (at_of tX2_isWaitingOf 1 1 rfl) (by unfold in32; omega) ?_
      exact go_reti (at_of tX2_isWaitingOf 1 2 rfl) (le_i (by first | exact bI_t (by simp only [waitsB, decide_eq_true_eq]; omega) | exact bI_f (by simp only [waitsB, decide_eq_true_eq]; omega)))
    · refine go_aload_n (at_of tX2_isWaitingOf 0 10 rfl) rfl ?_
      refine go_iload_n (at_of tX2_isWaitingOf 0 11 rfl) rfl ?_
      refine go_cV (con_authorL hS hk (by omega)) lk_X2_51 rfl (by first | rfl | assumption) (at_of tX2_isWaitingOf 0 12 rfl) rfl (by decide) rfl (Nat.le_of_ble_eq_true rfl) rfl (by first | decide | exact ⟨Nat.zero_le _, Nat.zero_le _⟩) ?_
      refine go_iload_n (at_of tX2_isWaitingOf 0 13 rfl) rfl ?_
      refine go_icmp_ne (tgt := 34) (at_of tX2_isWaitingOf 0 14 rfl) (by decide) (fun h27 => ?_) (fun h27 => ?_)
      · refine go_iconst (at_of tX2_isWaitingOf 1 1 rfl) (by unfold in32; omega) ?_
        exact go_reti (at_of tX2_isWaitingOf 1 2 rfl) (le_i (by first | exact bI_t (by simp only [waitsB, decide_eq_true_eq]; omega) | exact bI_f (by simp only [waitsB, decide_eq_true_eq]; omega)))
      · refine go_iconst (at_of tX2_isWaitingOf 0 15 rfl) (by unfold in32; omega) ?_
        refine go_goto (tgt := 35) (at_of tX2_isWaitingOf 1 0 rfl) (by decide) ?_
        exact go_reti (at_of tX2_isWaitingOf 1 2 rfl) (le_i (by first | exact bI_t (by simp only [waitsB, decide_eq_true_eq]; omega) | exact bI_f (by simp only [waitsB, decide_eq_true_eq]; omega)))
def enr (σ : St) (k : Nat) (kd au : Int) : St := P1 (M1 (M1 (M1 σ (9 + 10 * k) (σ.1 (8 + 10 * k) 3) kd) (10 + 10 * k) (σ.1 (8 + 10 * k) 3) au) (11 + 10 * k) (σ.1 (8 + 10 * k) 3) 119) (8 + 10 * k) 3 (σ.1 (8 + 10 * k) 3 + 1)
theorem con_enroll (hS : Str σ.2.1) (hk : k < 8) (hL : LogU σ k) (hn : σ.1 (8 + 10 * k) 3 < 60) {kd au : Int} : Con 1 mX2_enroll 0 0 [vA (8 + 10 * k), vI kd, vI au] σ (vI (σ.1 (8 + 10 * k) 3), enr σ k kd au) := by
  obtain ⟨g1, g2, g3, g4, g5, g6, g7, g8, g9, g10⟩ := gamk k hk
  obtain ⟨p1, p2, p3, p4, p5, p6, p7, p8, p9⟩ := strk hS k hk
  obtain ⟨u1, u2, u3, u4⟩ := id hL
  refine con_of_go mfX2_enroll.1 trivial (Nat.le_of_ble_eq_true rfl) rfl (by decide) ?_
  show Go _ _ _ _ 0 [vA _, vI _, vI _] [] _ _
  refine go_aload_n (at_of tX2_enroll 0 0 rfl) rfl ?_
  refine go_cV (con_isFullL hS hk) lk_X2_31 rfl (by first | rfl | assumption) (at_of tX2_enroll 0 1 rfl) rfl (by decide) rfl (Nat.le_of_ble_eq_true rfl) rfl (by first | decide | exact ⟨Nat.zero_le _, Nat.zero_le _⟩) ?_
  refine go_if_eq (tgt := 9) (at_of tX2_enroll 0 2 rfl) (by decide) (fun h4 => ?_) (fun h4 => ?_)
  rotate_left
  · exfalso; have := @bI_0 (60 ≤ σ.1 (8 + 10 * k) 3) _; omega
  refine go_aload_n (at_of tX2_enroll 0 5 rfl) rfl ?_
  refine go_getr fl_X2_9 rfl (by first | rfl | assumption) (by first | assumption | exact (hS _ _ rfl).trans rfl) (at_of tX2_enroll 0 6 rfl) ?_
  refine go_aload_n (at_of tX2_enroll 0 7 rfl) rfl ?_
  refine go_getf fl_X2_21 rfl (by first | rfl | assumption) (at_of tX2_enroll 0 8 rfl) ?_
  refine go_iload_n (at_of tX2_enroll 0 9 rfl) rfl ?_
  refine go_cN (con_setCell g7 (by omega) (by omega)) lk_X2_35 rfl (at_of tX2_enroll 0 10 rfl) rfl (by decide) rfl (Nat.le_of_ble_eq_true rfl) rfl (by first | decide | exact ⟨Nat.zero_le _, Nat.zero_le _⟩) ?_
  refine go_aload_n (at_of tX2_enroll 0 11 rfl) rfl ?_
  refine go_getr fl_X2_15 rfl (by first | rfl | assumption) (by first | assumption | exact (hS _ _ rfl).trans rfl) (at_of tX2_enroll 0 12 rfl) ?_
  refine go_aload_n (at_of tX2_enroll 0 13 rfl) rfl ?_
  refine go_getf fl_X2_21 rfl (by first | rfl | assumption) (at_of tX2_enroll 0 14 rfl) ?_
  rw [M1_ne (by omega)]
  refine go_iload_n (at_of tX2_enroll 0 15 rfl) rfl ?_
  refine go_cN (con_setCell g8 (by omega) (by omega)) lk_X2_35 rfl (at_of tX2_enroll 1 0 rfl) rfl (by decide) rfl (Nat.le_of_ble_eq_true rfl) rfl (by first | decide | exact ⟨Nat.zero_le _, Nat.zero_le _⟩) ?_
  refine go_aload_n (at_of tX2_enroll 1 1 rfl) rfl ?_
  refine go_getr fl_X2_18 rfl (by first | rfl | assumption) (by first | assumption | exact (hS _ _ rfl).trans rfl) (at_of tX2_enroll 1 2 rfl) ?_
  refine go_aload_n (at_of tX2_enroll 1 3 rfl) rfl ?_
  refine go_getf fl_X2_21 rfl (by first | rfl | assumption) (at_of tX2_enroll 1 4 rfl) ?_
  repeat rw [M1_ne (by omega)]
  refine go_bipush (at_of tX2_enroll 1 5 rfl) (by decide) ?_
  refine go_cN (con_setCell g9 (by omega) (by omega)) lk_X2_35 rfl (at_of tX2_enroll 1 6 rfl) rfl (by decide) rfl (Nat.le_of_ble_eq_true rfl) rfl (by first | decide | exact ⟨Nat.zero_le _, Nat.zero_le _⟩) ?_
  refine go_aload_n (at_of tX2_enroll 1 7 rfl) rfl ?_
  refine go_dup (at_of tX2_enroll 1 8 rfl) rfl ?_
  refine go_getf fl_X2_21 rfl (by first | rfl | assumption) (at_of tX2_enroll 1 9 rfl) ?_
  repeat rw [M1_ne (by omega)]
  refine go_iconst (at_of tX2_enroll 1 10 rfl) (by unfold in32; omega) ?_
  refine go_iadd (at_of tX2_enroll 1 11 rfl) (by unfold in32; omega) ?_
  refine go_put1 fp_X2_21 rfl (Or.inl rfl) (by first | rfl | assumption) (Or.inl rfl) (at_of tX2_enroll 1 12 rfl) ?_
  refine go_aload_n (at_of tX2_enroll 1 13 rfl) rfl ?_
  refine go_getf fl_X2_21 rfl (by first | rfl | assumption) (at_of tX2_enroll 1 14 rfl) ?_
  rw [P1_eq]
  refine go_iconst (at_of tX2_enroll 1 15 rfl) (by unfold in32; omega) ?_
  refine go_isub (at_of tX2_enroll 2 0 rfl) (by unfold in32; omega) ?_
  exact go_reti (at_of tX2_enroll 2 1 rfl) (by rw [show σ.1 (8 + 10 * k) 3 + 1 - 1 = σ.1 (8 + 10 * k) 3 by omega]; rfl)
theorem lp_isAuthored (hS : Str σ.2.1) (hk : k < 8) (hL : LogU σ k) (ha : ∀ j : Int, 0 ≤ j → j < σ.1 (8 + 10 * k) 3 → 0 ≤ σ.1 (10 + 10 * k) j.toNat ∧ σ.1 (10 + 10 * k) j.toNat < 4) : ∀ (n : Nat) (b : Nat × Nat) (i : Int), 0 ≤ i → i + n = σ.1 (8 + 10 * k) 3 → Go (fun _ => 0) 2 mX2_isAuthored b 2 [vA (8 + 10 * k), vI i] [] σ (vI 1, σ) := by
  obtain ⟨g1, g2, g3, g4, g5, g6, g7, g8, g9, g10⟩ := gamk k hk
  obtain ⟨p1, p2, p3, p4, p5, p6, p7, p8, p9⟩ := strk hS k hk
  obtain ⟨u1, u2, u3, u4⟩ := id hL
  intro n
  induction n with
  | zero =>
    intro b i h0 h1
    refine go_iload_n (at_of tX2_isAuthored 0 2 rfl) rfl ?_
    refine go_aload_n (at_of tX2_isAuthored 0 3 rfl) rfl ?_
    refine go_getf fl_X2_21 rfl (by first | rfl | assumption) (at_of tX2_isAuthored 0 4 rfl) ?_
    refine go_icmp_ge (tgt := 40) (at_of tX2_isAuthored 0 5 rfl) (by decide) (fun h7 => ?_) (fun h7 => ?_)
    rotate_left
    · exfalso; omega
    refine go_iconst (at_of tX2_isAuthored 1 5 rfl) (by unfold in32; omega) ?_
    exact go_reti (at_of tX2_isAuthored 1 6 rfl) rfl
  | succ n ih =>
    intro b i h0 h1
    have q := ha i h0 (by omega)
    refine go_iload_n (at_of tX2_isAuthored 0 2 rfl) rfl ?_
    refine go_aload_n (at_of tX2_isAuthored 0 3 rfl) rfl ?_
    refine go_getf fl_X2_21 rfl (by first | rfl | assumption) (at_of tX2_isAuthored 0 4 rfl) ?_
    refine go_icmp_ge (tgt := 40) (at_of tX2_isAuthored 0 5 rfl) (by decide) (fun h7 => ?_) (fun h7 => ?_)
    · exfalso; omega
    refine go_aload_n (at_of tX2_isAuthored 0 6 rfl) rfl ?_
    refine go_iload_n (at_of tX2_isAuthored 0 7 rfl) rfl ?_
    refine go_cV (con_stateL hS hk hL (by omega)) lk_X2_47 rfl (by first | rfl | assumption) (at_of tX2_isAuthored 0 8 rfl) rfl (by decide) rfl (Nat.le_of_ble_eq_true rfl) rfl (by first | decide | exact ⟨Nat.zero_le _, Nat.zero_le _⟩) ?_
    refine go_bipush (at_of tX2_isAuthored 0 9 rfl) (by decide) ?_
    refine go_icmp_ne (tgt := 34) (at_of tX2_isAuthored 0 10 rfl) (by decide) (fun h17 => ?_) (fun h17 => ?_)
    · refine go_iinc (at_of tX2_isAuthored 1 3 rfl) rfl (by unfold in32; omega) rfl rfl ?_
      refine go_goto (tgt := 2) (at_of tX2_isAuthored 1 4 rfl) (by decide) ?_
      exact ih _ _ (by omega) (by omega)
    · refine go_aload_n (at_of tX2_isAuthored 0 11 rfl) rfl ?_
      refine go_iload_n (at_of tX2_isAuthored 0 12 rfl) rfl ?_
      refine go_cV (con_authorL hS hk (by omega)) lk_X2_51 rfl (by first | rfl | assumption) (at_of tX2_isAuthored 0 13 rfl) rfl (by decide) rfl (Nat.le_of_ble_eq_true rfl) rfl (by first | decide | exact ⟨Nat.zero_le _, Nat.zero_le _⟩) ?_
      refine go_iconst (at_of tX2_isAuthored 0 14 rfl) (by unfold in32; omega) ?_
      refine go_cN (con_isWithin) lk_X2_43 rfl (at_of tX2_isAuthored 0 15 rfl) rfl (by decide) rfl (Nat.le_of_ble_eq_true rfl) rfl (by first | decide | exact ⟨Nat.zero_le _, Nat.zero_le _⟩) ?_
      rw [bI_t q]
      refine go_if_ne (tgt := 34) (at_of tX2_isAuthored 1 0 rfl) (by decide) (fun h29 => ?_) (fun h29 => ?_)
      · refine go_iinc (at_of tX2_isAuthored 1 3 rfl) rfl (by unfold in32; omega) rfl rfl ?_
        refine go_goto (tgt := 2) (at_of tX2_isAuthored 1 4 rfl) (by decide) ?_
        exact ih _ _ (by omega) (by omega)
      · omega
theorem con_isAuthored (hS : Str σ.2.1) (hk : k < 8) (hL : LogU σ k) (ha : ∀ j : Int, 0 ≤ j → j < σ.1 (8 + 10 * k) 3 → 0 ≤ σ.1 (10 + 10 * k) j.toNat ∧ σ.1 (10 + 10 * k) j.toNat < 4) : Con 2 mX2_isAuthored 0 0 [vA (8 + 10 * k)] σ (vI 1, σ) := by
  obtain ⟨g1, g2, g3, g4, g5, g6, g7, g8, g9, g10⟩ := gamk k hk
  obtain ⟨p1, p2, p3, p4, p5, p6, p7, p8, p9⟩ := strk hS k hk
  obtain ⟨u1, u2, u3, u4⟩ := id hL
  refine con_of_go mfX2_isAuthored.1 (Or.inr rfl) (Nat.le_of_ble_eq_true rfl) rfl (by decide) ?_
  show Go _ _ _ _ 0 [vA _, vT 9 0] [] _ _
  refine go_iconst (at_of tX2_isAuthored 0 0 rfl) (by unfold in32; omega) ?_
  refine go_istore_n (at_of tX2_isAuthored 0 1 rfl) rfl rfl ?_
  exact lp_isAuthored hS hk hL ha (σ.1 (8 + 10 * k) 3).toNat _ 0 (by omega) (by omega)
/-- the change ahead of a place, if it is the author's and waits -/
def chAh (σ : St) (k : Nat) (a i : Int) : Int := if 0 < i ∧ waitsB σ k (fA σ (5 + 10 * k) 2 (i - 1)) a = true then fA σ (5 + 10 * k) 2 (i - 1) else -1
theorem con_changeAhead (hS : Str σ.2.1) (hk : k < 8) (hL : LogU σ k) {a i : Int} (hi : 0 ≤ i ∧ i ≤ 200) : Con 3 mX4_changeAhead 0 0 [vA (3 + 10 * k), vI a, vI i] σ (vI (chAh σ k a i), σ) := by
  obtain ⟨g1, g2, g3, g4, g5, g6, g7, g8, g9, g10⟩ := gamk k hk
  obtain ⟨p1, p2, p3, p4, p5, p6, p7, p8, p9⟩ := strk hS k hk
  obtain ⟨u1, u2, u3, u4⟩ := id hL
  by_cases h0 : 0 < i
  · refine con_of_go mfX4_changeAhead.1 trivial (Nat.le_of_ble_eq_true rfl) rfl (by decide) ?_
    show Go _ _ _ _ 0 [vA _, vI _, vI _, vT 9 0] [] _ _
    refine go_aload_n (at_of tX4_changeAhead 0 0 rfl) rfl ?_
    refine go_getr fl_X4_12 rfl (by first | rfl | assumption) (by first | assumption | exact (hS _ _ rfl).trans rfl) (at_of tX4_changeAhead 0 1 rfl) ?_
    refine go_iconst (at_of tX4_changeAhead 0 2 rfl) (by unfold in32; omega) ?_
    refine go_iload_n (at_of tX4_changeAhead 0 3 rfl) rfl ?_
    refine go_iconst (at_of tX4_changeAhead 0 4 rfl) (by unfold in32; omega) ?_
    refine go_isub (at_of tX4_changeAhead 0 5 rfl) (by unfold in32; omega) ?_
    refine go_cV (con_fact (rowP hS hk) (by omega) (by omega)) lk_X4_47 rfl (by first | rfl | assumption) (at_of tX4_changeAhead 0 6 rfl) rfl (by decide) rfl (Nat.le_of_ble_eq_true rfl) rfl (by first | decide | exact ⟨Nat.zero_le _, Nat.zero_le _⟩) ?_
    refine go_istore_n (at_of tX4_changeAhead 0 7 rfl) rfl rfl ?_
    refine go_aload_n (at_of tX4_changeAhead 0 8 rfl) rfl ?_
    refine go_getr fl_X4_21 rfl (by first | rfl | assumption) (by first | assumption | exact (hS _ _ rfl).trans rfl) (at_of tX4_changeAhead 0 9 rfl) ?_
    refine go_iload_n (at_of tX4_changeAhead 0 10 rfl) rfl ?_
    refine go_iload_n (at_of tX4_changeAhead 0 11 rfl) rfl ?_
    refine go_cV (con_isWaitingOf hS hk hL) lk_X4_51 rfl (by first | rfl | assumption) (at_of tX4_changeAhead 0 12 rfl) rfl (by decide) rfl (Nat.le_of_ble_eq_true rfl) rfl (by first | decide | exact ⟨Nat.zero_le _, Nat.zero_le _⟩) ?_
    refine go_if_eq (tgt := 28) (at_of tX4_changeAhead 0 13 rfl) (by decide) (fun h21 => ?_) (fun h21 => ?_)
    · refine go_iconst (at_of tX4_changeAhead 1 0 rfl) (by unfold in32; omega) ?_
      exact go_reti (at_of tX4_changeAhead 1 1 rfl) (le_i (by unfold chAh; first | exact if_pos ⟨h0, bI_1.mp h21⟩ | exact if_neg (fun q => bI_0.mp h21 q.2)))
    · refine go_iload_n (at_of tX4_changeAhead 0 14 rfl) rfl ?_
      refine go_goto (tgt := 29) (at_of tX4_changeAhead 0 15 rfl) (by decide) ?_
      exact go_reti (at_of tX4_changeAhead 1 1 rfl) (le_i (by unfold chAh; first | exact if_pos ⟨h0, bI_1.mp h21⟩ | exact if_neg (fun q => bI_0.mp h21 q.2)))
  · refine con_of_go mfX4_changeAhead.1 trivial (Nat.le_of_ble_eq_true rfl) rfl (by decide) ?_
    show Go _ _ _ _ 0 [vA _, vI _, vI _, vT 9 0] [] _ _
    refine go_aload_n (at_of tX4_changeAhead 0 0 rfl) rfl ?_
    refine go_getr fl_X4_12 rfl (by first | rfl | assumption) (by first | assumption | exact (hS _ _ rfl).trans rfl) (at_of tX4_changeAhead 0 1 rfl) ?_
    refine go_iconst (at_of tX4_changeAhead 0 2 rfl) (by unfold in32; omega) ?_
    refine go_iload_n (at_of tX4_changeAhead 0 3 rfl) rfl ?_
    refine go_iconst (at_of tX4_changeAhead 0 4 rfl) (by unfold in32; omega) ?_
    refine go_isub (at_of tX4_changeAhead 0 5 rfl) (by unfold in32; omega) ?_
    refine go_cV (con_fact_out (rowP hS hk) (by omega) (by omega) (by omega)) lk_X4_47 rfl (by first | rfl | assumption) (at_of tX4_changeAhead 0 6 rfl) rfl (by decide) rfl (Nat.le_of_ble_eq_true rfl) rfl (by first | decide | exact ⟨Nat.zero_le _, Nat.zero_le _⟩) ?_
    refine go_istore_n (at_of tX4_changeAhead 0 7 rfl) rfl rfl ?_
    refine go_aload_n (at_of tX4_changeAhead 0 8 rfl) rfl ?_
    refine go_getr fl_X4_21 rfl (by first | rfl | assumption) (by first | assumption | exact (hS _ _ rfl).trans rfl) (at_of tX4_changeAhead 0 9 rfl) ?_
    refine go_iload_n (at_of tX4_changeAhead 0 10 rfl) rfl ?_
    refine go_iload_n (at_of tX4_changeAhead 0 11 rfl) rfl ?_
    refine go_cV (con_isWaitingOf hS hk hL) lk_X4_51 rfl (by first | rfl | assumption) (at_of tX4_changeAhead 0 12 rfl) rfl (by decide) rfl (Nat.le_of_ble_eq_true rfl) rfl (by first | decide | exact ⟨Nat.zero_le _, Nat.zero_le _⟩) ?_
    rw [bI_f (by unfold waitsB; simp)]
    refine go_if_eq (tgt := 28) (at_of tX4_changeAhead 0 13 rfl) (by decide) (fun h21 => ?_) (fun h21 => ?_)
    · refine go_iconst (at_of tX4_changeAhead 1 0 rfl) (by unfold in32; omega) ?_
      exact go_reti (at_of tX4_changeAhead 1 1 rfl) (le_i (by unfold chAh; exact if_neg (fun q => h0 q.1)))
    · omega
theorem con_isOwn (hS : Str σ.2.1) (hk : k < 8) (hL : LogU σ k) {a i : Int} (hi : 0 ≤ i ∧ i ≤ 200) : Con 3 mX4_isOwn 0 0 [vA (3 + 10 * k), vI a, vI i] σ (vI (bI (waitsB σ k (fA σ (5 + 10 * k) 2 i) a = true)), σ) := by
  obtain ⟨g1, g2, g3, g4, g5, g6, g7, g8, g9, g10⟩ := gamk k hk
  obtain ⟨p1, p2, p3, p4, p5, p6, p7, p8, p9⟩ := strk hS k hk
  obtain ⟨u1, u2, u3, u4⟩ := id hL
  refine con_of_go mfX4_isOwn.1 bI_01 (Nat.le_of_ble_eq_true rfl) rfl (by decide) ?_
  show Go _ _ _ _ 0 [vA _, vI _, vI _] [] _ _
  refine go_aload_n (at_of tX4_isOwn 0 0 rfl) rfl ?_
  refine go_getr fl_X4_21 rfl (by first | rfl | assumption) (by first | assumption | exact (hS _ _ rfl).trans rfl) (at_of tX4_isOwn 0 1 rfl) ?_
  refine go_aload_n (at_of tX4_isOwn 0 2 rfl) rfl ?_
  refine go_getr fl_X4_12 rfl (by first | rfl | assumption) (by first | assumption | exact (hS _ _ rfl).trans rfl) (at_of tX4_isOwn 0 3 rfl) ?_
  refine go_iconst (at_of tX4_isOwn 0 4 rfl) (by unfold in32; omega) ?_
  refine go_iload_n (at_of tX4_isOwn 0 5 rfl) rfl ?_
  refine go_cV (con_fact (rowP hS hk) (by omega) (by omega)) lk_X4_47 rfl (by first | rfl | assumption) (at_of tX4_isOwn 0 6 rfl) rfl (by decide) rfl (Nat.le_of_ble_eq_true rfl) rfl (by first | decide | exact ⟨Nat.zero_le _, Nat.zero_le _⟩) ?_
  refine go_iload_n (at_of tX4_isOwn 0 7 rfl) rfl ?_
  refine go_cV (con_isWaitingOf hS hk hL) lk_X4_51 rfl (by first | rfl | assumption) (at_of tX4_isOwn 0 8 rfl) rfl (by decide) rfl (Nat.le_of_ble_eq_true rfl) rfl (by first | decide | exact ⟨Nat.zero_le _, Nat.zero_le _⟩) ?_
  exact go_reti (at_of tX4_isOwn 0 9 rfl) rfl
/-- units of others, or that no change has written, that are seen -/
def othB (σ : St) (k : Nat) (a i : Int) : Bool := seenB (fA σ (5 + 10 * k)) (σ.1 (4 + 10 * k) 3) i && !(waitsB σ k (fA σ (5 + 10 * k) 2 i) a)
def anyF (p : Int → Bool) : Nat → Int → Bool
  | 0, _ => false
  | n + 1, i => p i || anyF p n (i + 1)
theorem lp_hasOthers (hS : Str σ.2.1) (hk : k < 8) (hL : LogU σ k) (hU : RowU σ (4 + 10 * k)) {a x y : Int} (hy : y ≤ (σ.1 (4 + 10 * k) 3)) : ∀ (n : Nat) (b : Nat × Nat) (i : Int), 0 ≤ i → i + n = y → Go (fun _ => 0) 4 mX4_hasOthers b 3 [vA (3 + 10 * k), vI a, vI x, vI y, vI i] [] σ (vI (bI (anyF (othB σ k a) n i = true)), σ) := by
  obtain ⟨g1, g2, g3, g4, g5, g6, g7, g8, g9, g10⟩ := gamk k hk
  obtain ⟨p1, p2, p3, p4, p5, p6, p7, p8, p9⟩ := strk hS k hk
  obtain ⟨u1, u2, u3, u4⟩ := id hL
  obtain ⟨v1, v2⟩ := id hU
  intro n
  induction n with
  | zero =>
    intro b i h0 h1
    refine go_iload (at_of tX4_hasOthers 0 2 rfl) rfl rfl ?_
    refine go_iload_n (at_of tX4_hasOthers 0 3 rfl) rfl ?_
    refine go_icmp_ge (tgt := 39) (at_of tX4_hasOthers 0 4 rfl) (by decide) (fun h6 => ?_) (fun h6 => ?_)
    rotate_left
    · exfalso; omega
    refine go_iconst (at_of tX4_hasOthers 1 3 rfl) (by unfold in32; omega) ?_
    exact go_reti (at_of tX4_hasOthers 1 4 rfl) (le_i (bI_f (by rw [anyF]; decide)))
  | succ n ih =>
    intro b i h0 h1
    rw [anyF]
    refine go_iload (at_of tX4_hasOthers 0 2 rfl) rfl rfl ?_
    refine go_iload_n (at_of tX4_hasOthers 0 3 rfl) rfl ?_
    refine go_icmp_ge (tgt := 39) (at_of tX4_hasOthers 0 4 rfl) (by decide) (fun h6 => ?_) (fun h6 => ?_)
    · exfalso; omega
    refine go_aload_n (at_of tX4_hasOthers 0 5 rfl) rfl ?_
    refine go_getr fl_X4_12 rfl (by first | rfl | assumption) (by first | assumption | exact (hS _ _ rfl).trans rfl) (at_of tX4_hasOthers 0 6 rfl) ?_
    refine go_iload (at_of tX4_hasOthers 0 7 rfl) rfl rfl ?_
    refine go_cV (con_isSeen (rowP hS hk) hU) lk_X4_55 rfl (by first | rfl | assumption) (at_of tX4_hasOthers 0 8 rfl) rfl (by decide) rfl (Nat.le_of_ble_eq_true rfl) rfl (by first | decide | exact ⟨Nat.zero_le _, Nat.zero_le _⟩) ?_
    refine go_if_eq (tgt := 33) (at_of tX4_hasOthers 0 9 rfl) (by decide) (fun h18 => ?_) (fun h18 => ?_)
    · refine go_iinc (at_of tX4_hasOthers 1 1 rfl) rfl (by unfold in32; omega) rfl rfl ?_
      refine go_goto (tgt := 3) (at_of tX4_hasOthers 1 2 rfl) (by decide) ?_
      have e9 : othB σ k a i = false := by
        unfold othB
        first
          | (rw [eq_false_of_ne_true (bI_0.mp h18)]; rfl)
          | (rw [bI_1.mp h28]; simp)
      rw [e9, Bool.false_or]; exact ih _ _ (by omega) (by omega)
    · refine go_aload_n (at_of tX4_hasOthers 0 10 rfl) rfl ?_
      refine go_iload_n (at_of tX4_hasOthers 0 11 rfl) rfl ?_
      refine go_iload (at_of tX4_hasOthers 0 12 rfl) rfl rfl ?_
      refine go_cV (con_isOwn hS hk hL (by omega)) lk_X4_59 rfl (by first | rfl | assumption) (at_of tX4_hasOthers 0 13 rfl) rfl (by decide) rfl (Nat.le_of_ble_eq_true rfl) rfl (by first | decide | exact ⟨Nat.zero_le _, Nat.zero_le _⟩) ?_
      refine go_if_ne (tgt := 33) (at_of tX4_hasOthers 0 14 rfl) (by decide) (fun h28 => ?_) (fun h28 => ?_)
      · refine go_iinc (at_of tX4_hasOthers 1 1 rfl) rfl (by unfold in32; omega) rfl rfl ?_
        refine go_goto (tgt := 3) (at_of tX4_hasOthers 1 2 rfl) (by decide) ?_
        have e9 : othB σ k a i = false := by
          unfold othB
          first
            | (rw [eq_false_of_ne_true (bI_0.mp h18)]; rfl)
            | (rw [bI_1.mp h28]; simp)
        rw [e9, Bool.false_or]; exact ih _ _ (by omega) (by omega)
      · refine go_iconst (at_of tX4_hasOthers 0 15 rfl) (by unfold in32; omega) ?_
        exact go_reti (at_of tX4_hasOthers 1 0 rfl) (le_i (bI_t (by unfold othB; rw [bI_1.mp h18, eq_false_of_ne_true (bI_0.mp h28)]; rfl)))
theorem con_hasOthers (hS : Str σ.2.1) (hk : k < 8) (hL : LogU σ k) (hU : RowU σ (4 + 10 * k)) {a x y : Int} (hx : 0 ≤ x) (hxy : x ≤ y) (hy : y ≤ (σ.1 (4 + 10 * k) 3)) : Con 4 mX4_hasOthers 0 0 [vA (3 + 10 * k), vI a, vI x, vI y] σ (vI (bI (anyF (othB σ k a) (y - x).toNat x = true)), σ) := by
  obtain ⟨g1, g2, g3, g4, g5, g6, g7, g8, g9, g10⟩ := gamk k hk
  obtain ⟨p1, p2, p3, p4, p5, p6, p7, p8, p9⟩ := strk hS k hk
  obtain ⟨u1, u2, u3, u4⟩ := id hL
  refine con_of_go mfX4_hasOthers.1 bI_01 (Nat.le_of_ble_eq_true rfl) rfl (by decide) ?_
  show Go _ _ _ _ 0 [vA _, vI _, vI _, vI _, vT 9 0] [] _ _
  refine go_iload_n (at_of tX4_hasOthers 0 0 rfl) rfl ?_
  refine go_istore (at_of tX4_hasOthers 0 1 rfl) rfl rfl ?_
  exact lp_hasOthers hS hk hL hU hy _ _ x (by omega) (by omega)
end LogQ
