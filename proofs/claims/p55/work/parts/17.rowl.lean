section Loops
/-- a loop upward, downward -/
def upX {α : Type} (f : α → Int → α) : Nat → Int → α → α
  | 0, _, A => A
  | m + 1, i, A => upX f m (i + 1) (f A i)
def dnX {α : Type} (f : α → Int → α) : Nat → Int → α → α
  | 0, _, A => A
  | m + 1, i, A => dnX f m (i - 1) (f A i)
theorem loop_up {α : Type} {Rep : St → α → Int → Prop} {f : α → Int → α} {hi : Int} {G : Nat × Nat → α → Int → St → MV × St → Prop}
    (hstep : ∀ σ A i, Rep σ A i → i < hi → ∃ σ', Rep σ' (f A i) (i + 1) ∧ ∀ b out, (∀ b', G b' (f A i) (i + 1) σ' out) → G b A i σ out) :
    ∀ (m : Nat) σ A i, Rep σ A i → i + m = hi → ∃ σ', Rep σ' (upX f m i A) hi ∧ ∀ b out, (∀ b', G b' (upX f m i A) hi σ' out) → G b A i σ out := by
  intro m
  induction m with
  | zero =>
    intro σ A i h e
    obtain rfl : i = hi := by omega
    exact ⟨σ, h, fun b out K => K b⟩
  | succ m ih =>
    intro σ A i h e
    obtain ⟨σ1, h1, h2⟩ := hstep σ A i h (by omega)
    obtain ⟨σ2, h3, h4⟩ := ih σ1 (f A i) (i + 1) h1 (by omega)
    exact ⟨σ2, h3, fun b out K => h2 b out (fun b' => h4 b' out K)⟩
theorem loop_dn {α : Type} {Rep : St → α → Int → Prop} {f : α → Int → α} {lo : Int} {G : Nat × Nat → α → Int → St → MV × St → Prop}
    (hstep : ∀ σ A i, Rep σ A i → lo ≤ i → ∃ σ', Rep σ' (f A i) (i - 1) ∧ ∀ b out, (∀ b', G b' (f A i) (i - 1) σ' out) → G b A i σ out) :
    ∀ (m : Nat) σ A i, Rep σ A i → i + 1 = lo + m → ∃ σ', Rep σ' (dnX f m i A) (lo - 1) ∧ ∀ b out, (∀ b', G b' (dnX f m i A) (lo - 1) σ' out) → G b A i σ out := by
  intro m
  induction m with
  | zero =>
    intro σ A i h e
    obtain rfl : i = lo - 1 := by omega
    exact ⟨σ, h, fun b out K => K b⟩
  | succ m ih =>
    intro σ A i h e
    obtain ⟨σ1, h1, h2⟩ := hstep σ A i h (by omega)
    obtain ⟨σ2, h3, h4⟩ := ih σ1 (f A i) (i - 1) h1 (by omega)
    exact ⟨σ2, h3, fun b out K => h2 b out (fun b' => h4 b' out K)⟩
end Loops
section RowL
variable {σ : St} {k : Nat} {R : RowD}
/-- dropping where p holds; setting a fact; forgetting a change -/
def drpF (p : RowD → Int → Bool) (R : RowD) (i : Int) : RowD := if p R i = true then drpR R i else R
def relF (w c : Int) (R : RowD) (i : Int) : RowD := if R.1 w i = c then setR R w i (-1) else R
def styF (c : Int) (acc : Bool) (R : RowD) (i : Int) : RowD := if R.1 4 i = c then (if acc = true then setR R 4 i (-1) else setR (setR R 4 i (-1)) 5 i (R.1 6 i)) else R
theorem con_dropAll (hS : Str σ.2.1) (hk : k < 8) (hR : RepR σ k R) {w c : Int} (hw : 0 ≤ w ∧ w ≤ 10) : ∃ σ', Con 1 mX7_dropAll 0 0 [vA (4 + 10 * k), vI w, vI c] σ (vT 8 0, σ') ∧ RepR σ' k (dnX (drpF (fun R i => decide (R.1 w i = c))) R.2.1.toNat (R.2.1 - 1) R) ∧ Frm σ σ' (4 + 10 * k) (7 + 10 * k) := by
  have hn := hR.1
  obtain ⟨hw1, hw2, hw3⟩ := hR.2.2.2
  have key := loop_dn (Rep := fun σ' R i => RepR σ' k R ∧ Frm σ σ' (4 + 10 * k) (7 + 10 * k) ∧ -1 ≤ i ∧ i < R.2.1) (f := drpF (fun R i => decide (R.1 w i = c))) (lo := 0)
    (G := fun b _ i σ out => Go (fun _ => 0) 1 mX7_dropAll b 7 [vA (4 + 10 * k), vI w, vI c, vI i] [] σ out) (fun σ R i h hlo => ?_) R.2.1.toNat σ R (R.2.1 - 1) ⟨hR, Frm.refl, by omega, by omega⟩ (by omega)
  · obtain ⟨σ', ⟨q1, q2, -⟩, q3⟩ := key
    refine ⟨σ', ?_, q1, q2⟩
    obtain ⟨g1, g2, g3, g4, g5, g6, g7, g8, g9, g10⟩ := gamk k hk
    obtain ⟨p1, p2, p3, p4, p5, p6, p7, p8, p9⟩ := strk hS k hk
    refine con_of_go mfX7_dropAll.1 trivial (Nat.le_of_ble_eq_true rfl) rfl (by decide) ?_
    show Go _ _ _ _ 0 [vA _, vI _, vI _, vT 9 0] [] _ _
    refine go_aload_n (at_of tX7_dropAll 0 0 rfl) rfl ?_
    refine go_getf fl_X7_21 rfl (by first | rfl | assumption) (at_of tX7_dropAll 0 1 rfl) ?_
    refine go_iconst (at_of tX7_dropAll 0 2 rfl) (by unfold in32; omega) ?_
    refine go_isub (at_of tX7_dropAll 0 3 rfl) (by unfold in32; omega) ?_
    refine go_istore_n (at_of tX7_dropAll 0 4 rfl) rfl rfl ?_
    rw [hn]
    refine q3 _ _ (fun b => ?_)
    refine go_iload_n (at_of tX7_dropAll 0 5 rfl) rfl ?_
    refine go_if_lt (tgt := 32) (at_of tX7_dropAll 0 6 rfl) (by decide) (fun h8 => ?_) (fun h8 => ?_)
    rotate_left
    · exfalso; omega
    exact go_retv (at_of tX7_dropAll 1 2 rfl) rfl
  · skip
    obtain ⟨hR, hF, hi⟩ := h
    obtain ⟨g1, g2, g3, g4, g5, g6, g7, g8, g9, g10⟩ := gamk k hk
    have hS : Str σ.2.1 := by rw [hF.1]; exact hS
    obtain ⟨p1, p2, p3, p4, p5, p6, p7, p8, p9⟩ := strk hS k hk
    have hn := hR.1
    obtain ⟨hw1, hw2, hw3⟩ := hR.2.2.2
    have hv := hR.2.1 w i hw.1 hw.2 (by omega) (by omega)
    unfold drpF
    by_cases hc : R.1 w i = c
    · rw [if_pos (decide_eq_true hc)]
      refine ⟨drS σ k i, ⟨rep_dr hR (by omega), hF.trans dr_frm, by omega, by show i - 1 < R.2.1 - 1; omega⟩, fun b out K => ?_⟩
      refine go_iload_n (at_of tX7_dropAll 0 5 rfl) rfl ?_
      refine go_if_lt (tgt := 32) (at_of tX7_dropAll 0 6 rfl) (by decide) (fun h8 => ?_) (fun h8 => ?_)
      · exfalso; omega
      refine go_aload_n (at_of tX7_dropAll 0 7 rfl) rfl ?_
      refine go_iload_n (at_of tX7_dropAll 0 8 rfl) rfl ?_
      refine go_iload_n (at_of tX7_dropAll 0 9 rfl) rfl ?_
      refine go_cV (con_fact (rowP (by exact hS) hk) (by omega) (by omega)) lk_X7_31 rfl (by first | rfl | assumption) (at_of tX7_dropAll 0 10 rfl) rfl (by decide) rfl (Nat.le_of_ble_eq_true rfl) rfl (by first | decide | exact ⟨Nat.zero_le _, Nat.zero_le _⟩) ?_
      refine go_iload_n (at_of tX7_dropAll 0 11 rfl) rfl ?_
      refine go_icmp_ne (tgt := 26) (at_of tX7_dropAll 0 12 rfl) (by decide) (fun h18 => ?_) (fun h18 => ?_)
      · exfalso; rw [hv] at h18; omega
      refine go_aload_n (at_of tX7_dropAll 0 13 rfl) rfl ?_
      refine go_iload_n (at_of tX7_dropAll 0 14 rfl) rfl ?_
      refine go_cV (con_drop hS hk hR (by omega)) lk_X7_66 rfl (by first | rfl | assumption) (at_of tX7_dropAll 0 15 rfl) rfl (by decide) rfl (Nat.le_of_ble_eq_true rfl) rfl (by first | decide | exact ⟨Nat.zero_le _, Nat.zero_le _⟩) ?_
      refine go_iinc (at_of tX7_dropAll 1 0 rfl) rfl (by unfold in32; omega) rfl rfl ?_
      refine go_goto (tgt := 7) (at_of tX7_dropAll 1 1 rfl) (by decide) ?_
      exact K _
    · rw [if_neg (by simpa using hc)]
      refine ⟨σ, ⟨hR, hF, by omega, by omega⟩, fun b out K => ?_⟩
      refine go_iload_n (at_of tX7_dropAll 0 5 rfl) rfl ?_
      refine go_if_lt (tgt := 32) (at_of tX7_dropAll 0 6 rfl) (by decide) (fun h8 => ?_) (fun h8 => ?_)
      · exfalso; omega
      refine go_aload_n (at_of tX7_dropAll 0 7 rfl) rfl ?_
      refine go_iload_n (at_of tX7_dropAll 0 8 rfl) rfl ?_
      refine go_iload_n (at_of tX7_dropAll 0 9 rfl) rfl ?_
      refine go_cV (con_fact (rowP (by exact hS) hk) (by omega) (by omega)) lk_X7_31 rfl (by first | rfl | assumption) (at_of tX7_dropAll 0 10 rfl) rfl (by decide) rfl (Nat.le_of_ble_eq_true rfl) rfl (by first | decide | exact ⟨Nat.zero_le _, Nat.zero_le _⟩) ?_
      refine go_iload_n (at_of tX7_dropAll 0 11 rfl) rfl ?_
      refine go_icmp_ne (tgt := 26) (at_of tX7_dropAll 0 12 rfl) (by decide) (fun h18 => ?_) (fun h18 => ?_)
      rotate_left
      · exfalso; rw [hv] at h18; omega
      refine go_iinc (at_of tX7_dropAll 1 0 rfl) rfl (by unfold in32; omega) rfl rfl ?_
      refine go_goto (tgt := 7) (at_of tX7_dropAll 1 1 rfl) (by decide) ?_
      exact K _
theorem con_dropSeen (hS : Str σ.2.1) (hk : k < 8) (hR : RepR σ k R) {x y : Int} (hx : 0 ≤ x) (hxy : x ≤ y) (hy : y ≤ R.2.1) : ∃ σ', Con 2 mX7_dropSeen 0 0 [vA (4 + 10 * k), vI x, vI y] σ (vT 8 0, σ') ∧ RepR σ' k (dnX (drpF (fun R i => seenB R.1 R.2.1 i)) (y - x).toNat (y - 1) R) ∧ Frm σ σ' (4 + 10 * k) (7 + 10 * k) := by
  have hn := hR.1
  obtain ⟨hw1, hw2, hw3⟩ := hR.2.2.2
  have key := loop_dn (Rep := fun σ' R i => RepR σ' k R ∧ Frm σ σ' (4 + 10 * k) (7 + 10 * k) ∧ -1 ≤ i ∧ i < R.2.1) (f := drpF (fun R i => seenB R.1 R.2.1 i)) (lo := x)
    (G := fun b _ i σ out => Go (fun _ => 0) 2 mX7_dropSeen b 4 [vA (4 + 10 * k), vI x, vI y, vI i] [] σ out) (fun σ R i h hlo => ?_) (y - x).toNat σ R (y - 1) ⟨hR, Frm.refl, by omega, by omega⟩ (by omega)
  · obtain ⟨σ', ⟨q1, q2, -⟩, q3⟩ := key
    refine ⟨σ', ?_, q1, q2⟩
    obtain ⟨g1, g2, g3, g4, g5, g6, g7, g8, g9, g10⟩ := gamk k hk
    obtain ⟨p1, p2, p3, p4, p5, p6, p7, p8, p9⟩ := strk hS k hk
    refine con_of_go mfX7_dropSeen.1 trivial (Nat.le_of_ble_eq_true rfl) rfl (by decide) ?_
    show Go _ _ _ _ 0 [vA _, vI _, vI _, vT 9 0] [] _ _
    refine go_iload_n (at_of tX7_dropSeen 0 0 rfl) rfl ?_
    refine go_iconst (at_of tX7_dropSeen 0 1 rfl) (by unfold in32; omega) ?_
    refine go_isub (at_of tX7_dropSeen 0 2 rfl) (by unfold in32; omega) ?_
    refine go_istore_n (at_of tX7_dropSeen 0 3 rfl) rfl rfl ?_
    refine q3 _ _ (fun b => ?_)
    refine go_iload_n (at_of tX7_dropSeen 0 4 rfl) rfl ?_
    refine go_iload_n (at_of tX7_dropSeen 0 5 rfl) rfl ?_
    refine go_icmp_lt (tgt := 32) (at_of tX7_dropSeen 0 6 rfl) (by decide) (fun h6 => ?_) (fun h6 => ?_)
    rotate_left
    · exfalso; omega
    exact go_retv (at_of tX7_dropSeen 1 2 rfl) rfl
  · skip
    obtain ⟨hR, hF, hi⟩ := h
    obtain ⟨g1, g2, g3, g4, g5, g6, g7, g8, g9, g10⟩ := gamk k hk
    have hS : Str σ.2.1 := by rw [hF.1]; exact hS
    obtain ⟨p1, p2, p3, p4, p5, p6, p7, p8, p9⟩ := strk hS k hk
    have hn := hR.1
    obtain ⟨hw1, hw2, hw3⟩ := hR.2.2.2
    unfold drpF
    have hv : seenB (fA σ (5 + 10 * k)) (σ.1 (4 + 10 * k) 3) i = seenB R.1 R.2.1 i := by rw [hn]; exact hR.eqF.seen i
    by_cases hc : seenB R.1 R.2.1 i = true
    · rw [if_pos hc]
      refine ⟨drS σ k i, ⟨rep_dr hR (by omega), hF.trans dr_frm, by omega, by show i - 1 < R.2.1 - 1; omega⟩, fun b out K => ?_⟩
      refine go_iload_n (at_of tX7_dropSeen 0 4 rfl) rfl ?_
      refine go_iload_n (at_of tX7_dropSeen 0 5 rfl) rfl ?_
      refine go_icmp_lt (tgt := 32) (at_of tX7_dropSeen 0 6 rfl) (by decide) (fun h6 => ?_) (fun h6 => ?_)
      · exfalso; omega
      refine go_iload_n (at_of tX7_dropSeen 0 7 rfl) rfl ?_
      refine go_if_lt (tgt := 32) (at_of tX7_dropSeen 0 8 rfl) (by decide) (fun h10 => ?_) (fun h10 => ?_)
      · exfalso; omega
      refine go_aload_n (at_of tX7_dropSeen 0 9 rfl) rfl ?_
      refine go_iload_n (at_of tX7_dropSeen 0 10 rfl) rfl ?_
      refine go_cV (con_isSeen (rowP (by exact hS) hk) hR.u) lk_X7_35 rfl (by first | rfl | assumption) (at_of tX7_dropSeen 0 11 rfl) rfl (by decide) rfl (Nat.le_of_ble_eq_true rfl) rfl (by first | decide | exact ⟨Nat.zero_le _, Nat.zero_le _⟩) ?_
      refine go_if_eq (tgt := 26) (at_of tX7_dropSeen 0 12 rfl) (by decide) (fun h18 => ?_) (fun h18 => ?_)
      · exfalso; rw [hv] at h18; exact bI_0.mp h18 hc
      refine go_aload_n (at_of tX7_dropSeen 0 13 rfl) rfl ?_
      refine go_iload_n (at_of tX7_dropSeen 0 14 rfl) rfl ?_
      refine go_cV (con_drop hS hk hR (by omega)) lk_X7_66 rfl (by first | rfl | assumption) (at_of tX7_dropSeen 0 15 rfl) rfl (by decide) rfl (Nat.le_of_ble_eq_true rfl) rfl (by first | decide | exact ⟨Nat.zero_le _, Nat.zero_le _⟩) ?_
      refine go_iinc (at_of tX7_dropSeen 1 0 rfl) rfl (by unfold in32; omega) rfl rfl ?_
      refine go_goto (tgt := 4) (at_of tX7_dropSeen 1 1 rfl) (by decide) ?_
      exact K _
    · rw [if_neg hc]
      refine ⟨σ, ⟨hR, hF, by omega, by omega⟩, fun b out K => ?_⟩
      refine go_iload_n (at_of tX7_dropSeen 0 4 rfl) rfl ?_
      refine go_iload_n (at_of tX7_dropSeen 0 5 rfl) rfl ?_
      refine go_icmp_lt (tgt := 32) (at_of tX7_dropSeen 0 6 rfl) (by decide) (fun h6 => ?_) (fun h6 => ?_)
      · exfalso; omega
      refine go_iload_n (at_of tX7_dropSeen 0 7 rfl) rfl ?_
      refine go_if_lt (tgt := 32) (at_of tX7_dropSeen 0 8 rfl) (by decide) (fun h10 => ?_) (fun h10 => ?_)
      · exfalso; omega
      refine go_aload_n (at_of tX7_dropSeen 0 9 rfl) rfl ?_
      refine go_iload_n (at_of tX7_dropSeen 0 10 rfl) rfl ?_
      refine go_cV (con_isSeen (rowP (by exact hS) hk) hR.u) lk_X7_35 rfl (by first | rfl | assumption) (at_of tX7_dropSeen 0 11 rfl) rfl (by decide) rfl (Nat.le_of_ble_eq_true rfl) rfl (by first | decide | exact ⟨Nat.zero_le _, Nat.zero_le _⟩) ?_
      refine go_if_eq (tgt := 26) (at_of tX7_dropSeen 0 12 rfl) (by decide) (fun h18 => ?_) (fun h18 => ?_)
      rotate_left
      · exfalso; rw [hv] at h18; exact hc (bI_1.mp h18)
      refine go_iinc (at_of tX7_dropSeen 1 0 rfl) rfl (by unfold in32; omega) rfl rfl ?_
      refine go_goto (tgt := 4) (at_of tX7_dropSeen 1 1 rfl) (by decide) ?_
      exact K _
theorem con_releaseAll (hS : Str σ.2.1) (hk : k < 8) (hR : RepR σ k R) {w c : Int} (hw : 0 ≤ w ∧ w ≤ 10) : ∃ σ', Con 1 mX7_releaseAll 0 0 [vA (4 + 10 * k), vI w, vI c] σ (vT 8 0, σ') ∧ RepR σ' k (upX (relF w c) R.2.1.toNat 0 R) ∧ Frm σ σ' (4 + 10 * k) (7 + 10 * k) := by
  have hn := hR.1
  obtain ⟨hw1, hw2, hw3⟩ := hR.2.2.2
  have key := loop_up (Rep := fun σ' R' i => RepR σ' k R' ∧ Frm σ σ' (4 + 10 * k) (7 + 10 * k) ∧ 0 ≤ i ∧ R'.2.1 = R.2.1) (f := relF w c) (hi := R.2.1)
    (G := fun b _ i σ out => Go (fun _ => 0) 1 mX7_releaseAll b 2 [vA (4 + 10 * k), vI w, vI c, vI i] [] σ out) (fun σ R i h hlo => ?_) R.2.1.toNat σ R 0 ⟨hR, Frm.refl, by omega, rfl⟩ (by omega)
  · obtain ⟨σ', ⟨q1, q2, -, hnn⟩, q3⟩ := key
    refine ⟨σ', ?_, q1, q2⟩
    obtain ⟨g1, g2, g3, g4, g5, g6, g7, g8, g9, g10⟩ := gamk k hk
    obtain ⟨p1, p2, p3, p4, p5, p6, p7, p8, p9⟩ := strk hS k hk
    have hn' := q1.1
    have hS' : Str σ'.2.1 := by rw [q2.1]; exact hS
    obtain ⟨p1', p2', p3', p4', p5', p6', -⟩ := strk hS' k hk
    refine con_of_go mfX7_releaseAll.1 trivial (Nat.le_of_ble_eq_true rfl) rfl (by decide) ?_
    show Go _ _ _ _ 0 [vA _, vI _, vI _, vT 9 0] [] _ _
    refine go_iconst (at_of tX7_releaseAll 0 0 rfl) (by unfold in32; omega) ?_
    refine go_istore_n (at_of tX7_releaseAll 0 1 rfl) rfl rfl ?_
    refine q3 _ _ (fun b => ?_)
    refine go_iload_n (at_of tX7_releaseAll 0 2 rfl) rfl ?_
    refine go_aload_n (at_of tX7_releaseAll 0 3 rfl) rfl ?_
    refine go_getf fl_X7_21 rfl (by first | rfl | assumption) (at_of tX7_releaseAll 0 4 rfl) ?_
    refine go_icmp_ge (tgt := 33) (at_of tX7_releaseAll 0 5 rfl) (by decide) (fun h7 => ?_) (fun h7 => ?_)
    rotate_left
    · exfalso; omega
    exact go_retv (at_of tX7_releaseAll 1 3 rfl) rfl
  · skip
    obtain ⟨hR, hF, hi⟩ := h
    obtain ⟨g1, g2, g3, g4, g5, g6, g7, g8, g9, g10⟩ := gamk k hk
    have hS : Str σ.2.1 := by rw [hF.1]; exact hS
    obtain ⟨p1, p2, p3, p4, p5, p6, p7, p8, p9⟩ := strk hS k hk
    have hn := hR.1
    obtain ⟨hw1, hw2, hw3⟩ := hR.2.2.2
    obtain ⟨hi, hnn⟩ := hi
    have hv := hR.2.1 w i hw.1 hw.2 (by omega) (by omega)
    unfold relF
    by_cases hc : R.1 w i = c
    · rw [if_pos hc]
      refine ⟨M1 σ (5 + 10 * k) (w * 201 + i) (-1), ⟨rep_set hR hw (by omega), hF.trans (M1_frm (by omega)), by omega, hnn⟩, fun b out K => ?_⟩
      refine go_iload_n (at_of tX7_releaseAll 0 2 rfl) rfl ?_
      refine go_aload_n (at_of tX7_releaseAll 0 3 rfl) rfl ?_
      refine go_getf fl_X7_21 rfl (by first | rfl | assumption) (at_of tX7_releaseAll 0 4 rfl) ?_
      refine go_icmp_ge (tgt := 33) (at_of tX7_releaseAll 0 5 rfl) (by decide) (fun h7 => ?_) (fun h7 => ?_)
      · exfalso; omega
      refine go_aload_n (at_of tX7_releaseAll 0 6 rfl) rfl ?_
      refine go_iload_n (at_of tX7_releaseAll 0 7 rfl) rfl ?_
      refine go_iload_n (at_of tX7_releaseAll 0 8 rfl) rfl ?_
      refine go_cV (con_fact (rowP (by exact hS) hk) (by omega) (by omega)) lk_X7_31 rfl (by first | rfl | assumption) (at_of tX7_releaseAll 0 9 rfl) rfl (by decide) rfl (Nat.le_of_ble_eq_true rfl) rfl (by first | decide | exact ⟨Nat.zero_le _, Nat.zero_le _⟩) ?_
      refine go_iload_n (at_of tX7_releaseAll 0 10 rfl) rfl ?_
      refine go_icmp_ne (tgt := 27) (at_of tX7_releaseAll 0 11 rfl) (by decide) (fun h17 => ?_) (fun h17 => ?_)
      · exfalso; rw [hv] at h17; omega
      refine go_aload_n (at_of tX7_releaseAll 0 12 rfl) rfl ?_
      refine go_iload_n (at_of tX7_releaseAll 0 13 rfl) rfl ?_
      refine go_iload_n (at_of tX7_releaseAll 0 14 rfl) rfl ?_
      refine go_iconst (at_of tX7_releaseAll 0 15 rfl) (by unfold in32; omega) ?_
      refine go_cV (con_setFact (rowP (by exact hS) hk) (by omega) (by omega)) lk_X7_62 rfl (by first | rfl | assumption) (at_of tX7_releaseAll 1 0 rfl) rfl (by decide) rfl (Nat.le_of_ble_eq_true rfl) rfl (by first | decide | exact ⟨Nat.zero_le _, Nat.zero_le _⟩) ?_
      refine go_iinc (at_of tX7_releaseAll 1 1 rfl) rfl (by unfold in32; omega) rfl rfl ?_
      refine go_goto (tgt := 2) (at_of tX7_releaseAll 1 2 rfl) (by decide) ?_
      exact K _
    · rw [if_neg hc]
      refine ⟨σ, ⟨hR, hF, by omega, hnn⟩, fun b out K => ?_⟩
      refine go_iload_n (at_of tX7_releaseAll 0 2 rfl) rfl ?_
      refine go_aload_n (at_of tX7_releaseAll 0 3 rfl) rfl ?_
      refine go_getf fl_X7_21 rfl (by first | rfl | assumption) (at_of tX7_releaseAll 0 4 rfl) ?_
      refine go_icmp_ge (tgt := 33) (at_of tX7_releaseAll 0 5 rfl) (by decide) (fun h7 => ?_) (fun h7 => ?_)
      · exfalso; omega
      refine go_aload_n (at_of tX7_releaseAll 0 6 rfl) rfl ?_
      refine go_iload_n (at_of tX7_releaseAll 0 7 rfl) rfl ?_
      refine go_iload_n (at_of tX7_releaseAll 0 8 rfl) rfl ?_
      refine go_cV (con_fact (rowP (by exact hS) hk) (by omega) (by omega)) lk_X7_31 rfl (by first | rfl | assumption) (at_of tX7_releaseAll 0 9 rfl) rfl (by decide) rfl (Nat.le_of_ble_eq_true rfl) rfl (by first | decide | exact ⟨Nat.zero_le _, Nat.zero_le _⟩) ?_
      refine go_iload_n (at_of tX7_releaseAll 0 10 rfl) rfl ?_
      refine go_icmp_ne (tgt := 27) (at_of tX7_releaseAll 0 11 rfl) (by decide) (fun h17 => ?_) (fun h17 => ?_)
      rotate_left
      · exfalso; rw [hv] at h17; omega
      refine go_iinc (at_of tX7_releaseAll 1 1 rfl) rfl (by unfold in32; omega) rfl rfl ?_
      refine go_goto (tgt := 2) (at_of tX7_releaseAll 1 2 rfl) (by decide) ?_
      exact K _
theorem con_settleStyle (hS : Str σ.2.1) (hk : k < 8) (hR : RepR σ k R) {c : Int} {acc : Bool} : ∃ σ', Con 1 mX7_settleStyle 0 0 [vA (4 + 10 * k), vI c, vI (bI (acc = true))] σ (vT 8 0, σ') ∧ RepR σ' k (upX (styF c acc) (R.2.1 + 1).toNat 0 R) ∧ Frm σ σ' (4 + 10 * k) (7 + 10 * k) := by
  have hn := hR.1
  obtain ⟨hw1, hw2, hw3⟩ := hR.2.2.2
  have key := loop_up (Rep := fun σ' R' i => RepR σ' k R' ∧ Frm σ σ' (4 + 10 * k) (7 + 10 * k) ∧ 0 ≤ i ∧ R'.2.1 = R.2.1) (f := styF c acc) (hi := R.2.1 + 1)
    (G := fun b _ i σ out => Go (fun _ => 0) 1 mX7_settleStyle b 2 [vA (4 + 10 * k), vI c, vI (bI (acc = true)), vI i] [] σ out) (fun σ R i h hlo => ?_) (R.2.1 + 1).toNat σ R 0 ⟨hR, Frm.refl, by omega, rfl⟩ (by omega)
  · obtain ⟨σ', ⟨q1, q2, -, hnn⟩, q3⟩ := key
    refine ⟨σ', ?_, q1, q2⟩
    obtain ⟨g1, g2, g3, g4, g5, g6, g7, g8, g9, g10⟩ := gamk k hk
    obtain ⟨p1, p2, p3, p4, p5, p6, p7, p8, p9⟩ := strk hS k hk
    have hn' := q1.1
    have hS' : Str σ'.2.1 := by rw [q2.1]; exact hS
    obtain ⟨p1', p2', p3', p4', p5', p6', -⟩ := strk hS' k hk
    refine con_of_go mfX7_settleStyle.1 trivial (Nat.le_of_ble_eq_true rfl) rfl (by decide) ?_
    show Go _ _ _ _ 0 [vA _, vI _, vI _, vT 9 0] [] _ _
    refine go_iconst (at_of tX7_settleStyle 0 0 rfl) (by unfold in32; omega) ?_
    refine go_istore_n (at_of tX7_settleStyle 0 1 rfl) rfl rfl ?_
    refine q3 _ _ (fun b => ?_)
    refine go_iload_n (at_of tX7_settleStyle 0 2 rfl) rfl ?_
    refine go_aload_n (at_of tX7_settleStyle 0 3 rfl) rfl ?_
    refine go_getf fl_X7_21 rfl (by first | rfl | assumption) (at_of tX7_settleStyle 0 4 rfl) ?_
    refine go_icmp_gt (tgt := 50) (at_of tX7_settleStyle 0 5 rfl) (by decide) (fun h7 => ?_) (fun h7 => ?_)
    rotate_left
    · exfalso; omega
    exact go_retv (at_of tX7_settleStyle 1 13 rfl) rfl
  · skip
    obtain ⟨hR, hF, hi⟩ := h
    obtain ⟨g1, g2, g3, g4, g5, g6, g7, g8, g9, g10⟩ := gamk k hk
    have hS : Str σ.2.1 := by rw [hF.1]; exact hS
    obtain ⟨p1, p2, p3, p4, p5, p6, p7, p8, p9⟩ := strk hS k hk
    have hn := hR.1
    obtain ⟨hw1, hw2, hw3⟩ := hR.2.2.2
    obtain ⟨hi, hnn⟩ := hi
    have hv := hR.2.1 4 i (by omega) (by omega) (by omega) (by omega)
    unfold styF
    by_cases hc : R.1 4 i = c
    · rw [if_pos hc]
      have r1 := rep_set (w := 4) (z := -1) hR (by omega) (i := i) (by omega)
      cases acc with
      | true =>
        rw [if_pos rfl]
        refine ⟨M1 σ (5 + 10 * k) (4 * 201 + i) (-1), ⟨r1, hF.trans (M1_frm (by omega)), by omega, hnn⟩, fun b out K => ?_⟩
        refine go_iload_n (at_of tX7_settleStyle 0 2 rfl) rfl ?_
        refine go_aload_n (at_of tX7_settleStyle 0 3 rfl) rfl ?_
        refine go_getf fl_X7_21 rfl (by first | rfl | assumption) (at_of tX7_settleStyle 0 4 rfl) ?_
        refine go_icmp_gt (tgt := 50) (at_of tX7_settleStyle 0 5 rfl) (by decide) (fun h7 => ?_) (fun h7 => ?_)
        · exfalso; omega
        refine go_aload_n (at_of tX7_settleStyle 0 6 rfl) rfl ?_
        refine go_iconst (at_of tX7_settleStyle 0 7 rfl) (by unfold in32; omega) ?_
        refine go_iload_n (at_of tX7_settleStyle 0 8 rfl) rfl ?_
        refine go_cV (con_fact (rowP (by exact hS) hk) (by omega) (by omega)) lk_X7_31 rfl (by first | rfl | assumption) (at_of tX7_settleStyle 0 9 rfl) rfl (by decide) rfl (Nat.le_of_ble_eq_true rfl) rfl (by first | decide | exact ⟨Nat.zero_le _, Nat.zero_le _⟩) ?_
        refine go_iload_n (at_of tX7_settleStyle 0 10 rfl) rfl ?_
        refine go_icmp_ne (tgt := 44) (at_of tX7_settleStyle 0 11 rfl) (by decide) (fun h17 => ?_) (fun h17 => ?_)
        · exfalso; rw [hv] at h17; omega
        refine go_aload_n (at_of tX7_settleStyle 0 12 rfl) rfl ?_
        refine go_iconst (at_of tX7_settleStyle 0 13 rfl) (by unfold in32; omega) ?_
        refine go_iload_n (at_of tX7_settleStyle 0 14 rfl) rfl ?_
        refine go_iconst (at_of tX7_settleStyle 0 15 rfl) (by unfold in32; omega) ?_
        refine go_cV (con_setFact (rowP (by exact hS) hk) (by omega) (by omega)) lk_X7_62 rfl (by first | rfl | assumption) (at_of tX7_settleStyle 1 0 rfl) rfl (by decide) rfl (Nat.le_of_ble_eq_true rfl) rfl (by first | decide | exact ⟨Nat.zero_le _, Nat.zero_le _⟩) ?_
        refine go_iload_n (at_of tX7_settleStyle 1 1 rfl) rfl ?_
        refine go_if_ne (tgt := 44) (at_of tX7_settleStyle 1 2 rfl) (by decide) (fun h28 => ?_) (fun h28 => ?_)
        rotate_left
        · exfalso; exact absurd h28 (by decide)
        refine go_iinc (at_of tX7_settleStyle 1 11 rfl) rfl (by unfold in32; omega) rfl rfl ?_
        refine go_goto (tgt := 2) (at_of tX7_settleStyle 1 12 rfl) (by decide) ?_
        exact K _
      | false =>
        rw [if_neg (by decide)]
        have v6 := r1.2.1 6 i (by omega) (by omega) (by omega) (by show i ≤ R.2.1; omega)
        have r2 := rep_set (w := 5) (z := R.1 6 i) r1 (by omega) (i := i) (by show 0 ≤ i ∧ i ≤ R.2.1; omega)
        have e6 : (setR R 4 i (-1)).1 6 i = R.1 6 i := by show (if (6 : Int) = 4 ∧ i = i then (-1 : Int) else R.1 6 i) = _; rw [if_neg (by omega)]
        rw [e6] at v6
        refine ⟨M1 (M1 σ (5 + 10 * k) (4 * 201 + i) (-1)) (5 + 10 * k) (5 * 201 + i) (R.1 6 i), ⟨r2, (hF.trans (M1_frm (by omega))).trans (M1_frm (by omega)), by omega, hnn⟩, fun b out K => ?_⟩
        refine go_iload_n (at_of tX7_settleStyle 0 2 rfl) rfl ?_
        refine go_aload_n (at_of tX7_settleStyle 0 3 rfl) rfl ?_
        refine go_getf fl_X7_21 rfl (by first | rfl | assumption) (at_of tX7_settleStyle 0 4 rfl) ?_
        refine go_icmp_gt (tgt := 50) (at_of tX7_settleStyle 0 5 rfl) (by decide) (fun h7 => ?_) (fun h7 => ?_)
        · exfalso; omega
        refine go_aload_n (at_of tX7_settleStyle 0 6 rfl) rfl ?_
        refine go_iconst (at_of tX7_settleStyle 0 7 rfl) (by unfold in32; omega) ?_
        refine go_iload_n (at_of tX7_settleStyle 0 8 rfl) rfl ?_
        refine go_cV (con_fact (rowP (by exact hS) hk) (by omega) (by omega)) lk_X7_31 rfl (by first | rfl | assumption) (at_of tX7_settleStyle 0 9 rfl) rfl (by decide) rfl (Nat.le_of_ble_eq_true rfl) rfl (by first | decide | exact ⟨Nat.zero_le _, Nat.zero_le _⟩) ?_
        refine go_iload_n (at_of tX7_settleStyle 0 10 rfl) rfl ?_
        refine go_icmp_ne (tgt := 44) (at_of tX7_settleStyle 0 11 rfl) (by decide) (fun h17 => ?_) (fun h17 => ?_)
        · exfalso; rw [hv] at h17; omega
        refine go_aload_n (at_of tX7_settleStyle 0 12 rfl) rfl ?_
        refine go_iconst (at_of tX7_settleStyle 0 13 rfl) (by unfold in32; omega) ?_
        refine go_iload_n (at_of tX7_settleStyle 0 14 rfl) rfl ?_
        refine go_iconst (at_of tX7_settleStyle 0 15 rfl) (by unfold in32; omega) ?_
        refine go_cV (con_setFact (rowP (by exact hS) hk) (by omega) (by omega)) lk_X7_62 rfl (by first | rfl | assumption) (at_of tX7_settleStyle 1 0 rfl) rfl (by decide) rfl (Nat.le_of_ble_eq_true rfl) rfl (by first | decide | exact ⟨Nat.zero_le _, Nat.zero_le _⟩) ?_
        refine go_iload_n (at_of tX7_settleStyle 1 1 rfl) rfl ?_
        refine go_if_ne (tgt := 44) (at_of tX7_settleStyle 1 2 rfl) (by decide) (fun h28 => ?_) (fun h28 => ?_)
        · exfalso; exact h28 (by decide)
        refine go_aload_n (at_of tX7_settleStyle 1 3 rfl) rfl ?_
        refine go_iconst (at_of tX7_settleStyle 1 4 rfl) (by unfold in32; omega) ?_
        refine go_iload_n (at_of tX7_settleStyle 1 5 rfl) rfl ?_
        refine go_aload_n (at_of tX7_settleStyle 1 6 rfl) rfl ?_
        refine go_bipush (at_of tX7_settleStyle 1 7 rfl) (by decide) ?_
        refine go_iload_n (at_of tX7_settleStyle 1 8 rfl) rfl ?_
        refine go_cV (con_fact (rowP (by exact hS) hk) (by omega) (by omega)) lk_X7_31 rfl (by first | rfl | assumption) (at_of tX7_settleStyle 1 9 rfl) rfl (by decide) rfl (Nat.le_of_ble_eq_true rfl) rfl (by first | decide | exact ⟨Nat.zero_le _, Nat.zero_le _⟩) ?_
        rw [v6]
        refine go_cV (con_setFact (rowP (by exact hS) hk) (by omega) (by omega)) lk_X7_62 rfl (by first | rfl | assumption) (at_of tX7_settleStyle 1 10 rfl) rfl (by decide) rfl (Nat.le_of_ble_eq_true rfl) rfl (by first | decide | exact ⟨Nat.zero_le _, Nat.zero_le _⟩) ?_
        refine go_iinc (at_of tX7_settleStyle 1 11 rfl) rfl (by unfold in32; omega) rfl rfl ?_
        refine go_goto (tgt := 2) (at_of tX7_settleStyle 1 12 rfl) (by decide) ?_
        exact K _
    · rw [if_neg hc]
      refine ⟨σ, ⟨hR, hF, by omega, hnn⟩, fun b out K => ?_⟩
      refine go_iload_n (at_of tX7_settleStyle 0 2 rfl) rfl ?_
      refine go_aload_n (at_of tX7_settleStyle 0 3 rfl) rfl ?_
      refine go_getf fl_X7_21 rfl (by first | rfl | assumption) (at_of tX7_settleStyle 0 4 rfl) ?_
      refine go_icmp_gt (tgt := 50) (at_of tX7_settleStyle 0 5 rfl) (by decide) (fun h7 => ?_) (fun h7 => ?_)
      · exfalso; omega
      refine go_aload_n (at_of tX7_settleStyle 0 6 rfl) rfl ?_
      refine go_iconst (at_of tX7_settleStyle 0 7 rfl) (by unfold in32; omega) ?_
      refine go_iload_n (at_of tX7_settleStyle 0 8 rfl) rfl ?_
      refine go_cV (con_fact (rowP (by exact hS) hk) (by omega) (by omega)) lk_X7_31 rfl (by first | rfl | assumption) (at_of tX7_settleStyle 0 9 rfl) rfl (by decide) rfl (Nat.le_of_ble_eq_true rfl) rfl (by first | decide | exact ⟨Nat.zero_le _, Nat.zero_le _⟩) ?_
      refine go_iload_n (at_of tX7_settleStyle 0 10 rfl) rfl ?_
      refine go_icmp_ne (tgt := 44) (at_of tX7_settleStyle 0 11 rfl) (by decide) (fun h17 => ?_) (fun h17 => ?_)
      rotate_left
      · exfalso; rw [hv] at h17; omega
      refine go_iinc (at_of tX7_settleStyle 1 11 rfl) rfl (by unfold in32; omega) rfl rfl ?_
      refine go_goto (tgt := 2) (at_of tX7_settleStyle 1 12 rfl) (by decide) ?_
      exact K _
end RowL
