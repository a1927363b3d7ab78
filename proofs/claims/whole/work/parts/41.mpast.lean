/-! The reference: changes, rows opened and closed, what was before. -/
section Mod2
variable {σ : St}
def MkB (R : RowD) (L : LogD) : Prop := ∀ i, 0 ≤ i → i ≤ R.2.1 → R.1 2 i = -1 ∨ (0 ≤ R.1 2 i ∧ R.1 2 i < L.1)
theorem RepNr.congr {c c' : Int → Int} {R : RowD} (h : RepNr c R) (hb : R.2.1 ≤ 200) (hc : ∀ x, 0 ≤ x → x < 3225 → c' x = c x) : RepNr c' R := by
  obtain ⟨a, b, d, e⟩ := h
  refine ⟨by rw [hc _ (by omega) (by omega)]; exact a, fun i q0 q1 => ?_, fun i q0 q1 q2 => ?_, fun x q0 q1 => ?_⟩
  · rw [hc _ (by omega) (by omega), hc _ (by omega) (by omega), hc _ (by omega) (by omega), hc _ (by omega) (by omega)]; exact b i q0 q1
  · rw [hc _ (by omega) (by omega), hc _ (by omega) (by omega), hc _ (by omega) (by omega), hc _ (by omega) (by omega), hc _ (by omega) (by omega), hc _ (by omega) (by omega)]; exact d i q0 q1 q2
  · rw [hc _ (by omega) (by omega), hc _ (by omega) (by omega)]; exact e x q0 q1
theorem RepNl.congr {c c' : Int → Int} {L : LogD} (h : RepNl c L) (hb : L.1 ≤ 60) (hc : ∀ x, 3011 ≤ x → x < 3193 → c' x = c x) : RepNl c' L := by
  obtain ⟨a, b⟩ := h
  refine ⟨by rw [hc _ (by omega) (by omega)]; exact a, fun i q0 q1 => ?_⟩
  rw [hc _ (by omega) (by omega), hc _ (by omega) (by omega), hc _ (by omega) (by omega)]; exact b i q0 q1
theorem RepNq.congr {c c' : Int → Int} {Q : Int → Int} (h : RepNq c Q) (hc : ∀ x, 3205 ≤ x → x < 3225 → c' x = c x) : RepNq c' Q := fun f q0 q1 => by
  rw [hc _ (by omega) (by omega)]; exact h f q0 q1
theorem RepN.congr {c c' : Int → Int} {D : PapD} (h : RepN c D) (hc : ∀ x, 0 ≤ x → x < 3225 → c' x = c x) : RepN c' D :=
  ⟨h.1.congr h.2.2.2.2.1 hc, h.2.1.congr h.2.2.2.2.2.2 (fun x a b => hc x (by omega) (by omega)), h.2.2.1.congr (fun x a b => hc x (by omega) (by omega)), h.2.2.2⟩
def cA (σ : St) (a : Nat) (o : Int) : Int → Int := fun x => σ.1 a (o + x).toNat
def cpS (σ : St) (a0 : Nat) (fs : Int) (a1 : Nat) (ts t : Int) : St := (fun a j => if a = a1 ∧ 3225 * ts ≤ (j : Int) ∧ (j : Int) < 3225 * ts + t then σ.1 a0 (3225 * fs + ((j : Int) - 3225 * ts)).toNat else σ.1 a j, σ.2.1, σ.2.2)
theorem cpS_0 {a0 a1 : Nat} {fs ts : Int} : cpS σ a0 fs a1 ts 0 = σ := by
  unfold cpS
  refine Prod.ext (funext fun a => funext fun i => ?_) rfl
  dsimp only
  rw [if_neg (by omega)]
theorem cpS_ne {a0 a1 a j : Nat} {fs ts t : Int} (h : a ≠ a1) : (cpS σ a0 fs a1 ts t).1 a j = σ.1 a j := if_neg (fun q => h q.1)
theorem cpS_out {a0 a1 : Nat} {fs ts t x : Int} (h0 : 0 ≤ x) (h : x < 3225 * ts ∨ 3225 * ts + t ≤ x) : (cpS σ a0 fs a1 ts t).1 a1 x.toNat = σ.1 a1 x.toNat := if_neg (by omega)
theorem cpS_in {a0 a1 : Nat} {fs ts t x : Int} (h0 : 0 ≤ ts) (h : 0 ≤ x ∧ x < t) : (cpS σ a0 fs a1 ts t).1 a1 (3225 * ts + x).toNat = σ.1 a0 (3225 * fs + x).toNat := by
  show (if a1 = a1 ∧ 3225 * ts ≤ (((3225 * ts + x).toNat : Nat) : Int) ∧ (((3225 * ts + x).toNat : Nat) : Int) < 3225 * ts + t then σ.1 a0 (3225 * fs + ((((3225 * ts + x).toNat : Nat) : Int) - 3225 * ts)).toNat else _) = _
  rw [if_pos ⟨rfl, by omega, by omega⟩, show (((3225 * ts + x).toNat : Nat) : Int) - 3225 * ts = x by omega]
theorem cpS_s {a0 a1 : Nat} {fs ts t : Int} (h0 : 0 ≤ ts) (ht : 0 ≤ t) : M1 (cpS σ a0 fs a1 ts t) a1 (3225 * ts + t) (σ.1 a0 (3225 * fs + t).toNat) = cpS σ a0 fs a1 ts (t + 1) := by
  unfold M1 cpS upd2
  refine Prod.ext (funext fun a => funext fun i => ?_) rfl
  dsimp only
  by_cases ha : a = a1
  · by_cases hi : i = (3225 * ts + t).toNat
    · rw [if_pos ⟨ha, hi⟩, if_pos ⟨ha, by omega, by omega⟩, show (i : Int) - 3225 * ts = t by omega]
    · rw [if_neg (fun q => hi q.2)]
      by_cases hr : 3225 * ts ≤ (i : Int) ∧ (i : Int) < 3225 * ts + t
      · rw [if_pos ⟨ha, hr⟩, if_pos ⟨ha, by omega, by omega⟩]
      · rw [if_neg (fun q => hr q.2), if_neg (by omega)]
  · rw [if_neg (fun q => ha q.1), if_neg (fun q => ha q.1), if_neg (fun q => ha q.1)]
theorem m_copies {a0 a1 n0 n1 : Nat} {fs ts : Int} (hg0 : Gam a0 = (0, n0)) (hg1 : Gam a1 = (0, n1)) (hf : 0 ≤ fs ∧ fs ≤ 5 ∧ 3225 * fs + 3225 ≤ n0) (ht : 0 ≤ ts ∧ ts ≤ 5 ∧ 3225 * ts + 3225 ≤ n1) (hne : a0 ≠ a1 ∨ fs ≠ ts) : Con 0 mX10_copies 0 0 [vA 109, vA a0, vI fs, vA a1, vI ts] σ (vT 8 0, cpS σ a0 fs a1 ts 3225) := by
  have key : ∀ (m : Nat) (b : Nat × Nat) (t : Int), 0 ≤ t → t + m = 3225 → Go (fun _ => 0) 0 mX10_copies b 3 [vA 109, vA a0, vI fs, vA a1, vI ts, vI t] [] (cpS σ a0 fs a1 ts t) (vT 8 0, cpS σ a0 fs a1 ts 3225) := by
    intro m
    induction m with
    | zero =>
      intro b t h0 h1
      obtain rfl : t = 3225 := by omega
      refine go_iload (at_of tX10_copies 0 2 rfl) rfl rfl ?_
      refine go_sipush (at_of tX10_copies 0 3 rfl) (by decide) ?_
      refine go_icmp_ge (tgt := 38) (at_of tX10_copies 0 4 rfl) (by decide) (fun h8 => ?_) (fun h8 => ?_)
      rotate_left
      · exfalso; omega
      exact go_retv (at_of tX10_copies 1 5 rfl) rfl
    | succ m ih =>
      intro b t h0 h1
      have ev : (cpS σ a0 fs a1 ts t).1 a0 (3225 * fs + t).toNat = σ.1 a0 (3225 * fs + t).toNat := by
        by_cases h : a0 = a1
        · subst h; exact cpS_out (by omega) (by omega)
        · exact cpS_ne h
      refine go_iload (at_of tX10_copies 0 2 rfl) rfl rfl ?_
      refine go_sipush (at_of tX10_copies 0 3 rfl) (by decide) ?_
      refine go_icmp_ge (tgt := 38) (at_of tX10_copies 0 4 rfl) (by decide) (fun h8 => ?_) (fun h8 => ?_)
      · exfalso; omega
      refine go_aload_n (at_of tX10_copies 0 5 rfl) rfl ?_
      refine go_sipush (at_of tX10_copies 0 6 rfl) (by decide) ?_
      refine go_iload (at_of tX10_copies 0 7 rfl) rfl rfl ?_
      refine go_imul (at_of tX10_copies 0 8 rfl) (by unfold in32; omega) ?_
      refine go_iload (at_of tX10_copies 0 9 rfl) rfl rfl ?_
      refine go_iadd (at_of tX10_copies 0 10 rfl) (by unfold in32; omega) ?_
      refine go_aload_n (at_of tX10_copies 0 11 rfl) rfl ?_
      refine go_sipush (at_of tX10_copies 0 12 rfl) (by decide) ?_
      refine go_iload_n (at_of tX10_copies 0 13 rfl) rfl ?_
      refine go_imul (at_of tX10_copies 0 14 rfl) (by unfold in32; omega) ?_
      refine go_iload (at_of tX10_copies 0 15 rfl) rfl rfl ?_
      refine go_iadd (at_of tX10_copies 1 0 rfl) (by unfold in32; omega) ?_
      refine go_iald hg0 (by omega) (by omega) (at_of tX10_copies 1 1 rfl) ?_
      rw [ev]
      refine go_iast1 hg1 (by omega) (by omega) (at_of tX10_copies 1 2 rfl) ?_
      rw [cpS_s (by omega) h0]
      refine go_iinc (at_of tX10_copies 1 3 rfl) rfl (by unfold in32; omega) rfl rfl ?_
      refine go_goto (tgt := 3) (at_of tX10_copies 1 4 rfl) (by decide) ?_
      exact ih _ _ (by omega) (by omega)
  refine con_of_go mfX10_copies.1 trivial (Nat.le_of_ble_eq_true rfl) rfl (by decide) ?_
  show Go _ _ _ _ 0 [vA _, vA _, vI _, vA _, vI _, vT 9 0] [] _ _
  refine go_iconst (at_of tX10_copies 0 0 rfl) (by unfold in32; omega) ?_
  refine go_istore (at_of tX10_copies 0 1 rfl) rfl rfl ?_
  have q := key 3225 (0, 0) 0 (by omega) (by omega)
  rw [cpS_0] at q
  exact q
/-- what the reference holds of the papers -/
def PastM (σ : St) (A : PastD) : Prop := σ.1 109 4 = A.2.1 ∧ σ.1 109 5 = A.2.2 ∧ A.2.1 + A.2.2 ≤ 6 ∧ RepN (cN σ) (A.1 A.2.1) ∧ (∀ j : Nat, j < A.2.1 → RepN (cA σ 111 (3225 * j)) (A.1 j)) ∧ ∀ j : Nat, j < A.2.2 → RepN (cA σ 112 (3225 * j)) (A.1 (A.2.1 + A.2.2 - j))
def FrE (σ σ' : St) : Prop := σ'.2 = σ.2 ∧ ∀ a j : Nat, ¬ (a = 110 ∨ a = 111 ∨ a = 112 ∨ (a = 109 ∧ (j = 0 ∨ j = 4 ∨ j = 5))) → σ'.1 a j = σ.1 a j
theorem FrE.refl : FrE σ σ := ⟨rfl, fun _ _ _ => rfl⟩
theorem FrE.trans {σ' σ'' : St} (h : FrE σ σ') (h' : FrE σ' σ'') : FrE σ σ'' := ⟨h'.1.trans h.1, fun x j q => (h'.2 x j q).trans (h.2 x j q)⟩
/-- only the paper now has changed -/
theorem PastM.now {σ' : St} {A : PastD} {D : PapD} (h : PastM σ A) (hF : ∀ a j : Nat, a ≠ 110 → ¬ (a = 109 ∧ j = 0) → (a = 109 ∧ (j = 4 ∨ j = 5)) ∨ a = 111 ∨ a = 112 → σ'.1 a j = σ.1 a j) (hD : RepN (cN σ') D) : PastM σ' (edA A D) := by
  obtain ⟨a, b, c, d, e, f⟩ := h
  refine ⟨by rw [hF 109 4 (by omega) (by omega) (by omega)]; exact a, by rw [hF 109 5 (by omega) (by omega) (by omega)]; exact b, c, ?_, fun j hj => ?_, fun j hj => ?_⟩
  · show RepN (cN σ') ((edA A D).1 A.2.1); rw [edA_at]; exact hD
  · show RepN _ (if j = A.2.1 then D else A.1 j)
    have hj : j < A.2.1 := hj
    rw [if_neg (by omega)]
    exact (e j hj).congr (fun x _ _ => hF 111 _ (by omega) (by omega) (by omega))
  · show RepN _ (if A.2.1 + A.2.2 - j = A.2.1 then D else A.1 (A.2.1 + A.2.2 - j))
    have hj : j < A.2.2 := hj
    rw [if_neg (by omega)]
    exact (f j hj).congr (fun x _ _ => hF 112 _ (by omega) (by omega) (by omega))
theorem m_undo_no (hS : Str σ.2.1) {A : PastD} (hM : PastM σ A) (h : A.2.1 = 0) : Con 1 mX10_undo 0 0 [vA 109] σ (vI 0, P1 σ 109 0 1) := by
  have u := hM.1
  have v := hM.2.1
  have g : bI ((1 : Int) = 0) = 0 := bI_f (by omega)
  refine con_of_go mfX10_undo.1 trivial (Nat.le_of_ble_eq_true rfl) rfl (by decide) ?_
  show Go _ _ _ _ 0 [vA _] [] _ _
  refine go_aload_n (at_of tX10_undo 0 0 rfl) rfl ?_
  refine go_aload_n (at_of tX10_undo 0 1 rfl) rfl ?_
  refine go_getf fl_X10_131 rfl G_109 (at_of tX10_undo 0 2 rfl) ?_
  refine go_if_ne (tgt := 12) (at_of tX10_undo 0 3 rfl) (by decide) (fun h5 => ?_) (fun h5 => ?_)
  · exfalso; omega
  refine go_iconst (at_of tX10_undo 0 4 rfl) (by unfold in32; omega) ?_
  refine go_goto (tgt := 13) (at_of tX10_undo 0 5 rfl) (by decide) ?_
  refine go_cV (m_goesOn) lk_X10_141 rfl G_109 (at_of tX10_undo 0 7 rfl) rfl (by decide) rfl (Nat.le_of_ble_eq_true rfl) rfl (by first | decide | exact ⟨Nat.zero_le _, Nat.zero_le _⟩) ?_
  refine go_if_ne (tgt := 21) (at_of tX10_undo 0 8 rfl) (by decide) (fun h16 => ?_) (fun h16 => ?_)
  · exfalso; exact h16 g
  refine go_iconst (at_of tX10_undo 0 9 rfl) (by unfold in32; omega) ?_
  first | exact go_reti (at_of tX10_undo 0 10 rfl) rfl | exact go_reti (at_of tX10_undo 0 10 rfl) (le_i (by omega)) | exact go_reti (at_of tX10_undo 0 10 rfl) (le_i (by first | exact bI_t (by omega) | exact bI_f (by omega)))
theorem m_redo_no (hS : Str σ.2.1) {A : PastD} (hM : PastM σ A) (h : A.2.2 = 0) : Con 1 mX10_redo 0 0 [vA 109] σ (vI 0, P1 σ 109 0 1) := by
  have u := hM.1
  have v := hM.2.1
  have g : bI ((1 : Int) = 0) = 0 := bI_f (by omega)
  refine con_of_go mfX10_redo.1 trivial (Nat.le_of_ble_eq_true rfl) rfl (by decide) ?_
  show Go _ _ _ _ 0 [vA _] [] _ _
  refine go_aload_n (at_of tX10_redo 0 0 rfl) rfl ?_
  refine go_aload_n (at_of tX10_redo 0 1 rfl) rfl ?_
  refine go_getf fl_X10_138 rfl G_109 (at_of tX10_redo 0 2 rfl) ?_
  refine go_if_ne (tgt := 12) (at_of tX10_redo 0 3 rfl) (by decide) (fun h5 => ?_) (fun h5 => ?_)
  · exfalso; omega
  refine go_iconst (at_of tX10_redo 0 4 rfl) (by unfold in32; omega) ?_
  refine go_goto (tgt := 13) (at_of tX10_redo 0 5 rfl) (by decide) ?_
  refine go_cV (m_goesOn) lk_X10_141 rfl G_109 (at_of tX10_redo 0 7 rfl) rfl (by decide) rfl (Nat.le_of_ble_eq_true rfl) rfl (by first | decide | exact ⟨Nat.zero_le _, Nat.zero_le _⟩) ?_
  refine go_if_ne (tgt := 21) (at_of tX10_redo 0 8 rfl) (by decide) (fun h16 => ?_) (fun h16 => ?_)
  · exfalso; exact h16 g
  refine go_iconst (at_of tX10_redo 0 9 rfl) (by unfold in32; omega) ?_
  first | exact go_reti (at_of tX10_redo 0 10 rfl) rfl | exact go_reti (at_of tX10_redo 0 10 rfl) (le_i (by omega)) | exact go_reti (at_of tX10_redo 0 10 rfl) (le_i (by first | exact bI_t (by omega) | exact bI_f (by omega)))
theorem m_undo (hS : Str σ.2.1) {A : PastD} (hM : PastM σ A) (h : 0 < A.2.1) : ∃ σ', Con 1 mX10_undo 0 0 [vA 109] σ (vI ((A.2.1 - 1 : Nat) : Int), σ') ∧ PastM σ' (A.1, A.2.1 - 1, A.2.2 + 1) ∧ FrE σ σ' ∧ σ'.1 109 0 = 0 := by
  obtain ⟨a, b, c, d, e, f⟩ := id hM
  have g : bI ((0 : Int) = 0) = 1 := bI_t rfl
  have hk : (A.2.2 : Int) ≤ 5 := by omega
  obtain ⟨σ1, hσ1⟩ : ∃ σ1, σ1 = P1 σ 109 0 0 := ⟨_, rfl⟩
  have n1 : ∀ x j : Nat, ¬ (x = 109 ∧ j = 0) → σ1.1 x j = σ.1 x j := fun x j q => by
    rw [hσ1]
    by_cases hx : x = 109
    · exact P1_nj (by omega)
    · exact P1_ne hx
  obtain ⟨σ2, hσ2⟩ : ∃ σ2, σ2 = cpS σ1 110 0 112 A.2.2 3225 := ⟨_, rfl⟩
  obtain ⟨σ3, hσ3⟩ : ∃ σ3, σ3 = P1 (P1 σ2 109 5 (A.2.2 + 1)) 109 4 (A.2.1 - 1) := ⟨_, rfl⟩
  have hS1 : Str σ1.2.1 := by rw [hσ1]; exact hS
  have hS2 : Str σ2.2.1 := by rw [hσ2]; exact hS1
  have hS3 : Str σ3.2.1 := by rw [hσ3]; exact hS2
  have n2 : ∀ x j : Nat, x ≠ 112 → σ2.1 x j = σ1.1 x j := fun x j q => by rw [hσ2]; exact cpS_ne q
  have n3 : ∀ x j : Nat, x ≠ 109 → σ3.1 x j = σ2.1 x j := fun x j q => by rw [hσ3, P1_ne q, P1_ne q]
  have r5 : σ2.1 109 5 = A.2.2 := by rw [n2 _ _ (by omega), n1 _ _ (by omega)]; exact b
  have r4 : σ2.1 109 4 = A.2.1 := by rw [n2 _ _ (by omega), n1 _ _ (by omega)]; exact a
  have r4' : (P1 σ2 109 5 (A.2.2 + 1)).1 109 4 = A.2.1 := by rw [P1_nj (by omega)]; exact r4
  have s4 : σ3.1 109 4 = A.2.1 - 1 := by rw [hσ3, P1_eq]
  have s5 : σ1.1 109 5 = A.2.2 := by rw [n1 _ _ (by omega)]; exact b
  obtain ⟨σ4, hσ4⟩ : ∃ σ4, σ4 = cpS σ3 111 (A.2.1 - 1) 110 0 3225 := ⟨_, rfl⟩
  have n4 : ∀ x j : Nat, x ≠ 110 → σ4.1 x j = σ3.1 x j := fun x j q => by rw [hσ4]; exact cpS_ne q
  have s4' : σ4.1 109 4 = A.2.1 - 1 := by rw [n4 _ _ (by omega)]; exact s4
  refine ⟨σ4, ?_, ⟨?_, ?_, by show A.2.1 - 1 + (A.2.2 + 1) ≤ 6; omega, ?_, fun j hj => ?_, fun j hj => ?_⟩, ⟨?_, fun x j q => ?_⟩, ?_⟩
  · skip
    refine con_of_go mfX10_undo.1 trivial (Nat.le_of_ble_eq_true rfl) rfl (by decide) ?_
    show Go _ _ _ _ 0 [vA _] [] _ _
    refine go_aload_n (at_of tX10_undo 0 0 rfl) rfl ?_
    refine go_aload_n (at_of tX10_undo 0 1 rfl) rfl ?_
    refine go_getf fl_X10_131 rfl G_109 (at_of tX10_undo 0 2 rfl) ?_
    refine go_if_ne (tgt := 12) (at_of tX10_undo 0 3 rfl) (by decide) (fun h5 => ?_) (fun h5 => ?_)
    rotate_left
    · exfalso; omega
    refine go_iconst (at_of tX10_undo 0 6 rfl) (by unfold in32; omega) ?_
    refine go_cV (m_goesOn) lk_X10_141 rfl G_109 (at_of tX10_undo 0 7 rfl) rfl (by decide) rfl (Nat.le_of_ble_eq_true rfl) rfl (by first | decide | exact ⟨Nat.zero_le _, Nat.zero_le _⟩) ?_
    refine go_if_ne (tgt := 21) (at_of tX10_undo 0 8 rfl) (by decide) (fun h16 => ?_) (fun h16 => ?_)
    rotate_left
    · exfalso; exact absurd h16 (by rw [g]; decide)
    rw [← hσ1]
    refine go_aload_n (at_of tX10_undo 0 11 rfl) rfl ?_
    refine go_aload_n (at_of tX10_undo 0 12 rfl) rfl ?_
    refine go_getr (q := 110) fl_X10_7 rfl G_109 ((hS1 _ _ rfl).trans rfl) (at_of tX10_undo 0 13 rfl) ?_
    refine go_iconst (at_of tX10_undo 0 14 rfl) (by unfold in32; omega) ?_
    refine go_aload_n (at_of tX10_undo 0 15 rfl) rfl ?_
    refine go_getr (q := 112) fl_X10_16 rfl G_109 ((hS1 _ _ rfl).trans rfl) (at_of tX10_undo 1 0 rfl) ?_
    refine go_aload_n (at_of tX10_undo 1 1 rfl) rfl ?_
    refine go_getf fl_X10_138 rfl G_109 (at_of tX10_undo 1 2 rfl) ?_
    rw [s5]
    refine go_cV (m_copies G_110 G_112 (by omega) (by omega) (by omega)) lk_X10_134 rfl G_109 (at_of tX10_undo 1 3 rfl) rfl (by decide) rfl (Nat.le_of_ble_eq_true rfl) rfl (by first | decide | exact ⟨Nat.zero_le _, Nat.zero_le _⟩) ?_
    rw [← hσ2]
    refine go_aload_n (at_of tX10_undo 1 4 rfl) rfl ?_
    refine go_dup (at_of tX10_undo 1 5 rfl) rfl ?_
    refine go_getf fl_X10_138 rfl G_109 (at_of tX10_undo 1 6 rfl) ?_
    rw [r5]
    refine go_iconst (at_of tX10_undo 1 7 rfl) (by unfold in32; omega) ?_
    refine go_iadd (at_of tX10_undo 1 8 rfl) (by unfold in32; omega) ?_
    refine go_put1 fp_X10_138 rfl (Or.inl rfl) G_109 (Or.inl rfl) (at_of tX10_undo 1 9 rfl) ?_
    refine go_aload_n (at_of tX10_undo 1 10 rfl) rfl ?_
    refine go_dup (at_of tX10_undo 1 11 rfl) rfl ?_
    refine go_getf fl_X10_131 rfl G_109 (at_of tX10_undo 1 12 rfl) ?_
    rw [r4']
    refine go_iconst (at_of tX10_undo 1 13 rfl) (by unfold in32; omega) ?_
    refine go_isub (at_of tX10_undo 1 14 rfl) (by unfold in32; omega) ?_
    refine go_put1 fp_X10_131 rfl (Or.inl rfl) G_109 (Or.inl rfl) (at_of tX10_undo 1 15 rfl) ?_
    rw [← hσ3]
    refine go_aload_n (at_of tX10_undo 2 0 rfl) rfl ?_
    refine go_aload_n (at_of tX10_undo 2 1 rfl) rfl ?_
    refine go_getr (q := 111) fl_X10_13 rfl G_109 ((hS3 _ _ rfl).trans rfl) (at_of tX10_undo 2 2 rfl) ?_
    refine go_aload_n (at_of tX10_undo 2 3 rfl) rfl ?_
    refine go_getf fl_X10_131 rfl G_109 (at_of tX10_undo 2 4 rfl) ?_
    rw [s4]
    refine go_aload_n (at_of tX10_undo 2 5 rfl) rfl ?_
    refine go_getr (q := 110) fl_X10_7 rfl G_109 ((hS3 _ _ rfl).trans rfl) (at_of tX10_undo 2 6 rfl) ?_
    refine go_iconst (at_of tX10_undo 2 7 rfl) (by unfold in32; omega) ?_
    refine go_cV (m_copies G_111 G_110 (by omega) (by omega) (by omega)) lk_X10_134 rfl G_109 (at_of tX10_undo 2 8 rfl) rfl (by decide) rfl (Nat.le_of_ble_eq_true rfl) rfl (by first | decide | exact ⟨Nat.zero_le _, Nat.zero_le _⟩) ?_
    rw [← hσ4]
    refine go_aload_n (at_of tX10_undo 2 9 rfl) rfl ?_
    refine go_getf fl_X10_131 rfl G_109 (at_of tX10_undo 2 10 rfl) ?_
    exact go_reti (at_of tX10_undo 2 11 rfl) (le_i (by rw [s4']; omega))
  · rw [s4']; show _ = ((A.2.1 - 1 : Nat) : Int); omega
  · rw [n4 _ _ (by omega), hσ3, P1_nj (by omega), P1_eq]; show _ = ((A.2.2 + 1 : Nat) : Int); omega
  · refine (e (A.2.1 - 1) (by omega)).congr (fun x x0 x1 => ?_)
    have := cpS_in (σ := σ3) (a0 := 111) (a1 := 110) (fs := A.2.1 - 1) (ts := 0) (t := 3225) (x := x) (by omega) ⟨x0, x1⟩
    unfold cN cA
    rw [hσ4, show x = 3225 * 0 + x by omega, this, n3 _ _ (by omega), n2 _ _ (by omega), n1 _ _ (by omega), show 3225 * ((A.2.1 : Int) - 1) + x = 3225 * ((A.2.1 - 1 : Nat) : Int) + (3225 * 0 + x) by omega]
  · have hj : j < A.2.1 - 1 := hj
    refine (e j (by omega)).congr (fun x x0 x1 => ?_)
    unfold cA
    rw [n4 _ _ (by omega), n3 _ _ (by omega), n2 _ _ (by omega), n1 _ _ (by omega)]
  · have hj : j < A.2.2 + 1 := hj
    show RepN _ (A.1 (A.2.1 - 1 + (A.2.2 + 1) - j))
    by_cases ej : j = A.2.2
    · rw [show A.2.1 - 1 + (A.2.2 + 1) - j = A.2.1 by omega]
      refine d.congr (fun x x0 x1 => ?_)
      have := cpS_in (σ := σ1) (a0 := 110) (a1 := 112) (fs := 0) (ts := A.2.2) (t := 3225) (x := x) (by omega) ⟨x0, x1⟩
      unfold cN cA
      rw [n4 _ _ (by omega), n3 _ _ (by omega), hσ2, ej, this, n1 _ _ (by omega), show 3225 * 0 + x = x by omega]
    · rw [show A.2.1 - 1 + (A.2.2 + 1) - j = A.2.1 + A.2.2 - j by omega]
      refine (f j (by omega)).congr (fun x x0 x1 => ?_)
      have := cpS_out (σ := σ1) (a0 := 110) (a1 := 112) (fs := 0) (ts := A.2.2) (t := 3225) (x := 3225 * j + x) (by omega) (by omega)
      unfold cA
      rw [n4 _ _ (by omega), n3 _ _ (by omega), hσ2, this, n1 _ _ (by omega)]
  · rw [hσ4]; show σ3.2 = σ.2; rw [hσ3]; show σ2.2 = σ.2; rw [hσ2]; show σ1.2 = σ.2; rw [hσ1]; rfl
  · rw [n4 _ _ (by omega)]
    by_cases hx : x = 109
    · rw [hσ3, P1_nj (by omega), P1_nj (by omega), n2 _ _ (by omega), n1 _ _ (by omega)]
    · rw [n3 _ _ hx, n2 _ _ (by omega), n1 _ _ (by omega)]
  · rw [n4 _ _ (by omega), hσ3, P1_nj (by omega), P1_nj (by omega), n2 _ _ (by omega), hσ1, P1_eq]
theorem m_redo (hS : Str σ.2.1) {A : PastD} (hM : PastM σ A) (h : 0 < A.2.2) : ∃ σ', Con 1 mX10_redo 0 0 [vA 109] σ (vI ((A.2.2 - 1 : Nat) : Int), σ') ∧ PastM σ' (A.1, A.2.1 + 1, A.2.2 - 1) ∧ FrE σ σ' ∧ σ'.1 109 0 = 0 := by
  obtain ⟨a, b, c, d, e, f⟩ := id hM
  have g : bI ((0 : Int) = 0) = 1 := bI_t rfl
  have hk : (A.2.1 : Int) ≤ 5 := by omega
  obtain ⟨σ1, hσ1⟩ : ∃ σ1, σ1 = P1 σ 109 0 0 := ⟨_, rfl⟩
  have n1 : ∀ x j : Nat, ¬ (x = 109 ∧ j = 0) → σ1.1 x j = σ.1 x j := fun x j q => by
    rw [hσ1]
    by_cases hx : x = 109
    · exact P1_nj (by omega)
    · exact P1_ne hx
  obtain ⟨σ2, hσ2⟩ : ∃ σ2, σ2 = cpS σ1 110 0 111 A.2.1 3225 := ⟨_, rfl⟩
  obtain ⟨σ3, hσ3⟩ : ∃ σ3, σ3 = P1 (P1 σ2 109 4 (A.2.1 + 1)) 109 5 (A.2.2 - 1) := ⟨_, rfl⟩
  have hS1 : Str σ1.2.1 := by rw [hσ1]; exact hS
  have hS2 : Str σ2.2.1 := by rw [hσ2]; exact hS1
  have hS3 : Str σ3.2.1 := by rw [hσ3]; exact hS2
  have n2 : ∀ x j : Nat, x ≠ 111 → σ2.1 x j = σ1.1 x j := fun x j q => by rw [hσ2]; exact cpS_ne q
  have n3 : ∀ x j : Nat, x ≠ 109 → σ3.1 x j = σ2.1 x j := fun x j q => by rw [hσ3, P1_ne q, P1_ne q]
  have r5 : σ2.1 109 5 = A.2.2 := by rw [n2 _ _ (by omega), n1 _ _ (by omega)]; exact b
  have r4 : σ2.1 109 4 = A.2.1 := by rw [n2 _ _ (by omega), n1 _ _ (by omega)]; exact a
  have r5' : (P1 σ2 109 4 (A.2.1 + 1)).1 109 5 = A.2.2 := by rw [P1_nj (by omega)]; exact r5
  have s5 : σ3.1 109 5 = A.2.2 - 1 := by rw [hσ3, P1_eq]
  have s4 : σ1.1 109 4 = A.2.1 := by rw [n1 _ _ (by omega)]; exact a
  obtain ⟨σ4, hσ4⟩ : ∃ σ4, σ4 = cpS σ3 112 (A.2.2 - 1) 110 0 3225 := ⟨_, rfl⟩
  have n4 : ∀ x j : Nat, x ≠ 110 → σ4.1 x j = σ3.1 x j := fun x j q => by rw [hσ4]; exact cpS_ne q
  have s5' : σ4.1 109 5 = A.2.2 - 1 := by rw [n4 _ _ (by omega)]; exact s5
  refine ⟨σ4, ?_, ⟨?_, ?_, by show A.2.1 + 1 + (A.2.2 - 1) ≤ 6; omega, ?_, fun j hj => ?_, fun j hj => ?_⟩, ⟨?_, fun x j q => ?_⟩, ?_⟩
  · skip
    refine con_of_go mfX10_redo.1 trivial (Nat.le_of_ble_eq_true rfl) rfl (by decide) ?_
    show Go _ _ _ _ 0 [vA _] [] _ _
    refine go_aload_n (at_of tX10_redo 0 0 rfl) rfl ?_
    refine go_aload_n (at_of tX10_redo 0 1 rfl) rfl ?_
    refine go_getf fl_X10_138 rfl G_109 (at_of tX10_redo 0 2 rfl) ?_
    refine go_if_ne (tgt := 12) (at_of tX10_redo 0 3 rfl) (by decide) (fun h5 => ?_) (fun h5 => ?_)
    rotate_left
    · exfalso; omega
    refine go_iconst (at_of tX10_redo 0 6 rfl) (by unfold in32; omega) ?_
    refine go_cV (m_goesOn) lk_X10_141 rfl G_109 (at_of tX10_redo 0 7 rfl) rfl (by decide) rfl (Nat.le_of_ble_eq_true rfl) rfl (by first | decide | exact ⟨Nat.zero_le _, Nat.zero_le _⟩) ?_
    refine go_if_ne (tgt := 21) (at_of tX10_redo 0 8 rfl) (by decide) (fun h16 => ?_) (fun h16 => ?_)
    rotate_left
    · exfalso; exact absurd h16 (by rw [g]; decide)
    rw [← hσ1]
    refine go_aload_n (at_of tX10_redo 0 11 rfl) rfl ?_
    refine go_aload_n (at_of tX10_redo 0 12 rfl) rfl ?_
    refine go_getr (q := 110) fl_X10_7 rfl G_109 ((hS1 _ _ rfl).trans rfl) (at_of tX10_redo 0 13 rfl) ?_
    refine go_iconst (at_of tX10_redo 0 14 rfl) (by unfold in32; omega) ?_
    refine go_aload_n (at_of tX10_redo 0 15 rfl) rfl ?_
    refine go_getr (q := 111) fl_X10_13 rfl G_109 ((hS1 _ _ rfl).trans rfl) (at_of tX10_redo 1 0 rfl) ?_
    refine go_aload_n (at_of tX10_redo 1 1 rfl) rfl ?_
    refine go_getf fl_X10_131 rfl G_109 (at_of tX10_redo 1 2 rfl) ?_
    rw [s4]
    refine go_cV (m_copies G_110 G_111 (by omega) (by omega) (by omega)) lk_X10_134 rfl G_109 (at_of tX10_redo 1 3 rfl) rfl (by decide) rfl (Nat.le_of_ble_eq_true rfl) rfl (by first | decide | exact ⟨Nat.zero_le _, Nat.zero_le _⟩) ?_
    rw [← hσ2]
    refine go_aload_n (at_of tX10_redo 1 4 rfl) rfl ?_
    refine go_dup (at_of tX10_redo 1 5 rfl) rfl ?_
    refine go_getf fl_X10_131 rfl G_109 (at_of tX10_redo 1 6 rfl) ?_
    rw [r4]
    refine go_iconst (at_of tX10_redo 1 7 rfl) (by unfold in32; omega) ?_
    refine go_iadd (at_of tX10_redo 1 8 rfl) (by unfold in32; omega) ?_
    refine go_put1 fp_X10_131 rfl (Or.inl rfl) G_109 (Or.inl rfl) (at_of tX10_redo 1 9 rfl) ?_
    refine go_aload_n (at_of tX10_redo 1 10 rfl) rfl ?_
    refine go_dup (at_of tX10_redo 1 11 rfl) rfl ?_
    refine go_getf fl_X10_138 rfl G_109 (at_of tX10_redo 1 12 rfl) ?_
    rw [r5']
    refine go_iconst (at_of tX10_redo 1 13 rfl) (by unfold in32; omega) ?_
    refine go_isub (at_of tX10_redo 1 14 rfl) (by unfold in32; omega) ?_
    refine go_put1 fp_X10_138 rfl (Or.inl rfl) G_109 (Or.inl rfl) (at_of tX10_redo 1 15 rfl) ?_
    rw [← hσ3]
    refine go_aload_n (at_of tX10_redo 2 0 rfl) rfl ?_
    refine go_aload_n (at_of tX10_redo 2 1 rfl) rfl ?_
    refine go_getr (q := 112) fl_X10_16 rfl G_109 ((hS3 _ _ rfl).trans rfl) (at_of tX10_redo 2 2 rfl) ?_
    refine go_aload_n (at_of tX10_redo 2 3 rfl) rfl ?_
    refine go_getf fl_X10_138 rfl G_109 (at_of tX10_redo 2 4 rfl) ?_
    rw [s5]
    refine go_aload_n (at_of tX10_redo 2 5 rfl) rfl ?_
    refine go_getr (q := 110) fl_X10_7 rfl G_109 ((hS3 _ _ rfl).trans rfl) (at_of tX10_redo 2 6 rfl) ?_
    refine go_iconst (at_of tX10_redo 2 7 rfl) (by unfold in32; omega) ?_
    refine go_cV (m_copies G_112 G_110 (by omega) (by omega) (by omega)) lk_X10_134 rfl G_109 (at_of tX10_redo 2 8 rfl) rfl (by decide) rfl (Nat.le_of_ble_eq_true rfl) rfl (by first | decide | exact ⟨Nat.zero_le _, Nat.zero_le _⟩) ?_
    rw [← hσ4]
    refine go_aload_n (at_of tX10_redo 2 9 rfl) rfl ?_
    refine go_getf fl_X10_138 rfl G_109 (at_of tX10_redo 2 10 rfl) ?_
    exact go_reti (at_of tX10_redo 2 11 rfl) (le_i (by rw [s5']; omega))
  · rw [n4 _ _ (by omega), hσ3, P1_nj (by omega), P1_eq]; show _ = ((A.2.1 + 1 : Nat) : Int); omega
  · rw [s5']; show _ = ((A.2.2 - 1 : Nat) : Int); omega
  · show RepN _ (A.1 (A.2.1 + 1))
    have := f (A.2.2 - 1) (by omega)
    rw [show A.2.1 + A.2.2 - (A.2.2 - 1) = A.2.1 + 1 by omega] at this
    refine this.congr (fun x x0 x1 => ?_)
    have := cpS_in (σ := σ3) (a0 := 112) (a1 := 110) (fs := A.2.2 - 1) (ts := 0) (t := 3225) (x := x) (by omega) ⟨x0, x1⟩
    unfold cN cA
    rw [hσ4, show x = 3225 * 0 + x by omega, this, n3 _ _ (by omega), n2 _ _ (by omega), n1 _ _ (by omega), show 3225 * ((A.2.2 : Int) - 1) + x = 3225 * ((A.2.2 - 1 : Nat) : Int) + (3225 * 0 + x) by omega]
  · have hj : j < A.2.1 + 1 := hj
    show RepN _ (A.1 j)
    by_cases ej : j = A.2.1
    · rw [ej]
      refine d.congr (fun x x0 x1 => ?_)
      have := cpS_in (σ := σ1) (a0 := 110) (a1 := 111) (fs := 0) (ts := A.2.1) (t := 3225) (x := x) (by omega) ⟨x0, x1⟩
      unfold cN cA
      rw [n4 _ _ (by omega), n3 _ _ (by omega), hσ2, this, n1 _ _ (by omega), show 3225 * 0 + x = x by omega]
    · refine (e j (by omega)).congr (fun x x0 x1 => ?_)
      have := cpS_out (σ := σ1) (a0 := 110) (a1 := 111) (fs := 0) (ts := A.2.1) (t := 3225) (x := 3225 * j + x) (by omega) (by omega)
      unfold cA
      rw [n4 _ _ (by omega), n3 _ _ (by omega), hσ2, this, n1 _ _ (by omega)]
  · have hj : j < A.2.2 - 1 := hj
    show RepN _ (A.1 (A.2.1 + 1 + (A.2.2 - 1) - j))
    rw [show A.2.1 + 1 + (A.2.2 - 1) - j = A.2.1 + A.2.2 - j by omega]
    refine (f j (by omega)).congr (fun x x0 x1 => ?_)
    unfold cA
    rw [n4 _ _ (by omega), n3 _ _ (by omega), n2 _ _ (by omega), n1 _ _ (by omega)]
  · rw [hσ4]; show σ3.2 = σ.2; rw [hσ3]; show σ2.2 = σ.2; rw [hσ2]; show σ1.2 = σ.2; rw [hσ1]; rfl
  · rw [n4 _ _ (by omega)]
    by_cases hx : x = 109
    · rw [hσ3, P1_nj (by omega), P1_nj (by omega), n2 _ _ (by omega), n1 _ _ (by omega)]
    · rw [n3 _ _ hx, n2 _ _ (by omega), n1 _ _ (by omega)]
  · rw [n4 _ _ (by omega), hσ3, P1_nj (by omega), P1_nj (by omega), n2 _ _ (by omega), hσ1, P1_eq]
end Mod2
