/-! The reference: parts erased. -/
section Mod13
variable {σ : St}
theorem P1_P1 {a j : Nat} {z z' : Int} : P1 (P1 σ a j z) a j z' = P1 σ a j z' := by
  unfold P1 upd2
  refine Prod.ext (funext fun x => funext fun y => ?_) rfl
  dsimp only
  split
  · rfl
  · rfl
def erL (D : PapD) (nd : Bool) (a : Int) : LogD := if nd = true then enrL D.2.1 101 a else D.2.1
def erC (D : PapD) (nd : Bool) : Int := if nd = true then D.2.1.1 else -1
def erD (D : PapD) (tr nd : Bool) (a x y : Int) : PapD := (dnX (erF tr (erL D nd a) a (erC D nd)) (y + 1 - x).toNat y D.1, erL D nd a, D.2.2)
theorem m_erase_loop {σ1 : St} (hS1 : Str σ1.2.1) {R0 : RowD} {L : LogD} {Q : Int → Int} (hN1 : RepN (cN σ1) (R0, L, Q)) (hRw : RowW R0) (hMk : ∀ i, 0 ≤ i → i ≤ R0.2.1 → R0.1 2 i = -1 ∨ (0 ≤ R0.1 2 i ∧ R0.1 2 i < L.1)) {tr : Bool} (ht : σ1.1 109 6 = bI (tr = true)) {a p z x y ch : Int} (hx : 0 ≤ x) (hxy : x ≤ y) (hy : y < R0.2.1) (v6 v7 : MV) :
    ∃ σ', (RepN (cN σ') (dnX (erF tr L a ch) (y + 1 - x).toNat y R0, L, Q) ∧ FrN σ1 σ') ∧ ∀ (b : Nat × Nat) (out : MV × St), (∀ b, Go (fun _ => 0) 4 mX10_erase b 313 [vA 109, vI a, vI p, vI z, vI x, vI y, v6, v7, vI ch, vI (x - 1)] [] σ' out) → Go (fun _ => 0) 4 mX10_erase b 253 [vA 109, vI a, vI p, vI z, vI x, vI y, v6, v7, vI ch, vI y] [] σ1 out := by
  have key := loop_dn (α := RowD) (Rep := fun σ' R u => RepN (cN σ') (R, L, Q) ∧ FrN σ1 σ' ∧ RowW R ∧ x - 1 ≤ u ∧ u ≤ y ∧ u < R.2.1 ∧ ∀ w i, 0 ≤ i → i ≤ u → R.1 w i = R0.1 w i) (f := erF tr L a ch) (lo := x)
    (G := fun b _ u σ out => Go (fun _ => 0) 4 mX10_erase b 253 [vA 109, vI a, vI p, vI z, vI x, vI y, v6, v7, vI ch, vI u] [] σ out) (fun σ R u hh hlo => ?_) (y + 1 - x).toNat σ1 R0 y ⟨hN1, FrN.refl, hRw, by omega, by omega, hy, fun _ _ _ _ => rfl⟩ (by omega)
  · obtain ⟨σ', ⟨q1, q2, -⟩, q4⟩ := key
    refine ⟨σ', ⟨q1, q2⟩, fun b out K => q4 b out (fun b => ?_)⟩
    refine go_iload (at_of tX10_erase 7 15 rfl) rfl rfl ?_
    refine go_iload (at_of tX10_erase 8 0 rfl) rfl rfl ?_
    refine go_icmp_lt (tgt := 313) (at_of tX10_erase 8 1 rfl) (by decide) (fun h257 => ?_) (fun h257 => ?_)
    rotate_left
    · exfalso; omega
    exact K _
  · obtain ⟨hE, hF, hW, hu1, hu, hun, hlow⟩ := hh
    have hS := hF.str hS1
    have h0 : 0 ≤ u := by omega
    have hE1 : RepNr (cN σ) R := hE.1
    have hw2 := hW.2.1
    have ht6 : σ.1 109 6 = bI (tr = true) := (hF.2 109 6 (by omega)).trans ht
    have ms := m_isSeen hS hE1 (u := u) ⟨h0, by show u ≤ R.2.1; omega, hw2⟩
    have mo := m_isOwn2 hS hE (u := u) (a := a) ⟨h0, by show u ≤ R.2.1; omega⟩ (by
      show R.1 2 u = -1 ∨ (0 ≤ R.1 2 u ∧ R.1 2 u < L.1)
      rw [hlow 2 u h0 (Int.le_refl _)]; exact hMk u h0 (by omega))
    have ms : Con 1 mX10_isSeen 0 0 [vA 109, vI u] σ (vI (bI (R.1 3 u = -1)), σ) := ms
    have mo : Con 1 mX10_isOwn 0 0 [vA 109, vI u, vI a] σ (vI (bI (waitsD L (R.1 2 u) a = true)), σ) := mo
    cases tr with
    | true =>
      by_cases hs : R.1 3 u = -1
      · have hse := (seen_iff (R := R) h0 (by omega)).mpr hs
        by_cases ho : waitsD L (R.1 2 u) a = true
        · skip
          obtain ⟨σ2, cl, F2, C2, N2⟩ := m_closes hS hE1 hW (u := u) ⟨h0, hun⟩
          have e9 : erF true L a ch R u = drpR R u := by unfold erF; rw [if_pos hse, if_neg (fun q => q.2 ho)]
          rw [e9]
          refine ⟨σ2, ⟨hE.row N2 ⟨by show 0 ≤ R.2.1 - 1; omega, by show R.2.1 - 1 ≤ 200; omega⟩ C2, hF.trans F2, hW.drp ⟨h0, hun⟩, by omega, by omega, by show u - 1 < R.2.1 - 1; omega, fun w i i0 i1 => ?_⟩, fun b out K => ?_⟩
          · show (if i < u then _ else _) = _; rw [if_pos (by omega)]; exact hlow w i i0 (by omega)
          · skip
            refine go_iload (at_of tX10_erase 7 15 rfl) rfl rfl ?_
            refine go_iload (at_of tX10_erase 8 0 rfl) rfl rfl ?_
            refine go_icmp_lt (tgt := 313) (at_of tX10_erase 8 1 rfl) (by decide) (fun h257 => ?_) (fun h257 => ?_)
            · exfalso; omega
            refine go_aload_n (at_of tX10_erase 8 2 rfl) rfl ?_
            refine go_iload (at_of tX10_erase 8 3 rfl) rfl rfl ?_
            refine go_cV (ms) lk_X10_114 rfl G_109 (at_of tX10_erase 8 4 rfl) rfl (by decide) rfl (Nat.le_of_ble_eq_true rfl) rfl (by first | decide | exact ⟨Nat.zero_le _, Nat.zero_le _⟩) ?_
            refine go_if_ne (tgt := 272) (at_of tX10_erase 8 5 rfl) (by decide) (fun h266 => ?_) (fun h266 => ?_)
            rotate_left
            · exfalso; exact absurd h266 (by rw [bI_t hs]; decide)
            refine go_aload_n (at_of tX10_erase 8 7 rfl) rfl ?_
            refine go_getf fl_X10_19 rfl G_109 (at_of tX10_erase 8 8 rfl) ?_
            refine go_if_eq (tgt := 301) (at_of tX10_erase 8 9 rfl) (by decide) (fun h276 => ?_) (fun h276 => ?_)
            · exfalso; rw [ht6] at h276; exact absurd h276 (by decide)
            refine go_aload_n (at_of tX10_erase 8 10 rfl) rfl ?_
            refine go_iload (at_of tX10_erase 8 11 rfl) rfl rfl ?_
            refine go_iload_n (at_of tX10_erase 8 12 rfl) rfl ?_
            refine go_cV (mo) lk_X10_190 rfl G_109 (at_of tX10_erase 8 13 rfl) rfl (by decide) rfl (Nat.le_of_ble_eq_true rfl) rfl (by first | decide | exact ⟨Nat.zero_le _, Nat.zero_le _⟩) ?_
            refine go_if_ne (tgt := 301) (at_of tX10_erase 8 14 rfl) (by decide) (fun h286 => ?_) (fun h286 => ?_)
            rotate_left
            · exfalso; exact bI_0.mp h286 ho
            refine go_aload_n (at_of tX10_erase 9 5 rfl) rfl ?_
            refine go_iload (at_of tX10_erase 9 6 rfl) rfl rfl ?_
            refine go_cV (cl) lk_X10_200 rfl G_109 (at_of tX10_erase 9 7 rfl) rfl (by decide) rfl (Nat.le_of_ble_eq_true rfl) rfl (by first | decide | exact ⟨Nat.zero_le _, Nat.zero_le _⟩) ?_
            refine go_iinc (at_of tX10_erase 9 8 rfl) rfl (by unfold in32; omega) rfl rfl ?_
            refine go_goto (tgt := 253) (at_of tX10_erase 9 9 rfl) (by decide) ?_
            exact K _
        · have N2 := rN_set2 (z := ch) hE1 (u := u) ⟨h0, by omega⟩ hW.2.1
          have P2 := hE.set (R := setR R 3 u ch) ⟨by omega, by omega⟩ N2 ⟨hW.1, hW.2.1⟩
          have e9 : erF true L a ch R u = setR R 3 u ch := by unfold erF; rw [if_pos hse, if_pos ⟨rfl, ho⟩]
          rw [e9]
          refine ⟨M1 σ 110 (10 * u + 2) ch, ⟨P2, hF.trans FrN.m1, hW, by omega, by omega, by show u - 1 < R.2.1; omega, fun w i i0 i1 => ?_⟩, fun b out K => ?_⟩
          · rw [setR_ne (by omega)]; exact hlow w i i0 (by omega)
          · skip
            refine go_iload (at_of tX10_erase 7 15 rfl) rfl rfl ?_
            refine go_iload (at_of tX10_erase 8 0 rfl) rfl rfl ?_
            refine go_icmp_lt (tgt := 313) (at_of tX10_erase 8 1 rfl) (by decide) (fun h257 => ?_) (fun h257 => ?_)
            · exfalso; omega
            refine go_aload_n (at_of tX10_erase 8 2 rfl) rfl ?_
            refine go_iload (at_of tX10_erase 8 3 rfl) rfl rfl ?_
            refine go_cV (ms) lk_X10_114 rfl G_109 (at_of tX10_erase 8 4 rfl) rfl (by decide) rfl (Nat.le_of_ble_eq_true rfl) rfl (by first | decide | exact ⟨Nat.zero_le _, Nat.zero_le _⟩) ?_
            refine go_if_ne (tgt := 272) (at_of tX10_erase 8 5 rfl) (by decide) (fun h266 => ?_) (fun h266 => ?_)
            rotate_left
            · exfalso; exact absurd h266 (by rw [bI_t hs]; decide)
            refine go_aload_n (at_of tX10_erase 8 7 rfl) rfl ?_
            refine go_getf fl_X10_19 rfl G_109 (at_of tX10_erase 8 8 rfl) ?_
            refine go_if_eq (tgt := 301) (at_of tX10_erase 8 9 rfl) (by decide) (fun h276 => ?_) (fun h276 => ?_)
            · exfalso; rw [ht6] at h276; exact absurd h276 (by decide)
            refine go_aload_n (at_of tX10_erase 8 10 rfl) rfl ?_
            refine go_iload (at_of tX10_erase 8 11 rfl) rfl rfl ?_
            refine go_iload_n (at_of tX10_erase 8 12 rfl) rfl ?_
            refine go_cV (mo) lk_X10_190 rfl G_109 (at_of tX10_erase 8 13 rfl) rfl (by decide) rfl (Nat.le_of_ble_eq_true rfl) rfl (by first | decide | exact ⟨Nat.zero_le _, Nat.zero_le _⟩) ?_
            refine go_if_ne (tgt := 301) (at_of tX10_erase 8 14 rfl) (by decide) (fun h286 => ?_) (fun h286 => ?_)
            · exfalso; exact ho (bI_1.mp h286)
            refine go_aload_n (at_of tX10_erase 8 15 rfl) rfl ?_
            refine go_iload (at_of tX10_erase 9 0 rfl) rfl rfl ?_
            refine go_iconst (at_of tX10_erase 9 1 rfl) (by unfold in32; omega) ?_
            refine go_iload (at_of tX10_erase 9 2 rfl) rfl rfl ?_
            refine go_cV (m_setAt hS (by omega)) lk_X10_99 rfl G_109 (at_of tX10_erase 9 3 rfl) rfl (by decide) rfl (Nat.le_of_ble_eq_true rfl) rfl (by first | decide | exact ⟨Nat.zero_le _, Nat.zero_le _⟩) ?_
            refine go_goto (tgt := 307) (at_of tX10_erase 9 4 rfl) (by decide) ?_
            refine go_iinc (at_of tX10_erase 9 8 rfl) rfl (by unfold in32; omega) rfl rfl ?_
            refine go_goto (tgt := 253) (at_of tX10_erase 9 9 rfl) (by decide) ?_
            exact K _
      · have hsn : ¬ seenB R.1 R.2.1 u = true := fun q => hs ((seen_iff (R := R) h0 (by omega)).mp q)
        have e9 : erF true L a ch R u = R := if_neg hsn
        rw [e9]
        refine ⟨σ, ⟨hE, hF, hW, by omega, by omega, by omega, fun w i i0 i1 => hlow w i i0 (by omega)⟩, fun b out K => ?_⟩
        refine go_iload (at_of tX10_erase 7 15 rfl) rfl rfl ?_
        refine go_iload (at_of tX10_erase 8 0 rfl) rfl rfl ?_
        refine go_icmp_lt (tgt := 313) (at_of tX10_erase 8 1 rfl) (by decide) (fun h257 => ?_) (fun h257 => ?_)
        · exfalso; omega
        refine go_aload_n (at_of tX10_erase 8 2 rfl) rfl ?_
        refine go_iload (at_of tX10_erase 8 3 rfl) rfl rfl ?_
        refine go_cV (ms) lk_X10_114 rfl G_109 (at_of tX10_erase 8 4 rfl) rfl (by decide) rfl (Nat.le_of_ble_eq_true rfl) rfl (by first | decide | exact ⟨Nat.zero_le _, Nat.zero_le _⟩) ?_
        refine go_if_ne (tgt := 272) (at_of tX10_erase 8 5 rfl) (by decide) (fun h266 => ?_) (fun h266 => ?_)
        · exfalso; exact hs (bI_1.mp h266)
        refine go_goto (tgt := 307) (at_of tX10_erase 8 6 rfl) (by decide) ?_
        refine go_iinc (at_of tX10_erase 9 8 rfl) rfl (by unfold in32; omega) rfl rfl ?_
        refine go_goto (tgt := 253) (at_of tX10_erase 9 9 rfl) (by decide) ?_
        exact K _
    | false =>
      by_cases hs : R.1 3 u = -1
      · have hse := (seen_iff (R := R) h0 (by omega)).mpr hs
        skip
        obtain ⟨σ2, cl, F2, C2, N2⟩ := m_closes hS hE1 hW (u := u) ⟨h0, hun⟩
        have e9 : erF false L a ch R u = drpR R u := by unfold erF; rw [if_pos hse, if_neg (fun q => absurd q.1 (by decide))]
        rw [e9]
        refine ⟨σ2, ⟨hE.row N2 ⟨by show 0 ≤ R.2.1 - 1; omega, by show R.2.1 - 1 ≤ 200; omega⟩ C2, hF.trans F2, hW.drp ⟨h0, hun⟩, by omega, by omega, by show u - 1 < R.2.1 - 1; omega, fun w i i0 i1 => ?_⟩, fun b out K => ?_⟩
        · show (if i < u then _ else _) = _; rw [if_pos (by omega)]; exact hlow w i i0 (by omega)
        · skip
          refine go_iload (at_of tX10_erase 7 15 rfl) rfl rfl ?_
          refine go_iload (at_of tX10_erase 8 0 rfl) rfl rfl ?_
          refine go_icmp_lt (tgt := 313) (at_of tX10_erase 8 1 rfl) (by decide) (fun h257 => ?_) (fun h257 => ?_)
          · exfalso; omega
          refine go_aload_n (at_of tX10_erase 8 2 rfl) rfl ?_
          refine go_iload (at_of tX10_erase 8 3 rfl) rfl rfl ?_
          refine go_cV (ms) lk_X10_114 rfl G_109 (at_of tX10_erase 8 4 rfl) rfl (by decide) rfl (Nat.le_of_ble_eq_true rfl) rfl (by first | decide | exact ⟨Nat.zero_le _, Nat.zero_le _⟩) ?_
          refine go_if_ne (tgt := 272) (at_of tX10_erase 8 5 rfl) (by decide) (fun h266 => ?_) (fun h266 => ?_)
          rotate_left
          · exfalso; exact absurd h266 (by rw [bI_t hs]; decide)
          refine go_aload_n (at_of tX10_erase 8 7 rfl) rfl ?_
          refine go_getf fl_X10_19 rfl G_109 (at_of tX10_erase 8 8 rfl) ?_
          refine go_if_eq (tgt := 301) (at_of tX10_erase 8 9 rfl) (by decide) (fun h276 => ?_) (fun h276 => ?_)
          rotate_left
          · exfalso; rw [ht6] at h276; exact h276 (by decide)
          refine go_aload_n (at_of tX10_erase 9 5 rfl) rfl ?_
          refine go_iload (at_of tX10_erase 9 6 rfl) rfl rfl ?_
          refine go_cV (cl) lk_X10_200 rfl G_109 (at_of tX10_erase 9 7 rfl) rfl (by decide) rfl (Nat.le_of_ble_eq_true rfl) rfl (by first | decide | exact ⟨Nat.zero_le _, Nat.zero_le _⟩) ?_
          refine go_iinc (at_of tX10_erase 9 8 rfl) rfl (by unfold in32; omega) rfl rfl ?_
          refine go_goto (tgt := 253) (at_of tX10_erase 9 9 rfl) (by decide) ?_
          exact K _
      · have hsn : ¬ seenB R.1 R.2.1 u = true := fun q => hs ((seen_iff (R := R) h0 (by omega)).mp q)
        have e9 : erF false L a ch R u = R := if_neg hsn
        rw [e9]
        refine ⟨σ, ⟨hE, hF, hW, by omega, by omega, by omega, fun w i i0 i1 => hlow w i i0 (by omega)⟩, fun b out K => ?_⟩
        refine go_iload (at_of tX10_erase 7 15 rfl) rfl rfl ?_
        refine go_iload (at_of tX10_erase 8 0 rfl) rfl rfl ?_
        refine go_icmp_lt (tgt := 313) (at_of tX10_erase 8 1 rfl) (by decide) (fun h257 => ?_) (fun h257 => ?_)
        · exfalso; omega
        refine go_aload_n (at_of tX10_erase 8 2 rfl) rfl ?_
        refine go_iload (at_of tX10_erase 8 3 rfl) rfl rfl ?_
        refine go_cV (ms) lk_X10_114 rfl G_109 (at_of tX10_erase 8 4 rfl) rfl (by decide) rfl (Nat.le_of_ble_eq_true rfl) rfl (by first | decide | exact ⟨Nat.zero_le _, Nat.zero_le _⟩) ?_
        refine go_if_ne (tgt := 272) (at_of tX10_erase 8 5 rfl) (by decide) (fun h266 => ?_) (fun h266 => ?_)
        · exfalso; exact hs (bI_1.mp h266)
        refine go_goto (tgt := 307) (at_of tX10_erase 8 6 rfl) (by decide) ?_
        refine go_iinc (at_of tX10_erase 9 8 rfl) rfl (by unfold in32; omega) rfl rfl ?_
        refine go_goto (tgt := 253) (at_of tX10_erase 9 9 rfl) (by decide) ?_
        exact K _
theorem m_erase_3 (hS : Str σ.2.1) {A : PastD} (hM : PastM σ A) (hW : WfB (A.1 A.2.1)) {tr : Bool} (htr : σ.1 109 6 = bI (tr = true)) {a p z : Int} (h : (0 ≤ a ∧ a ≤ 3) ∧ (0 ≤ p ∧ p ≤ plOf (A.1 A.2.1).1.1 (A.1 A.2.1).1.2.1 (A.1 A.2.1).1.2.1) ∧ (0 ≤ z ∧ z ≤ plOf (A.1 A.2.1).1.1 (A.1 A.2.1).1.2.1 (A.1 A.2.1).1.2.1)) (h2 : p < z) (h3 : (ndM (A.1 A.2.1) a (ixOf (A.1 A.2.1).1.1 (A.1 A.2.1).1.2.1 p) (ixOf (A.1 A.2.1).1.1 (A.1 A.2.1).1.2.1 (z - 1)) = true ∧ tr = true) ∧ (A.1 A.2.1).2.1.1 = 60) : Con 4 mX10_erase 0 0 [vA 109, vI a, vI p, vI z] σ (vI 0, P1 σ 109 0 3) := by
  obtain ⟨hWm, hl2, h4⟩ := id hW
  obtain ⟨hE, hSg, hMk, hRw⟩ := id hWm
  obtain ⟨e1, e2, e3, e4⟩ := id hE
  have hN := hM.2.2.2.1
  obtain ⟨b1, b2, b3, b4⟩ := id hN.2.2.2
  have hl := hN.2.1.2
  have hcc : σ.1 110 (3011 : Int).toNat = (A.1 A.2.1).2.1.1 := hN.2.1.1
  have hSt : Str (P1 σ 109 0 0).2.1 := hS
  have hNt : RepN (cN (P1 σ 109 0 0)) (A.1 A.2.1) := by rw [cN_P1]; exact hN
  obtain ⟨x1, x2, x3, x4⟩ := place_ix hE h.2.1.1 h.2.1.2
  obtain ⟨y1, y2, y3, y4⟩ := place_ix hE (p := z - 1) (by omega) (by omega)
  obtain ⟨z1, z2, z3, z4⟩ := place_ix hE h.2.2.1 h.2.2.2
  have ask := m_erase_ask hS hM hW h h2 rfl rfl rfl
  have mx := m_unitOf hSt hNt.1 hE hSg (p := p) h.2.1.1 h.2.1.2
  have my := m_unitOf hSt hNt.1 hE hSg (p := z - 1) (by omega) (by omega)
  have pl := (plOf_le (F := (A.1 A.2.1).1.1) (n := (A.1 A.2.1).1.2.1) (i := (A.1 A.2.1).1.2.1)).2 e1
  obtain ⟨x, hx⟩ : ∃ x, x = (ixOf (A.1 A.2.1).1.1 (A.1 A.2.1).1.2.1 p) := ⟨_, rfl⟩
  obtain ⟨y, hy⟩ : ∃ y, y = (ixOf (A.1 A.2.1).1.1 (A.1 A.2.1).1.2.1 (z - 1)) := ⟨_, rfl⟩
  obtain ⟨nd, hnd⟩ : ∃ nd, nd = ndM (A.1 A.2.1) a (ixOf (A.1 A.2.1).1.1 (A.1 A.2.1).1.2.1 p) (ixOf (A.1 A.2.1).1.1 (A.1 A.2.1).1.2.1 (z - 1)) := ⟨_, rfl⟩
  obtain ⟨br, hbr⟩ : ∃ br, br = brM (A.1 A.2.1).1 (endsA (A.1 A.2.1).1.1 (A.1 A.2.1).1.2.1 (ixOf (A.1 A.2.1).1.1 (A.1 A.2.1).1.2.1 p)) (endsA (A.1 A.2.1).1.1 (A.1 A.2.1).1.2.1 (ixOf (A.1 A.2.1).1.1 (A.1 A.2.1).1.2.1 z)) := ⟨_, rfl⟩
  rw [← hnd, ← hbr] at ask
  rw [← hx] at ask mx x1 x2 x3 x4
  rw [← hy] at ask my y1 y2 y3 y4
  have t60 : (P1 σ 109 0 0).1 109 6 = bI (tr = true) := (P1_nj (by omega)).trans htr
  have ecc : (P1 σ 109 0 0).1 110 (3011 : Int).toNat = (A.1 A.2.1).2.1.1 := (P1_ne (by omega)).trans hcc
  have e3' : nd = true := hnd.trans h3.1.1
  obtain ⟨⟨-, rfl⟩, h60⟩ := h3
  subst e3'
  refine con_of_go mfX10_erase.1 trivial (Nat.le_of_ble_eq_true rfl) rfl (by decide) ?_
  show Go _ _ _ _ 0 [vA _, vI _, vI _, vI _, vT 9 0, vT 9 0, vT 9 0, vT 9 0, vT 9 0, vT 9 0] [] _ _
  refine go_aload_n (at_of tX10_erase 0 0 rfl) rfl ?_
  refine go_iload_n (at_of tX10_erase 0 1 rfl) rfl ?_
  refine go_cS (m_isAuthor) lk_X10_151 rfl (at_of tX10_erase 0 2 rfl) rfl (by decide) rfl (Nat.le_of_ble_eq_true rfl) rfl (by first | decide | exact ⟨Nat.zero_le _, Nat.zero_le _⟩) ?_
  refine go_if_eq (tgt := 24) (at_of tX10_erase 0 3 rfl) (by decide) (fun h5 => ?_) (fun h5 => ?_)
  · exfalso; exact bI_0.mp h5 h.1
  refine go_aload_n (at_of tX10_erase 0 4 rfl) rfl ?_
  refine go_iload_n (at_of tX10_erase 0 5 rfl) rfl ?_
  refine go_cV (m_isPlace hS hN.1 hE hSg) lk_X10_154 rfl G_109 (at_of tX10_erase 0 6 rfl) rfl (by decide) rfl (Nat.le_of_ble_eq_true rfl) rfl (by first | decide | exact ⟨Nat.zero_le _, Nat.zero_le _⟩) ?_
  refine go_if_eq (tgt := 24) (at_of tX10_erase 0 7 rfl) (by decide) (fun h13 => ?_) (fun h13 => ?_)
  · exfalso; exact bI_0.mp h13 h.2.1
  refine go_aload_n (at_of tX10_erase 0 8 rfl) rfl ?_
  refine go_iload_n (at_of tX10_erase 0 9 rfl) rfl ?_
  refine go_cV (m_isPlace hS hN.1 hE hSg) lk_X10_154 rfl G_109 (at_of tX10_erase 0 10 rfl) rfl (by decide) rfl (Nat.le_of_ble_eq_true rfl) rfl (by first | decide | exact ⟨Nat.zero_le _, Nat.zero_le _⟩) ?_
  refine go_if_ne (tgt := 28) (at_of tX10_erase 0 11 rfl) (by decide) (fun h21 => ?_) (fun h21 => ?_)
  rotate_left
  · exfalso; exact bI_0.mp h21 h.2.2
  refine go_iload_n (at_of tX10_erase 0 14 rfl) rfl ?_
  refine go_iload_n (at_of tX10_erase 0 15 rfl) rfl ?_
  refine go_icmp_gt (tgt := 37) (at_of tX10_erase 1 0 rfl) (by decide) (fun h30 => ?_) (fun h30 => ?_)
  rotate_left
  · exfalso; omega
  refine go_iconst (at_of tX10_erase 1 3 rfl) (by unfold in32; omega) ?_
  refine go_cV (m_goesOn) lk_X10_141 rfl G_109 (at_of tX10_erase 1 4 rfl) rfl (by decide) rfl (Nat.le_of_ble_eq_true rfl) rfl (by first | decide | exact ⟨Nat.zero_le _, Nat.zero_le _⟩) ?_
  refine go_if_ne (tgt := 46) (at_of tX10_erase 1 5 rfl) (by decide) (fun h41 => ?_) (fun h41 => ?_)
  rotate_left
  · exfalso; exact absurd h41 (by rw [bI_t rfl]; decide)
  refine go_aload_n (at_of tX10_erase 1 8 rfl) rfl ?_
  refine go_iload_n (at_of tX10_erase 1 9 rfl) rfl ?_
  refine go_cV (mx) lk_X10_157 rfl G_109 (at_of tX10_erase 1 10 rfl) rfl (by decide) rfl (Nat.le_of_ble_eq_true rfl) rfl (by first | decide | exact ⟨Nat.zero_le _, Nat.zero_le _⟩) ?_
  refine go_istore (at_of tX10_erase 1 11 rfl) rfl rfl ?_
  refine go_aload_n (at_of tX10_erase 1 12 rfl) rfl ?_
  refine go_iload_n (at_of tX10_erase 1 13 rfl) rfl ?_
  refine go_iconst (at_of tX10_erase 1 14 rfl) (by unfold in32; omega) ?_
  refine go_isub (at_of tX10_erase 1 15 rfl) (by unfold in32; omega) ?_
  refine go_cV (my) lk_X10_157 rfl G_109 (at_of tX10_erase 2 0 rfl) rfl (by decide) rfl (Nat.le_of_ble_eq_true rfl) rfl (by first | decide | exact ⟨Nat.zero_le _, Nat.zero_le _⟩) ?_
  refine go_istore (at_of tX10_erase 2 1 rfl) rfl rfl ?_
  refine ask _ _ _ _ _ _ (fun b v8 => ?_)
  refine go_iload (at_of tX10_erase 5 5 rfl) rfl rfl ?_
  refine go_if_eq (tgt := 183) (at_of tX10_erase 5 6 rfl) (by decide) (fun h169 => ?_) (fun h169 => ?_)
  · exfalso; exact absurd h169 (by decide)
  refine go_aload_n (at_of tX10_erase 5 7 rfl) rfl ?_
  refine go_getf fl_X10_19 rfl G_109 (at_of tX10_erase 5 8 rfl) ?_
  refine go_if_eq (tgt := 183) (at_of tX10_erase 5 9 rfl) (by decide) (fun h176 => ?_) (fun h176 => ?_)
  · exfalso; rw [t60] at h176; exact absurd h176 (by decide)
  refine go_iconst (at_of tX10_erase 5 10 rfl) (by unfold in32; omega) ?_
  refine go_goto (tgt := 184) (at_of tX10_erase 5 11 rfl) (by decide) ?_
  refine go_istore (at_of tX10_erase 5 13 rfl) rfl rfl ?_
  refine go_aload_n (at_of tX10_erase 5 14 rfl) rfl ?_
  refine go_iload (at_of tX10_erase 5 15 rfl) rfl rfl ?_
  refine go_if_eq (tgt := 209) (at_of tX10_erase 6 0 rfl) (by decide) (fun h189 => ?_) (fun h189 => ?_)
  · exfalso; omega
  refine go_aload_n (at_of tX10_erase 6 1 rfl) rfl ?_
  refine go_getr (q := 110) fl_X10_7 rfl G_109 (by first | exact (hS _ _ rfl).trans rfl | exact (hS1 _ _ rfl).trans rfl | exact (hS2 _ _ rfl).trans rfl | exact (hS3 _ _ rfl).trans rfl | exact (hS4 _ _ rfl).trans rfl) (at_of tX10_erase 6 2 rfl) ?_
  refine go_sipush (at_of tX10_erase 6 3 rfl) (by decide) ?_
  refine go_iald G_110 (by omega) (by omega) (at_of tX10_erase 6 4 rfl) ?_
  refine go_bipush (at_of tX10_erase 6 5 rfl) (by decide) ?_
  rw [ecc]
  refine go_icmp_ne (tgt := 209) (at_of tX10_erase 6 6 rfl) (by decide) (fun h202 => ?_) (fun h202 => ?_)
  · exfalso; omega
  refine go_iconst (at_of tX10_erase 6 7 rfl) (by unfold in32; omega) ?_
  refine go_goto (tgt := 219) (at_of tX10_erase 6 8 rfl) (by decide) ?_
  refine go_cV (m_goesOn) lk_X10_141 rfl G_109 (at_of tX10_erase 6 14 rfl) rfl (by decide) rfl (Nat.le_of_ble_eq_true rfl) rfl (by first | decide | exact ⟨Nat.zero_le _, Nat.zero_le _⟩) ?_
  rw [P1_P1]
  refine go_if_ne (tgt := 227) (at_of tX10_erase 6 15 rfl) (by decide) (fun h222 => ?_) (fun h222 => ?_)
  · exfalso; exact h222 (bI_f (by decide))
  refine go_iconst (at_of tX10_erase 7 0 rfl) (by unfold in32; omega) ?_
  first | exact go_reti (at_of tX10_erase 7 1 rfl) rfl | exact go_reti (at_of tX10_erase 7 1 rfl) (le_i (by omega)) | exact go_reti (at_of tX10_erase 7 1 rfl) (le_i (by first | exact bI_t (by omega) | exact bI_f (by omega)))
theorem m_erase_4 (hS : Str σ.2.1) {A : PastD} (hM : PastM σ A) (hW : WfB (A.1 A.2.1)) {tr : Bool} (htr : σ.1 109 6 = bI (tr = true)) {a p z : Int} (h : (0 ≤ a ∧ a ≤ 3) ∧ (0 ≤ p ∧ p ≤ plOf (A.1 A.2.1).1.1 (A.1 A.2.1).1.2.1 (A.1 A.2.1).1.2.1) ∧ (0 ≤ z ∧ z ≤ plOf (A.1 A.2.1).1.1 (A.1 A.2.1).1.2.1 (A.1 A.2.1).1.2.1)) (h2 : p < z) (h3 : ¬ ((ndM (A.1 A.2.1) a (ixOf (A.1 A.2.1).1.1 (A.1 A.2.1).1.2.1 p) (ixOf (A.1 A.2.1).1.1 (A.1 A.2.1).1.2.1 (z - 1)) = true ∧ tr = true) ∧ (A.1 A.2.1).2.1.1 = 60)) (h5 : brM (A.1 A.2.1).1 (endsA (A.1 A.2.1).1.1 (A.1 A.2.1).1.2.1 (ixOf (A.1 A.2.1).1.1 (A.1 A.2.1).1.2.1 p)) (endsA (A.1 A.2.1).1.1 (A.1 A.2.1).1.2.1 (ixOf (A.1 A.2.1).1.1 (A.1 A.2.1).1.2.1 z)) = true) : Con 4 mX10_erase 0 0 [vA 109, vI a, vI p, vI z] σ (vI 0, P1 σ 109 0 4) := by
  obtain ⟨hWm, hl2, h4⟩ := id hW
  obtain ⟨hE, hSg, hMk, hRw⟩ := id hWm
  obtain ⟨e1, e2, e3, e4⟩ := id hE
  have hN := hM.2.2.2.1
  obtain ⟨b1, b2, b3, b4⟩ := id hN.2.2.2
  have hl := hN.2.1.2
  have hcc : σ.1 110 (3011 : Int).toNat = (A.1 A.2.1).2.1.1 := hN.2.1.1
  have hSt : Str (P1 σ 109 0 0).2.1 := hS
  have hNt : RepN (cN (P1 σ 109 0 0)) (A.1 A.2.1) := by rw [cN_P1]; exact hN
  obtain ⟨x1, x2, x3, x4⟩ := place_ix hE h.2.1.1 h.2.1.2
  obtain ⟨y1, y2, y3, y4⟩ := place_ix hE (p := z - 1) (by omega) (by omega)
  obtain ⟨z1, z2, z3, z4⟩ := place_ix hE h.2.2.1 h.2.2.2
  have ask := m_erase_ask hS hM hW h h2 rfl rfl rfl
  have mx := m_unitOf hSt hNt.1 hE hSg (p := p) h.2.1.1 h.2.1.2
  have my := m_unitOf hSt hNt.1 hE hSg (p := z - 1) (by omega) (by omega)
  have pl := (plOf_le (F := (A.1 A.2.1).1.1) (n := (A.1 A.2.1).1.2.1) (i := (A.1 A.2.1).1.2.1)).2 e1
  obtain ⟨x, hx⟩ : ∃ x, x = (ixOf (A.1 A.2.1).1.1 (A.1 A.2.1).1.2.1 p) := ⟨_, rfl⟩
  obtain ⟨y, hy⟩ : ∃ y, y = (ixOf (A.1 A.2.1).1.1 (A.1 A.2.1).1.2.1 (z - 1)) := ⟨_, rfl⟩
  obtain ⟨nd, hnd⟩ : ∃ nd, nd = ndM (A.1 A.2.1) a (ixOf (A.1 A.2.1).1.1 (A.1 A.2.1).1.2.1 p) (ixOf (A.1 A.2.1).1.1 (A.1 A.2.1).1.2.1 (z - 1)) := ⟨_, rfl⟩
  obtain ⟨br, hbr⟩ : ∃ br, br = brM (A.1 A.2.1).1 (endsA (A.1 A.2.1).1.1 (A.1 A.2.1).1.2.1 (ixOf (A.1 A.2.1).1.1 (A.1 A.2.1).1.2.1 p)) (endsA (A.1 A.2.1).1.1 (A.1 A.2.1).1.2.1 (ixOf (A.1 A.2.1).1.1 (A.1 A.2.1).1.2.1 z)) := ⟨_, rfl⟩
  rw [← hnd, ← hbr] at ask
  rw [← hx] at ask mx x1 x2 x3 x4
  rw [← hy] at ask my y1 y2 y3 y4
  have t60 : (P1 σ 109 0 0).1 109 6 = bI (tr = true) := (P1_nj (by omega)).trans htr
  have ecc : (P1 σ 109 0 0).1 110 (3011 : Int).toNat = (A.1 A.2.1).2.1.1 := (P1_ne (by omega)).trans hcc
  have ebr : br = true := hbr.trans h5
  subst ebr
  rw [← hnd] at h3
  cases nd with
  | true =>
    cases tr with
    | true =>
      have h60 : (A.1 A.2.1).2.1.1 ≠ 60 := fun q => h3 ⟨⟨rfl, rfl⟩, q⟩
      refine con_of_go mfX10_erase.1 trivial (Nat.le_of_ble_eq_true rfl) rfl (by decide) ?_
      show Go _ _ _ _ 0 [vA _, vI _, vI _, vI _, vT 9 0, vT 9 0, vT 9 0, vT 9 0, vT 9 0, vT 9 0] [] _ _
      refine go_aload_n (at_of tX10_erase 0 0 rfl) rfl ?_
      refine go_iload_n (at_of tX10_erase 0 1 rfl) rfl ?_
      refine go_cS (m_isAuthor) lk_X10_151 rfl (at_of tX10_erase 0 2 rfl) rfl (by decide) rfl (Nat.le_of_ble_eq_true rfl) rfl (by first | decide | exact ⟨Nat.zero_le _, Nat.zero_le _⟩) ?_
      refine go_if_eq (tgt := 24) (at_of tX10_erase 0 3 rfl) (by decide) (fun h5 => ?_) (fun h5 => ?_)
      · exfalso; exact bI_0.mp h5 h.1
      refine go_aload_n (at_of tX10_erase 0 4 rfl) rfl ?_
      refine go_iload_n (at_of tX10_erase 0 5 rfl) rfl ?_
      refine go_cV (m_isPlace hS hN.1 hE hSg) lk_X10_154 rfl G_109 (at_of tX10_erase 0 6 rfl) rfl (by decide) rfl (Nat.le_of_ble_eq_true rfl) rfl (by first | decide | exact ⟨Nat.zero_le _, Nat.zero_le _⟩) ?_
      refine go_if_eq (tgt := 24) (at_of tX10_erase 0 7 rfl) (by decide) (fun h13 => ?_) (fun h13 => ?_)
      · exfalso; exact bI_0.mp h13 h.2.1
      refine go_aload_n (at_of tX10_erase 0 8 rfl) rfl ?_
      refine go_iload_n (at_of tX10_erase 0 9 rfl) rfl ?_
      refine go_cV (m_isPlace hS hN.1 hE hSg) lk_X10_154 rfl G_109 (at_of tX10_erase 0 10 rfl) rfl (by decide) rfl (Nat.le_of_ble_eq_true rfl) rfl (by first | decide | exact ⟨Nat.zero_le _, Nat.zero_le _⟩) ?_
      refine go_if_ne (tgt := 28) (at_of tX10_erase 0 11 rfl) (by decide) (fun h21 => ?_) (fun h21 => ?_)
      rotate_left
      · exfalso; exact bI_0.mp h21 h.2.2
      refine go_iload_n (at_of tX10_erase 0 14 rfl) rfl ?_
      refine go_iload_n (at_of tX10_erase 0 15 rfl) rfl ?_
      refine go_icmp_gt (tgt := 37) (at_of tX10_erase 1 0 rfl) (by decide) (fun h30 => ?_) (fun h30 => ?_)
      rotate_left
      · exfalso; omega
      refine go_iconst (at_of tX10_erase 1 3 rfl) (by unfold in32; omega) ?_
      refine go_cV (m_goesOn) lk_X10_141 rfl G_109 (at_of tX10_erase 1 4 rfl) rfl (by decide) rfl (Nat.le_of_ble_eq_true rfl) rfl (by first | decide | exact ⟨Nat.zero_le _, Nat.zero_le _⟩) ?_
      refine go_if_ne (tgt := 46) (at_of tX10_erase 1 5 rfl) (by decide) (fun h41 => ?_) (fun h41 => ?_)
      rotate_left
      · exfalso; exact absurd h41 (by rw [bI_t rfl]; decide)
      refine go_aload_n (at_of tX10_erase 1 8 rfl) rfl ?_
      refine go_iload_n (at_of tX10_erase 1 9 rfl) rfl ?_
      refine go_cV (mx) lk_X10_157 rfl G_109 (at_of tX10_erase 1 10 rfl) rfl (by decide) rfl (Nat.le_of_ble_eq_true rfl) rfl (by first | decide | exact ⟨Nat.zero_le _, Nat.zero_le _⟩) ?_
      refine go_istore (at_of tX10_erase 1 11 rfl) rfl rfl ?_
      refine go_aload_n (at_of tX10_erase 1 12 rfl) rfl ?_
      refine go_iload_n (at_of tX10_erase 1 13 rfl) rfl ?_
      refine go_iconst (at_of tX10_erase 1 14 rfl) (by unfold in32; omega) ?_
      refine go_isub (at_of tX10_erase 1 15 rfl) (by unfold in32; omega) ?_
      refine go_cV (my) lk_X10_157 rfl G_109 (at_of tX10_erase 2 0 rfl) rfl (by decide) rfl (Nat.le_of_ble_eq_true rfl) rfl (by first | decide | exact ⟨Nat.zero_le _, Nat.zero_le _⟩) ?_
      refine go_istore (at_of tX10_erase 2 1 rfl) rfl rfl ?_
      refine ask _ _ _ _ _ _ (fun b v8 => ?_)
      refine go_iload (at_of tX10_erase 5 5 rfl) rfl rfl ?_
      refine go_if_eq (tgt := 183) (at_of tX10_erase 5 6 rfl) (by decide) (fun h169 => ?_) (fun h169 => ?_)
      · exfalso; exact absurd h169 (by decide)
      refine go_aload_n (at_of tX10_erase 5 7 rfl) rfl ?_
      refine go_getf fl_X10_19 rfl G_109 (at_of tX10_erase 5 8 rfl) ?_
      refine go_if_eq (tgt := 183) (at_of tX10_erase 5 9 rfl) (by decide) (fun h176 => ?_) (fun h176 => ?_)
      · exfalso; rw [t60] at h176; exact absurd h176 (by decide)
      refine go_iconst (at_of tX10_erase 5 10 rfl) (by unfold in32; omega) ?_
      refine go_goto (tgt := 184) (at_of tX10_erase 5 11 rfl) (by decide) ?_
      refine go_istore (at_of tX10_erase 5 13 rfl) rfl rfl ?_
      refine go_aload_n (at_of tX10_erase 5 14 rfl) rfl ?_
      refine go_iload (at_of tX10_erase 5 15 rfl) rfl rfl ?_
      refine go_if_eq (tgt := 209) (at_of tX10_erase 6 0 rfl) (by decide) (fun h189 => ?_) (fun h189 => ?_)
      · exfalso; omega
      refine go_aload_n (at_of tX10_erase 6 1 rfl) rfl ?_
      refine go_getr (q := 110) fl_X10_7 rfl G_109 (by first | exact (hS _ _ rfl).trans rfl | exact (hS1 _ _ rfl).trans rfl | exact (hS2 _ _ rfl).trans rfl | exact (hS3 _ _ rfl).trans rfl | exact (hS4 _ _ rfl).trans rfl) (at_of tX10_erase 6 2 rfl) ?_
      refine go_sipush (at_of tX10_erase 6 3 rfl) (by decide) ?_
      refine go_iald G_110 (by omega) (by omega) (at_of tX10_erase 6 4 rfl) ?_
      refine go_bipush (at_of tX10_erase 6 5 rfl) (by decide) ?_
      rw [ecc]
      refine go_icmp_ne (tgt := 209) (at_of tX10_erase 6 6 rfl) (by decide) (fun h202 => ?_) (fun h202 => ?_)
      rotate_left
      · exfalso; omega
      refine go_iload (at_of tX10_erase 6 9 rfl) rfl rfl ?_
      refine go_if_eq (tgt := 218) (at_of tX10_erase 6 10 rfl) (by decide) (fun h211 => ?_) (fun h211 => ?_)
      · exfalso; exact absurd h211 (by decide)
      refine go_iconst (at_of tX10_erase 6 11 rfl) (by unfold in32; omega) ?_
      refine go_goto (tgt := 219) (at_of tX10_erase 6 12 rfl) (by decide) ?_
      refine go_cV (m_goesOn) lk_X10_141 rfl G_109 (at_of tX10_erase 6 14 rfl) rfl (by decide) rfl (Nat.le_of_ble_eq_true rfl) rfl (by first | decide | exact ⟨Nat.zero_le _, Nat.zero_le _⟩) ?_
      rw [P1_P1]
      refine go_if_ne (tgt := 227) (at_of tX10_erase 6 15 rfl) (by decide) (fun h222 => ?_) (fun h222 => ?_)
      · exfalso; exact h222 (bI_f (by decide))
      refine go_iconst (at_of tX10_erase 7 0 rfl) (by unfold in32; omega) ?_
      first | exact go_reti (at_of tX10_erase 7 1 rfl) rfl | exact go_reti (at_of tX10_erase 7 1 rfl) (le_i (by omega)) | exact go_reti (at_of tX10_erase 7 1 rfl) (le_i (by first | exact bI_t (by omega) | exact bI_f (by omega)))
    | false =>
      refine con_of_go mfX10_erase.1 trivial (Nat.le_of_ble_eq_true rfl) rfl (by decide) ?_
      show Go _ _ _ _ 0 [vA _, vI _, vI _, vI _, vT 9 0, vT 9 0, vT 9 0, vT 9 0, vT 9 0, vT 9 0] [] _ _
      refine go_aload_n (at_of tX10_erase 0 0 rfl) rfl ?_
      refine go_iload_n (at_of tX10_erase 0 1 rfl) rfl ?_
      refine go_cS (m_isAuthor) lk_X10_151 rfl (at_of tX10_erase 0 2 rfl) rfl (by decide) rfl (Nat.le_of_ble_eq_true rfl) rfl (by first | decide | exact ⟨Nat.zero_le _, Nat.zero_le _⟩) ?_
      refine go_if_eq (tgt := 24) (at_of tX10_erase 0 3 rfl) (by decide) (fun h5 => ?_) (fun h5 => ?_)
      · exfalso; exact bI_0.mp h5 h.1
      refine go_aload_n (at_of tX10_erase 0 4 rfl) rfl ?_
      refine go_iload_n (at_of tX10_erase 0 5 rfl) rfl ?_
      refine go_cV (m_isPlace hS hN.1 hE hSg) lk_X10_154 rfl G_109 (at_of tX10_erase 0 6 rfl) rfl (by decide) rfl (Nat.le_of_ble_eq_true rfl) rfl (by first | decide | exact ⟨Nat.zero_le _, Nat.zero_le _⟩) ?_
      refine go_if_eq (tgt := 24) (at_of tX10_erase 0 7 rfl) (by decide) (fun h13 => ?_) (fun h13 => ?_)
      · exfalso; exact bI_0.mp h13 h.2.1
      refine go_aload_n (at_of tX10_erase 0 8 rfl) rfl ?_
      refine go_iload_n (at_of tX10_erase 0 9 rfl) rfl ?_
      refine go_cV (m_isPlace hS hN.1 hE hSg) lk_X10_154 rfl G_109 (at_of tX10_erase 0 10 rfl) rfl (by decide) rfl (Nat.le_of_ble_eq_true rfl) rfl (by first | decide | exact ⟨Nat.zero_le _, Nat.zero_le _⟩) ?_
      refine go_if_ne (tgt := 28) (at_of tX10_erase 0 11 rfl) (by decide) (fun h21 => ?_) (fun h21 => ?_)
      rotate_left
      · exfalso; exact bI_0.mp h21 h.2.2
      refine go_iload_n (at_of tX10_erase 0 14 rfl) rfl ?_
      refine go_iload_n (at_of tX10_erase 0 15 rfl) rfl ?_
      refine go_icmp_gt (tgt := 37) (at_of tX10_erase 1 0 rfl) (by decide) (fun h30 => ?_) (fun h30 => ?_)
      rotate_left
      · exfalso; omega
      refine go_iconst (at_of tX10_erase 1 3 rfl) (by unfold in32; omega) ?_
      refine go_cV (m_goesOn) lk_X10_141 rfl G_109 (at_of tX10_erase 1 4 rfl) rfl (by decide) rfl (Nat.le_of_ble_eq_true rfl) rfl (by first | decide | exact ⟨Nat.zero_le _, Nat.zero_le _⟩) ?_
      refine go_if_ne (tgt := 46) (at_of tX10_erase 1 5 rfl) (by decide) (fun h41 => ?_) (fun h41 => ?_)
      rotate_left
      · exfalso; exact absurd h41 (by rw [bI_t rfl]; decide)
      refine go_aload_n (at_of tX10_erase 1 8 rfl) rfl ?_
      refine go_iload_n (at_of tX10_erase 1 9 rfl) rfl ?_
      refine go_cV (mx) lk_X10_157 rfl G_109 (at_of tX10_erase 1 10 rfl) rfl (by decide) rfl (Nat.le_of_ble_eq_true rfl) rfl (by first | decide | exact ⟨Nat.zero_le _, Nat.zero_le _⟩) ?_
      refine go_istore (at_of tX10_erase 1 11 rfl) rfl rfl ?_
      refine go_aload_n (at_of tX10_erase 1 12 rfl) rfl ?_
      refine go_iload_n (at_of tX10_erase 1 13 rfl) rfl ?_
      refine go_iconst (at_of tX10_erase 1 14 rfl) (by unfold in32; omega) ?_
      refine go_isub (at_of tX10_erase 1 15 rfl) (by unfold in32; omega) ?_
      refine go_cV (my) lk_X10_157 rfl G_109 (at_of tX10_erase 2 0 rfl) rfl (by decide) rfl (Nat.le_of_ble_eq_true rfl) rfl (by first | decide | exact ⟨Nat.zero_le _, Nat.zero_le _⟩) ?_
      refine go_istore (at_of tX10_erase 2 1 rfl) rfl rfl ?_
      refine ask _ _ _ _ _ _ (fun b v8 => ?_)
      refine go_iload (at_of tX10_erase 5 5 rfl) rfl rfl ?_
      refine go_if_eq (tgt := 183) (at_of tX10_erase 5 6 rfl) (by decide) (fun h169 => ?_) (fun h169 => ?_)
      · exfalso; exact absurd h169 (by decide)
      refine go_aload_n (at_of tX10_erase 5 7 rfl) rfl ?_
      refine go_getf fl_X10_19 rfl G_109 (at_of tX10_erase 5 8 rfl) ?_
      refine go_if_eq (tgt := 183) (at_of tX10_erase 5 9 rfl) (by decide) (fun h176 => ?_) (fun h176 => ?_)
      rotate_left
      · exfalso; rw [t60] at h176; exact h176 (by decide)
      refine go_iconst (at_of tX10_erase 5 12 rfl) (by unfold in32; omega) ?_
      refine go_istore (at_of tX10_erase 5 13 rfl) rfl rfl ?_
      refine go_aload_n (at_of tX10_erase 5 14 rfl) rfl ?_
      refine go_iload (at_of tX10_erase 5 15 rfl) rfl rfl ?_
      refine go_if_eq (tgt := 209) (at_of tX10_erase 6 0 rfl) (by decide) (fun h189 => ?_) (fun h189 => ?_)
      rotate_left
      · exfalso; omega
      refine go_iload (at_of tX10_erase 6 9 rfl) rfl rfl ?_
      refine go_if_eq (tgt := 218) (at_of tX10_erase 6 10 rfl) (by decide) (fun h211 => ?_) (fun h211 => ?_)
      · exfalso; exact absurd h211 (by decide)
      refine go_iconst (at_of tX10_erase 6 11 rfl) (by unfold in32; omega) ?_
      refine go_goto (tgt := 219) (at_of tX10_erase 6 12 rfl) (by decide) ?_
      refine go_cV (m_goesOn) lk_X10_141 rfl G_109 (at_of tX10_erase 6 14 rfl) rfl (by decide) rfl (Nat.le_of_ble_eq_true rfl) rfl (by first | decide | exact ⟨Nat.zero_le _, Nat.zero_le _⟩) ?_
      rw [P1_P1]
      refine go_if_ne (tgt := 227) (at_of tX10_erase 6 15 rfl) (by decide) (fun h222 => ?_) (fun h222 => ?_)
      · exfalso; exact h222 (bI_f (by decide))
      refine go_iconst (at_of tX10_erase 7 0 rfl) (by unfold in32; omega) ?_
      first | exact go_reti (at_of tX10_erase 7 1 rfl) rfl | exact go_reti (at_of tX10_erase 7 1 rfl) (le_i (by omega)) | exact go_reti (at_of tX10_erase 7 1 rfl) (le_i (by first | exact bI_t (by omega) | exact bI_f (by omega)))
  | false =>
    refine con_of_go mfX10_erase.1 trivial (Nat.le_of_ble_eq_true rfl) rfl (by decide) ?_
    show Go _ _ _ _ 0 [vA _, vI _, vI _, vI _, vT 9 0, vT 9 0, vT 9 0, vT 9 0, vT 9 0, vT 9 0] [] _ _
    refine go_aload_n (at_of tX10_erase 0 0 rfl) rfl ?_
    refine go_iload_n (at_of tX10_erase 0 1 rfl) rfl ?_
    refine go_cS (m_isAuthor) lk_X10_151 rfl (at_of tX10_erase 0 2 rfl) rfl (by decide) rfl (Nat.le_of_ble_eq_true rfl) rfl (by first | decide | exact ⟨Nat.zero_le _, Nat.zero_le _⟩) ?_
    refine go_if_eq (tgt := 24) (at_of tX10_erase 0 3 rfl) (by decide) (fun h5 => ?_) (fun h5 => ?_)
    · exfalso; exact bI_0.mp h5 h.1
    refine go_aload_n (at_of tX10_erase 0 4 rfl) rfl ?_
    refine go_iload_n (at_of tX10_erase 0 5 rfl) rfl ?_
    refine go_cV (m_isPlace hS hN.1 hE hSg) lk_X10_154 rfl G_109 (at_of tX10_erase 0 6 rfl) rfl (by decide) rfl (Nat.le_of_ble_eq_true rfl) rfl (by first | decide | exact ⟨Nat.zero_le _, Nat.zero_le _⟩) ?_
    refine go_if_eq (tgt := 24) (at_of tX10_erase 0 7 rfl) (by decide) (fun h13 => ?_) (fun h13 => ?_)
    · exfalso; exact bI_0.mp h13 h.2.1
    refine go_aload_n (at_of tX10_erase 0 8 rfl) rfl ?_
    refine go_iload_n (at_of tX10_erase 0 9 rfl) rfl ?_
    refine go_cV (m_isPlace hS hN.1 hE hSg) lk_X10_154 rfl G_109 (at_of tX10_erase 0 10 rfl) rfl (by decide) rfl (Nat.le_of_ble_eq_true rfl) rfl (by first | decide | exact ⟨Nat.zero_le _, Nat.zero_le _⟩) ?_
    refine go_if_ne (tgt := 28) (at_of tX10_erase 0 11 rfl) (by decide) (fun h21 => ?_) (fun h21 => ?_)
    rotate_left
    · exfalso; exact bI_0.mp h21 h.2.2
    refine go_iload_n (at_of tX10_erase 0 14 rfl) rfl ?_
    refine go_iload_n (at_of tX10_erase 0 15 rfl) rfl ?_
    refine go_icmp_gt (tgt := 37) (at_of tX10_erase 1 0 rfl) (by decide) (fun h30 => ?_) (fun h30 => ?_)
    rotate_left
    · exfalso; omega
    refine go_iconst (at_of tX10_erase 1 3 rfl) (by unfold in32; omega) ?_
    refine go_cV (m_goesOn) lk_X10_141 rfl G_109 (at_of tX10_erase 1 4 rfl) rfl (by decide) rfl (Nat.le_of_ble_eq_true rfl) rfl (by first | decide | exact ⟨Nat.zero_le _, Nat.zero_le _⟩) ?_
    refine go_if_ne (tgt := 46) (at_of tX10_erase 1 5 rfl) (by decide) (fun h41 => ?_) (fun h41 => ?_)
    rotate_left
    · exfalso; exact absurd h41 (by rw [bI_t rfl]; decide)
    refine go_aload_n (at_of tX10_erase 1 8 rfl) rfl ?_
    refine go_iload_n (at_of tX10_erase 1 9 rfl) rfl ?_
    refine go_cV (mx) lk_X10_157 rfl G_109 (at_of tX10_erase 1 10 rfl) rfl (by decide) rfl (Nat.le_of_ble_eq_true rfl) rfl (by first | decide | exact ⟨Nat.zero_le _, Nat.zero_le _⟩) ?_
    refine go_istore (at_of tX10_erase 1 11 rfl) rfl rfl ?_
    refine go_aload_n (at_of tX10_erase 1 12 rfl) rfl ?_
    refine go_iload_n (at_of tX10_erase 1 13 rfl) rfl ?_
    refine go_iconst (at_of tX10_erase 1 14 rfl) (by unfold in32; omega) ?_
    refine go_isub (at_of tX10_erase 1 15 rfl) (by unfold in32; omega) ?_
    refine go_cV (my) lk_X10_157 rfl G_109 (at_of tX10_erase 2 0 rfl) rfl (by decide) rfl (Nat.le_of_ble_eq_true rfl) rfl (by first | decide | exact ⟨Nat.zero_le _, Nat.zero_le _⟩) ?_
    refine go_istore (at_of tX10_erase 2 1 rfl) rfl rfl ?_
    refine ask _ _ _ _ _ _ (fun b v8 => ?_)
    refine go_iload (at_of tX10_erase 5 5 rfl) rfl rfl ?_
    refine go_if_eq (tgt := 183) (at_of tX10_erase 5 6 rfl) (by decide) (fun h169 => ?_) (fun h169 => ?_)
    rotate_left
    · exfalso; exact h169 (by decide)
    refine go_iconst (at_of tX10_erase 5 12 rfl) (by unfold in32; omega) ?_
    refine go_istore (at_of tX10_erase 5 13 rfl) rfl rfl ?_
    refine go_aload_n (at_of tX10_erase 5 14 rfl) rfl ?_
    refine go_iload (at_of tX10_erase 5 15 rfl) rfl rfl ?_
    refine go_if_eq (tgt := 209) (at_of tX10_erase 6 0 rfl) (by decide) (fun h189 => ?_) (fun h189 => ?_)
    rotate_left
    · exfalso; omega
    refine go_iload (at_of tX10_erase 6 9 rfl) rfl rfl ?_
    refine go_if_eq (tgt := 218) (at_of tX10_erase 6 10 rfl) (by decide) (fun h211 => ?_) (fun h211 => ?_)
    · exfalso; exact absurd h211 (by decide)
    refine go_iconst (at_of tX10_erase 6 11 rfl) (by unfold in32; omega) ?_
    refine go_goto (tgt := 219) (at_of tX10_erase 6 12 rfl) (by decide) ?_
    refine go_cV (m_goesOn) lk_X10_141 rfl G_109 (at_of tX10_erase 6 14 rfl) rfl (by decide) rfl (Nat.le_of_ble_eq_true rfl) rfl (by first | decide | exact ⟨Nat.zero_le _, Nat.zero_le _⟩) ?_
    rw [P1_P1]
    refine go_if_ne (tgt := 227) (at_of tX10_erase 6 15 rfl) (by decide) (fun h222 => ?_) (fun h222 => ?_)
    · exfalso; exact h222 (bI_f (by decide))
    refine go_iconst (at_of tX10_erase 7 0 rfl) (by unfold in32; omega) ?_
    first | exact go_reti (at_of tX10_erase 7 1 rfl) rfl | exact go_reti (at_of tX10_erase 7 1 rfl) (le_i (by omega)) | exact go_reti (at_of tX10_erase 7 1 rfl) (le_i (by first | exact bI_t (by omega) | exact bI_f (by omega)))
theorem m_erase (hS : Str σ.2.1) {A : PastD} (hM : PastM σ A) (hW : WfB (A.1 A.2.1)) {tr : Bool} (htr : σ.1 109 6 = bI (tr = true)) {a p z : Int} (h : (0 ≤ a ∧ a ≤ 3) ∧ (0 ≤ p ∧ p ≤ plOf (A.1 A.2.1).1.1 (A.1 A.2.1).1.2.1 (A.1 A.2.1).1.2.1) ∧ (0 ≤ z ∧ z ≤ plOf (A.1 A.2.1).1.1 (A.1 A.2.1).1.2.1 (A.1 A.2.1).1.2.1)) (h2 : p < z) (h3 : ¬ ((ndM (A.1 A.2.1) a (ixOf (A.1 A.2.1).1.1 (A.1 A.2.1).1.2.1 p) (ixOf (A.1 A.2.1).1.1 (A.1 A.2.1).1.2.1 (z - 1)) = true ∧ tr = true) ∧ (A.1 A.2.1).2.1.1 = 60)) (h5 : ¬ brM (A.1 A.2.1).1 (endsA (A.1 A.2.1).1.1 (A.1 A.2.1).1.2.1 (ixOf (A.1 A.2.1).1.1 (A.1 A.2.1).1.2.1 p)) (endsA (A.1 A.2.1).1.1 (A.1 A.2.1).1.2.1 (ixOf (A.1 A.2.1).1.1 (A.1 A.2.1).1.2.1 z)) = true) : ∃ σ', Con 4 mX10_erase 0 0 [vA 109, vI a, vI p, vI z] σ (vI (erC (A.1 A.2.1) (ndM (A.1 A.2.1) a (ixOf (A.1 A.2.1).1.1 (A.1 A.2.1).1.2.1 p) (ixOf (A.1 A.2.1).1.1 (A.1 A.2.1).1.2.1 (z - 1)) && tr)), σ') ∧ PastM σ' (edA (begA A) (erD (A.1 A.2.1) tr (ndM (A.1 A.2.1) a (ixOf (A.1 A.2.1).1.1 (A.1 A.2.1).1.2.1 p) (ixOf (A.1 A.2.1).1.1 (A.1 A.2.1).1.2.1 (z - 1)) && tr) a (ixOf (A.1 A.2.1).1.1 (A.1 A.2.1).1.2.1 p) (ixOf (A.1 A.2.1).1.1 (A.1 A.2.1).1.2.1 (z - 1)))) ∧ FrE σ σ' ∧ σ'.1 109 0 = 0 := by
  obtain ⟨hWm, hl2, h4⟩ := id hW
  obtain ⟨hE, hSg, hMk, hRw⟩ := id hWm
  obtain ⟨e1, e2, e3, e4⟩ := id hE
  have hN := hM.2.2.2.1
  obtain ⟨b1, b2, b3, b4⟩ := id hN.2.2.2
  have hl := hN.2.1.2
  have hcc : σ.1 110 (3011 : Int).toNat = (A.1 A.2.1).2.1.1 := hN.2.1.1
  have hSt : Str (P1 σ 109 0 0).2.1 := hS
  have hMt : PastM (P1 σ 109 0 0) A := hM.th
  obtain ⟨σ1, x1_, x2_, x3_, x4_, x5⟩ := m_edits hSt hMt
  have hS1 : Str σ1.2.1 := by rw [x3_.1]; exact hS
  have hN1 : RepN (cN σ1) (A.1 A.2.1) := by
    have := x2_.2.2.2.1
    rw [cur_beg] at this; exact this
  have x50 : σ1.1 109 0 = 0 := x5.trans P1_eq
  have fin : ∀ {σ' : St} {D' : PapD}, FrN σ1 σ' → RepN (cN σ') D' → PastM σ' (edA (begA A) D') ∧ FrE σ σ' ∧ σ'.1 109 0 = 0 := fun {σ' D'} hF hD => ⟨hF.past x2_ hD, (FrE.th.trans x3_).trans hF.e, (hF.2 109 0 (by omega)).trans x50⟩
  have hSt : Str (P1 σ 109 0 0).2.1 := hS
  have hNt : RepN (cN (P1 σ 109 0 0)) (A.1 A.2.1) := by rw [cN_P1]; exact hN
  obtain ⟨x1, x2, x3, x4⟩ := place_ix hE h.2.1.1 h.2.1.2
  obtain ⟨y1, y2, y3, y4⟩ := place_ix hE (p := z - 1) (by omega) (by omega)
  obtain ⟨z1, z2, z3, z4⟩ := place_ix hE h.2.2.1 h.2.2.2
  have ask := m_erase_ask hS hM hW h h2 rfl rfl rfl
  have mx := m_unitOf hSt hNt.1 hE hSg (p := p) h.2.1.1 h.2.1.2
  have my := m_unitOf hSt hNt.1 hE hSg (p := z - 1) (by omega) (by omega)
  have pl := (plOf_le (F := (A.1 A.2.1).1.1) (n := (A.1 A.2.1).1.2.1) (i := (A.1 A.2.1).1.2.1)).2 e1
  obtain ⟨x, hx⟩ : ∃ x, x = (ixOf (A.1 A.2.1).1.1 (A.1 A.2.1).1.2.1 p) := ⟨_, rfl⟩
  obtain ⟨y, hy⟩ : ∃ y, y = (ixOf (A.1 A.2.1).1.1 (A.1 A.2.1).1.2.1 (z - 1)) := ⟨_, rfl⟩
  obtain ⟨nd, hnd⟩ : ∃ nd, nd = ndM (A.1 A.2.1) a (ixOf (A.1 A.2.1).1.1 (A.1 A.2.1).1.2.1 p) (ixOf (A.1 A.2.1).1.1 (A.1 A.2.1).1.2.1 (z - 1)) := ⟨_, rfl⟩
  obtain ⟨br, hbr⟩ : ∃ br, br = brM (A.1 A.2.1).1 (endsA (A.1 A.2.1).1.1 (A.1 A.2.1).1.2.1 (ixOf (A.1 A.2.1).1.1 (A.1 A.2.1).1.2.1 p)) (endsA (A.1 A.2.1).1.1 (A.1 A.2.1).1.2.1 (ixOf (A.1 A.2.1).1.1 (A.1 A.2.1).1.2.1 z)) := ⟨_, rfl⟩
  rw [← hnd, ← hbr] at ask
  rw [← hx] at ask mx x1 x2 x3 x4
  rw [← hy] at ask my y1 y2 y3 y4
  have t60 : (P1 σ 109 0 0).1 109 6 = bI (tr = true) := (P1_nj (by omega)).trans htr
  have ecc : (P1 σ 109 0 0).1 110 (3011 : Int).toNat = (A.1 A.2.1).2.1.1 := (P1_ne (by omega)).trans hcc
  have ebr : br = false := by rw [hbr]; exact Bool.eq_false_iff.mpr h5
  subst ebr
  rw [← hnd] at h3 ⊢
  rw [← hx, ← hy]
  have hxy : x ≤ y := by
    have q := ixOf_mono (F := (A.1 A.2.1).1.1) (n := (A.1 A.2.1).1.2.1) (p := p) (z := z - 1) (by omega) (by omega) (by omega)
    omega
  have hyn : y < (A.1 A.2.1).1.2.1 := by
    rcases Int.lt_or_eq_of_le y2 with q | q
    · exact q
    · exfalso
      rw [q, ← plOf_N (Int.le_refl _)] at y4
      omega
  have t61 : σ1.1 109 6 = bI (tr = true) := (x3_.2 109 6 (by omega)).trans t60
  unfold erD erL erC
  cases nd with
  | true =>
    cases tr with
    | true =>
      have h60 : (A.1 A.2.1).2.1.1 < 60 := by
        rcases Int.lt_or_eq_of_le b4 with q | q
        · exact q
        · exact absurd ⟨⟨rfl, rfl⟩, q⟩ h3
      obtain ⟨c1, c2, c3⟩ := m_newChange hS1 hN1 (a := a) (w := 101) h60
      obtain ⟨σ2, hσ2⟩ : ∃ σ2, σ2 = (M1 (M1 (M1 (M1 σ1 110 (3013 + (A.1 A.2.1).2.1.1) a) 110 (3073 + (A.1 A.2.1).2.1.1) 119) 110 (3133 + (A.1 A.2.1).2.1.1) 101) 110 3011 ((A.1 A.2.1).2.1.1 + 1)) := ⟨_, rfl⟩
      rw [← hσ2] at c1 c2 c3
      have hS2 := c3.str hS1
      obtain ⟨σ3, ⟨l1_, l2_⟩, l3_⟩ := m_erase_loop hS2 c2 hRw (fun i i0 i1 => (hMk i i0 i1).imp id (fun q => ⟨q.1, Int.lt_trans q.2 (by show (A.1 A.2.1).2.1.1 < _ + 1; omega)⟩)) (tr := true) ((c3.2 109 6 (by omega)).trans t61) (a := a) (p := p) (z := z) (x := x) (y := y) (ch := (A.1 A.2.1).2.1.1) x1 hxy hyn (vI 1) (vI 0)
      refine ⟨σ3, ?_, fin (c3.trans l2_) l1_⟩
      refine con_of_go mfX10_erase.1 trivial (Nat.le_of_ble_eq_true rfl) rfl (by decide) ?_
      show Go _ _ _ _ 0 [vA _, vI _, vI _, vI _, vT 9 0, vT 9 0, vT 9 0, vT 9 0, vT 9 0, vT 9 0] [] _ _
      refine go_aload_n (at_of tX10_erase 0 0 rfl) rfl ?_
      refine go_iload_n (at_of tX10_erase 0 1 rfl) rfl ?_
      refine go_cS (m_isAuthor) lk_X10_151 rfl (at_of tX10_erase 0 2 rfl) rfl (by decide) rfl (Nat.le_of_ble_eq_true rfl) rfl (by first | decide | exact ⟨Nat.zero_le _, Nat.zero_le _⟩) ?_
      refine go_if_eq (tgt := 24) (at_of tX10_erase 0 3 rfl) (by decide) (fun h5 => ?_) (fun h5 => ?_)
      · exfalso; exact bI_0.mp h5 h.1
      refine go_aload_n (at_of tX10_erase 0 4 rfl) rfl ?_
      refine go_iload_n (at_of tX10_erase 0 5 rfl) rfl ?_
      refine go_cV (m_isPlace hS hN.1 hE hSg) lk_X10_154 rfl G_109 (at_of tX10_erase 0 6 rfl) rfl (by decide) rfl (Nat.le_of_ble_eq_true rfl) rfl (by first | decide | exact ⟨Nat.zero_le _, Nat.zero_le _⟩) ?_
      refine go_if_eq (tgt := 24) (at_of tX10_erase 0 7 rfl) (by decide) (fun h13 => ?_) (fun h13 => ?_)
      · exfalso; exact bI_0.mp h13 h.2.1
      refine go_aload_n (at_of tX10_erase 0 8 rfl) rfl ?_
      refine go_iload_n (at_of tX10_erase 0 9 rfl) rfl ?_
      refine go_cV (m_isPlace hS hN.1 hE hSg) lk_X10_154 rfl G_109 (at_of tX10_erase 0 10 rfl) rfl (by decide) rfl (Nat.le_of_ble_eq_true rfl) rfl (by first | decide | exact ⟨Nat.zero_le _, Nat.zero_le _⟩) ?_
      refine go_if_ne (tgt := 28) (at_of tX10_erase 0 11 rfl) (by decide) (fun h21 => ?_) (fun h21 => ?_)
      rotate_left
      · exfalso; exact bI_0.mp h21 h.2.2
      refine go_iload_n (at_of tX10_erase 0 14 rfl) rfl ?_
      refine go_iload_n (at_of tX10_erase 0 15 rfl) rfl ?_
      refine go_icmp_gt (tgt := 37) (at_of tX10_erase 1 0 rfl) (by decide) (fun h30 => ?_) (fun h30 => ?_)
      rotate_left
      · exfalso; omega
      refine go_iconst (at_of tX10_erase 1 3 rfl) (by unfold in32; omega) ?_
      refine go_cV (m_goesOn) lk_X10_141 rfl G_109 (at_of tX10_erase 1 4 rfl) rfl (by decide) rfl (Nat.le_of_ble_eq_true rfl) rfl (by first | decide | exact ⟨Nat.zero_le _, Nat.zero_le _⟩) ?_
      refine go_if_ne (tgt := 46) (at_of tX10_erase 1 5 rfl) (by decide) (fun h41 => ?_) (fun h41 => ?_)
      rotate_left
      · exfalso; exact absurd h41 (by rw [bI_t rfl]; decide)
      refine go_aload_n (at_of tX10_erase 1 8 rfl) rfl ?_
      refine go_iload_n (at_of tX10_erase 1 9 rfl) rfl ?_
      refine go_cV (mx) lk_X10_157 rfl G_109 (at_of tX10_erase 1 10 rfl) rfl (by decide) rfl (Nat.le_of_ble_eq_true rfl) rfl (by first | decide | exact ⟨Nat.zero_le _, Nat.zero_le _⟩) ?_
      refine go_istore (at_of tX10_erase 1 11 rfl) rfl rfl ?_
      refine go_aload_n (at_of tX10_erase 1 12 rfl) rfl ?_
      refine go_iload_n (at_of tX10_erase 1 13 rfl) rfl ?_
      refine go_iconst (at_of tX10_erase 1 14 rfl) (by unfold in32; omega) ?_
      refine go_isub (at_of tX10_erase 1 15 rfl) (by unfold in32; omega) ?_
      refine go_cV (my) lk_X10_157 rfl G_109 (at_of tX10_erase 2 0 rfl) rfl (by decide) rfl (Nat.le_of_ble_eq_true rfl) rfl (by first | decide | exact ⟨Nat.zero_le _, Nat.zero_le _⟩) ?_
      refine go_istore (at_of tX10_erase 2 1 rfl) rfl rfl ?_
      refine ask _ _ _ _ _ _ (fun b v8 => ?_)
      refine go_iload (at_of tX10_erase 5 5 rfl) rfl rfl ?_
      refine go_if_eq (tgt := 183) (at_of tX10_erase 5 6 rfl) (by decide) (fun h169 => ?_) (fun h169 => ?_)
      · exfalso; exact absurd h169 (by decide)
      refine go_aload_n (at_of tX10_erase 5 7 rfl) rfl ?_
      refine go_getf fl_X10_19 rfl G_109 (at_of tX10_erase 5 8 rfl) ?_
      refine go_if_eq (tgt := 183) (at_of tX10_erase 5 9 rfl) (by decide) (fun h176 => ?_) (fun h176 => ?_)
      · exfalso; rw [t60] at h176; exact absurd h176 (by decide)
      refine go_iconst (at_of tX10_erase 5 10 rfl) (by unfold in32; omega) ?_
      refine go_goto (tgt := 184) (at_of tX10_erase 5 11 rfl) (by decide) ?_
      refine go_istore (at_of tX10_erase 5 13 rfl) rfl rfl ?_
      refine go_aload_n (at_of tX10_erase 5 14 rfl) rfl ?_
      refine go_iload (at_of tX10_erase 5 15 rfl) rfl rfl ?_
      refine go_if_eq (tgt := 209) (at_of tX10_erase 6 0 rfl) (by decide) (fun h189 => ?_) (fun h189 => ?_)
      · exfalso; omega
      refine go_aload_n (at_of tX10_erase 6 1 rfl) rfl ?_
      refine go_getr (q := 110) fl_X10_7 rfl G_109 (by first | exact (hS _ _ rfl).trans rfl | exact (hS1 _ _ rfl).trans rfl | exact (hS2 _ _ rfl).trans rfl | exact (hS3 _ _ rfl).trans rfl | exact (hS4 _ _ rfl).trans rfl) (at_of tX10_erase 6 2 rfl) ?_
      refine go_sipush (at_of tX10_erase 6 3 rfl) (by decide) ?_
      refine go_iald G_110 (by omega) (by omega) (at_of tX10_erase 6 4 rfl) ?_
      refine go_bipush (at_of tX10_erase 6 5 rfl) (by decide) ?_
      rw [ecc]
      refine go_icmp_ne (tgt := 209) (at_of tX10_erase 6 6 rfl) (by decide) (fun h202 => ?_) (fun h202 => ?_)
      rotate_left
      · exfalso; omega
      refine go_iload (at_of tX10_erase 6 9 rfl) rfl rfl ?_
      refine go_if_eq (tgt := 218) (at_of tX10_erase 6 10 rfl) (by decide) (fun h211 => ?_) (fun h211 => ?_)
      rotate_left
      · exfalso; exact h211 (by decide)
      refine go_iconst (at_of tX10_erase 6 13 rfl) (by unfold in32; omega) ?_
      refine go_cV (m_goesOn) lk_X10_141 rfl G_109 (at_of tX10_erase 6 14 rfl) rfl (by decide) rfl (Nat.le_of_ble_eq_true rfl) rfl (by first | decide | exact ⟨Nat.zero_le _, Nat.zero_le _⟩) ?_
      rw [P1_P1]
      refine go_if_ne (tgt := 227) (at_of tX10_erase 6 15 rfl) (by decide) (fun h222 => ?_) (fun h222 => ?_)
      rotate_left
      · exfalso; exact absurd h222 (by rw [bI_t rfl]; decide)
      refine go_aload_n (at_of tX10_erase 7 2 rfl) rfl ?_
      refine go_cV (x1_) lk_X10_166 rfl G_109 (at_of tX10_erase 7 3 rfl) rfl (by decide) rfl (Nat.le_of_ble_eq_true rfl) rfl (by first | decide | exact ⟨Nat.zero_le _, Nat.zero_le _⟩) ?_
      refine go_iload (at_of tX10_erase 7 4 rfl) rfl rfl ?_
      refine go_if_eq (tgt := 246) (at_of tX10_erase 7 5 rfl) (by decide) (fun h233 => ?_) (fun h233 => ?_)
      · exfalso; omega
      refine go_aload_n (at_of tX10_erase 7 6 rfl) rfl ?_
      refine go_iload_n (at_of tX10_erase 7 7 rfl) rfl ?_
      refine go_bipush (at_of tX10_erase 7 8 rfl) (by decide) ?_
      refine go_cV (c1) lk_X10_169 rfl G_109 (at_of tX10_erase 7 9 rfl) rfl (by decide) rfl (Nat.le_of_ble_eq_true rfl) rfl (by first | decide | exact ⟨Nat.zero_le _, Nat.zero_le _⟩) ?_
      refine go_goto (tgt := 247) (at_of tX10_erase 7 10 rfl) (by decide) ?_
      refine go_istore (at_of tX10_erase 7 12 rfl) rfl rfl ?_
      refine go_iload (at_of tX10_erase 7 13 rfl) rfl rfl ?_
      refine go_istore (at_of tX10_erase 7 14 rfl) rfl rfl ?_
      refine l3_ _ _ (fun b => ?_)
      refine go_iload (at_of tX10_erase 9 10 rfl) rfl rfl ?_
      first | exact go_reti (at_of tX10_erase 9 11 rfl) rfl | exact go_reti (at_of tX10_erase 9 11 rfl) (le_i (by omega)) | exact go_reti (at_of tX10_erase 9 11 rfl) (le_i (by first | exact bI_t (by omega) | exact bI_f (by omega)))
    | false =>
      obtain ⟨σ3, ⟨l1_, l2_⟩, l3_⟩ := m_erase_loop hS1 (R0 := (A.1 A.2.1).1) (L := (A.1 A.2.1).2.1) (Q := (A.1 A.2.1).2.2) hN1 hRw hMk (tr := false) t61 (a := a) (p := p) (z := z) (x := x) (y := y) (ch := -1) x1 hxy hyn (vI 0) (vI 0)
      refine ⟨σ3, ?_, fin l2_ l1_⟩
      refine con_of_go mfX10_erase.1 trivial (Nat.le_of_ble_eq_true rfl) rfl (by decide) ?_
      show Go _ _ _ _ 0 [vA _, vI _, vI _, vI _, vT 9 0, vT 9 0, vT 9 0, vT 9 0, vT 9 0, vT 9 0] [] _ _
      refine go_aload_n (at_of tX10_erase 0 0 rfl) rfl ?_
      refine go_iload_n (at_of tX10_erase 0 1 rfl) rfl ?_
      refine go_cS (m_isAuthor) lk_X10_151 rfl (at_of tX10_erase 0 2 rfl) rfl (by decide) rfl (Nat.le_of_ble_eq_true rfl) rfl (by first | decide | exact ⟨Nat.zero_le _, Nat.zero_le _⟩) ?_
      refine go_if_eq (tgt := 24) (at_of tX10_erase 0 3 rfl) (by decide) (fun h5 => ?_) (fun h5 => ?_)
      · exfalso; exact bI_0.mp h5 h.1
      refine go_aload_n (at_of tX10_erase 0 4 rfl) rfl ?_
      refine go_iload_n (at_of tX10_erase 0 5 rfl) rfl ?_
      refine go_cV (m_isPlace hS hN.1 hE hSg) lk_X10_154 rfl G_109 (at_of tX10_erase 0 6 rfl) rfl (by decide) rfl (Nat.le_of_ble_eq_true rfl) rfl (by first | decide | exact ⟨Nat.zero_le _, Nat.zero_le _⟩) ?_
      refine go_if_eq (tgt := 24) (at_of tX10_erase 0 7 rfl) (by decide) (fun h13 => ?_) (fun h13 => ?_)
      · exfalso; exact bI_0.mp h13 h.2.1
      refine go_aload_n (at_of tX10_erase 0 8 rfl) rfl ?_
      refine go_iload_n (at_of tX10_erase 0 9 rfl) rfl ?_
      refine go_cV (m_isPlace hS hN.1 hE hSg) lk_X10_154 rfl G_109 (at_of tX10_erase 0 10 rfl) rfl (by decide) rfl (Nat.le_of_ble_eq_true rfl) rfl (by first | decide | exact ⟨Nat.zero_le _, Nat.zero_le _⟩) ?_
      refine go_if_ne (tgt := 28) (at_of tX10_erase 0 11 rfl) (by decide) (fun h21 => ?_) (fun h21 => ?_)
      rotate_left
      · exfalso; exact bI_0.mp h21 h.2.2
      refine go_iload_n (at_of tX10_erase 0 14 rfl) rfl ?_
      refine go_iload_n (at_of tX10_erase 0 15 rfl) rfl ?_
      refine go_icmp_gt (tgt := 37) (at_of tX10_erase 1 0 rfl) (by decide) (fun h30 => ?_) (fun h30 => ?_)
      rotate_left
      · exfalso; omega
      refine go_iconst (at_of tX10_erase 1 3 rfl) (by unfold in32; omega) ?_
      refine go_cV (m_goesOn) lk_X10_141 rfl G_109 (at_of tX10_erase 1 4 rfl) rfl (by decide) rfl (Nat.le_of_ble_eq_true rfl) rfl (by first | decide | exact ⟨Nat.zero_le _, Nat.zero_le _⟩) ?_
      refine go_if_ne (tgt := 46) (at_of tX10_erase 1 5 rfl) (by decide) (fun h41 => ?_) (fun h41 => ?_)
      rotate_left
      · exfalso; exact absurd h41 (by rw [bI_t rfl]; decide)
      refine go_aload_n (at_of tX10_erase 1 8 rfl) rfl ?_
      refine go_iload_n (at_of tX10_erase 1 9 rfl) rfl ?_
      refine go_cV (mx) lk_X10_157 rfl G_109 (at_of tX10_erase 1 10 rfl) rfl (by decide) rfl (Nat.le_of_ble_eq_true rfl) rfl (by first | decide | exact ⟨Nat.zero_le _, Nat.zero_le _⟩) ?_
      refine go_istore (at_of tX10_erase 1 11 rfl) rfl rfl ?_
      refine go_aload_n (at_of tX10_erase 1 12 rfl) rfl ?_
      refine go_iload_n (at_of tX10_erase 1 13 rfl) rfl ?_
      refine go_iconst (at_of tX10_erase 1 14 rfl) (by unfold in32; omega) ?_
      refine go_isub (at_of tX10_erase 1 15 rfl) (by unfold in32; omega) ?_
      refine go_cV (my) lk_X10_157 rfl G_109 (at_of tX10_erase 2 0 rfl) rfl (by decide) rfl (Nat.le_of_ble_eq_true rfl) rfl (by first | decide | exact ⟨Nat.zero_le _, Nat.zero_le _⟩) ?_
      refine go_istore (at_of tX10_erase 2 1 rfl) rfl rfl ?_
      refine ask _ _ _ _ _ _ (fun b v8 => ?_)
      refine go_iload (at_of tX10_erase 5 5 rfl) rfl rfl ?_
      refine go_if_eq (tgt := 183) (at_of tX10_erase 5 6 rfl) (by decide) (fun h169 => ?_) (fun h169 => ?_)
      · exfalso; exact absurd h169 (by decide)
      refine go_aload_n (at_of tX10_erase 5 7 rfl) rfl ?_
      refine go_getf fl_X10_19 rfl G_109 (at_of tX10_erase 5 8 rfl) ?_
      refine go_if_eq (tgt := 183) (at_of tX10_erase 5 9 rfl) (by decide) (fun h176 => ?_) (fun h176 => ?_)
      rotate_left
      · exfalso; rw [t60] at h176; exact h176 (by decide)
      refine go_iconst (at_of tX10_erase 5 12 rfl) (by unfold in32; omega) ?_
      refine go_istore (at_of tX10_erase 5 13 rfl) rfl rfl ?_
      refine go_aload_n (at_of tX10_erase 5 14 rfl) rfl ?_
      refine go_iload (at_of tX10_erase 5 15 rfl) rfl rfl ?_
      refine go_if_eq (tgt := 209) (at_of tX10_erase 6 0 rfl) (by decide) (fun h189 => ?_) (fun h189 => ?_)
      rotate_left
      · exfalso; omega
      refine go_iload (at_of tX10_erase 6 9 rfl) rfl rfl ?_
      refine go_if_eq (tgt := 218) (at_of tX10_erase 6 10 rfl) (by decide) (fun h211 => ?_) (fun h211 => ?_)
      rotate_left
      · exfalso; exact h211 (by decide)
      refine go_iconst (at_of tX10_erase 6 13 rfl) (by unfold in32; omega) ?_
      refine go_cV (m_goesOn) lk_X10_141 rfl G_109 (at_of tX10_erase 6 14 rfl) rfl (by decide) rfl (Nat.le_of_ble_eq_true rfl) rfl (by first | decide | exact ⟨Nat.zero_le _, Nat.zero_le _⟩) ?_
      rw [P1_P1]
      refine go_if_ne (tgt := 227) (at_of tX10_erase 6 15 rfl) (by decide) (fun h222 => ?_) (fun h222 => ?_)
      rotate_left
      · exfalso; exact absurd h222 (by rw [bI_t rfl]; decide)
      refine go_aload_n (at_of tX10_erase 7 2 rfl) rfl ?_
      refine go_cV (x1_) lk_X10_166 rfl G_109 (at_of tX10_erase 7 3 rfl) rfl (by decide) rfl (Nat.le_of_ble_eq_true rfl) rfl (by first | decide | exact ⟨Nat.zero_le _, Nat.zero_le _⟩) ?_
      refine go_iload (at_of tX10_erase 7 4 rfl) rfl rfl ?_
      refine go_if_eq (tgt := 246) (at_of tX10_erase 7 5 rfl) (by decide) (fun h233 => ?_) (fun h233 => ?_)
      rotate_left
      · exfalso; omega
      refine go_iconst (at_of tX10_erase 7 11 rfl) (by unfold in32; omega) ?_
      refine go_istore (at_of tX10_erase 7 12 rfl) rfl rfl ?_
      refine go_iload (at_of tX10_erase 7 13 rfl) rfl rfl ?_
      refine go_istore (at_of tX10_erase 7 14 rfl) rfl rfl ?_
      refine l3_ _ _ (fun b => ?_)
      refine go_iload (at_of tX10_erase 9 10 rfl) rfl rfl ?_
      first | exact go_reti (at_of tX10_erase 9 11 rfl) rfl | exact go_reti (at_of tX10_erase 9 11 rfl) (le_i (by omega)) | exact go_reti (at_of tX10_erase 9 11 rfl) (le_i (by first | exact bI_t (by omega) | exact bI_f (by omega)))
  | false =>
    cases tr with
    | true =>
      obtain ⟨σ3, ⟨l1_, l2_⟩, l3_⟩ := m_erase_loop hS1 (R0 := (A.1 A.2.1).1) (L := (A.1 A.2.1).2.1) (Q := (A.1 A.2.1).2.2) hN1 hRw hMk (tr := true) t61 (a := a) (p := p) (z := z) (x := x) (y := y) (ch := -1) x1 hxy hyn (vI 0) (vI 0)
      refine ⟨σ3, ?_, fin l2_ l1_⟩
      refine con_of_go mfX10_erase.1 trivial (Nat.le_of_ble_eq_true rfl) rfl (by decide) ?_
      show Go _ _ _ _ 0 [vA _, vI _, vI _, vI _, vT 9 0, vT 9 0, vT 9 0, vT 9 0, vT 9 0, vT 9 0] [] _ _
      refine go_aload_n (at_of tX10_erase 0 0 rfl) rfl ?_
      refine go_iload_n (at_of tX10_erase 0 1 rfl) rfl ?_
      refine go_cS (m_isAuthor) lk_X10_151 rfl (at_of tX10_erase 0 2 rfl) rfl (by decide) rfl (Nat.le_of_ble_eq_true rfl) rfl (by first | decide | exact ⟨Nat.zero_le _, Nat.zero_le _⟩) ?_
      refine go_if_eq (tgt := 24) (at_of tX10_erase 0 3 rfl) (by decide) (fun h5 => ?_) (fun h5 => ?_)
      · exfalso; exact bI_0.mp h5 h.1
      refine go_aload_n (at_of tX10_erase 0 4 rfl) rfl ?_
      refine go_iload_n (at_of tX10_erase 0 5 rfl) rfl ?_
      refine go_cV (m_isPlace hS hN.1 hE hSg) lk_X10_154 rfl G_109 (at_of tX10_erase 0 6 rfl) rfl (by decide) rfl (Nat.le_of_ble_eq_true rfl) rfl (by first | decide | exact ⟨Nat.zero_le _, Nat.zero_le _⟩) ?_
      refine go_if_eq (tgt := 24) (at_of tX10_erase 0 7 rfl) (by decide) (fun h13 => ?_) (fun h13 => ?_)
      · exfalso; exact bI_0.mp h13 h.2.1
      refine go_aload_n (at_of tX10_erase 0 8 rfl) rfl ?_
      refine go_iload_n (at_of tX10_erase 0 9 rfl) rfl ?_
      refine go_cV (m_isPlace hS hN.1 hE hSg) lk_X10_154 rfl G_109 (at_of tX10_erase 0 10 rfl) rfl (by decide) rfl (Nat.le_of_ble_eq_true rfl) rfl (by first | decide | exact ⟨Nat.zero_le _, Nat.zero_le _⟩) ?_
      refine go_if_ne (tgt := 28) (at_of tX10_erase 0 11 rfl) (by decide) (fun h21 => ?_) (fun h21 => ?_)
      rotate_left
      · exfalso; exact bI_0.mp h21 h.2.2
      refine go_iload_n (at_of tX10_erase 0 14 rfl) rfl ?_
      refine go_iload_n (at_of tX10_erase 0 15 rfl) rfl ?_
      refine go_icmp_gt (tgt := 37) (at_of tX10_erase 1 0 rfl) (by decide) (fun h30 => ?_) (fun h30 => ?_)
      rotate_left
      · exfalso; omega
      refine go_iconst (at_of tX10_erase 1 3 rfl) (by unfold in32; omega) ?_
      refine go_cV (m_goesOn) lk_X10_141 rfl G_109 (at_of tX10_erase 1 4 rfl) rfl (by decide) rfl (Nat.le_of_ble_eq_true rfl) rfl (by first | decide | exact ⟨Nat.zero_le _, Nat.zero_le _⟩) ?_
      refine go_if_ne (tgt := 46) (at_of tX10_erase 1 5 rfl) (by decide) (fun h41 => ?_) (fun h41 => ?_)
      rotate_left
      · exfalso; exact absurd h41 (by rw [bI_t rfl]; decide)
      refine go_aload_n (at_of tX10_erase 1 8 rfl) rfl ?_
      refine go_iload_n (at_of tX10_erase 1 9 rfl) rfl ?_
      refine go_cV (mx) lk_X10_157 rfl G_109 (at_of tX10_erase 1 10 rfl) rfl (by decide) rfl (Nat.le_of_ble_eq_true rfl) rfl (by first | decide | exact ⟨Nat.zero_le _, Nat.zero_le _⟩) ?_
      refine go_istore (at_of tX10_erase 1 11 rfl) rfl rfl ?_
      refine go_aload_n (at_of tX10_erase 1 12 rfl) rfl ?_
      refine go_iload_n (at_of tX10_erase 1 13 rfl) rfl ?_
      refine go_iconst (at_of tX10_erase 1 14 rfl) (by unfold in32; omega) ?_
      refine go_isub (at_of tX10_erase 1 15 rfl) (by unfold in32; omega) ?_
      refine go_cV (my) lk_X10_157 rfl G_109 (at_of tX10_erase 2 0 rfl) rfl (by decide) rfl (Nat.le_of_ble_eq_true rfl) rfl (by first | decide | exact ⟨Nat.zero_le _, Nat.zero_le _⟩) ?_
      refine go_istore (at_of tX10_erase 2 1 rfl) rfl rfl ?_
      refine ask _ _ _ _ _ _ (fun b v8 => ?_)
      refine go_iload (at_of tX10_erase 5 5 rfl) rfl rfl ?_
      refine go_if_eq (tgt := 183) (at_of tX10_erase 5 6 rfl) (by decide) (fun h169 => ?_) (fun h169 => ?_)
      rotate_left
      · exfalso; exact h169 (by decide)
      refine go_iconst (at_of tX10_erase 5 12 rfl) (by unfold in32; omega) ?_
      refine go_istore (at_of tX10_erase 5 13 rfl) rfl rfl ?_
      refine go_aload_n (at_of tX10_erase 5 14 rfl) rfl ?_
      refine go_iload (at_of tX10_erase 5 15 rfl) rfl rfl ?_
      refine go_if_eq (tgt := 209) (at_of tX10_erase 6 0 rfl) (by decide) (fun h189 => ?_) (fun h189 => ?_)
      rotate_left
      · exfalso; omega
      refine go_iload (at_of tX10_erase 6 9 rfl) rfl rfl ?_
      refine go_if_eq (tgt := 218) (at_of tX10_erase 6 10 rfl) (by decide) (fun h211 => ?_) (fun h211 => ?_)
      rotate_left
      · exfalso; exact h211 (by decide)
      refine go_iconst (at_of tX10_erase 6 13 rfl) (by unfold in32; omega) ?_
      refine go_cV (m_goesOn) lk_X10_141 rfl G_109 (at_of tX10_erase 6 14 rfl) rfl (by decide) rfl (Nat.le_of_ble_eq_true rfl) rfl (by first | decide | exact ⟨Nat.zero_le _, Nat.zero_le _⟩) ?_
      rw [P1_P1]
      refine go_if_ne (tgt := 227) (at_of tX10_erase 6 15 rfl) (by decide) (fun h222 => ?_) (fun h222 => ?_)
      rotate_left
      · exfalso; exact absurd h222 (by rw [bI_t rfl]; decide)
      refine go_aload_n (at_of tX10_erase 7 2 rfl) rfl ?_
      refine go_cV (x1_) lk_X10_166 rfl G_109 (at_of tX10_erase 7 3 rfl) rfl (by decide) rfl (Nat.le_of_ble_eq_true rfl) rfl (by first | decide | exact ⟨Nat.zero_le _, Nat.zero_le _⟩) ?_
      refine go_iload (at_of tX10_erase 7 4 rfl) rfl rfl ?_
      refine go_if_eq (tgt := 246) (at_of tX10_erase 7 5 rfl) (by decide) (fun h233 => ?_) (fun h233 => ?_)
      rotate_left
      · exfalso; omega
      refine go_iconst (at_of tX10_erase 7 11 rfl) (by unfold in32; omega) ?_
      refine go_istore (at_of tX10_erase 7 12 rfl) rfl rfl ?_
      refine go_iload (at_of tX10_erase 7 13 rfl) rfl rfl ?_
      refine go_istore (at_of tX10_erase 7 14 rfl) rfl rfl ?_
      refine l3_ _ _ (fun b => ?_)
      refine go_iload (at_of tX10_erase 9 10 rfl) rfl rfl ?_
      first | exact go_reti (at_of tX10_erase 9 11 rfl) rfl | exact go_reti (at_of tX10_erase 9 11 rfl) (le_i (by omega)) | exact go_reti (at_of tX10_erase 9 11 rfl) (le_i (by first | exact bI_t (by omega) | exact bI_f (by omega)))
    | false =>
      obtain ⟨σ3, ⟨l1_, l2_⟩, l3_⟩ := m_erase_loop hS1 (R0 := (A.1 A.2.1).1) (L := (A.1 A.2.1).2.1) (Q := (A.1 A.2.1).2.2) hN1 hRw hMk (tr := false) t61 (a := a) (p := p) (z := z) (x := x) (y := y) (ch := -1) x1 hxy hyn (vI 0) (vI 0)
      refine ⟨σ3, ?_, fin l2_ l1_⟩
      refine con_of_go mfX10_erase.1 trivial (Nat.le_of_ble_eq_true rfl) rfl (by decide) ?_
      show Go _ _ _ _ 0 [vA _, vI _, vI _, vI _, vT 9 0, vT 9 0, vT 9 0, vT 9 0, vT 9 0, vT 9 0] [] _ _
      refine go_aload_n (at_of tX10_erase 0 0 rfl) rfl ?_
      refine go_iload_n (at_of tX10_erase 0 1 rfl) rfl ?_
      refine go_cS (m_isAuthor) lk_X10_151 rfl (at_of tX10_erase 0 2 rfl) rfl (by decide) rfl (Nat.le_of_ble_eq_true rfl) rfl (by first | decide | exact ⟨Nat.zero_le _, Nat.zero_le _⟩) ?_
      refine go_if_eq (tgt := 24) (at_of tX10_erase 0 3 rfl) (by decide) (fun h5 => ?_) (fun h5 => ?_)
      · exfalso; exact bI_0.mp h5 h.1
      refine go_aload_n (at_of tX10_erase 0 4 rfl) rfl ?_
      refine go_iload_n (at_of tX10_erase 0 5 rfl) rfl ?_
      refine go_cV (m_isPlace hS hN.1 hE hSg) lk_X10_154 rfl G_109 (at_of tX10_erase 0 6 rfl) rfl (by decide) rfl (Nat.le_of_ble_eq_true rfl) rfl (by first | decide | exact ⟨Nat.zero_le _, Nat.zero_le _⟩) ?_
      refine go_if_eq (tgt := 24) (at_of tX10_erase 0 7 rfl) (by decide) (fun h13 => ?_) (fun h13 => ?_)
      · exfalso; exact bI_0.mp h13 h.2.1
      refine go_aload_n (at_of tX10_erase 0 8 rfl) rfl ?_
      refine go_iload_n (at_of tX10_erase 0 9 rfl) rfl ?_
      refine go_cV (m_isPlace hS hN.1 hE hSg) lk_X10_154 rfl G_109 (at_of tX10_erase 0 10 rfl) rfl (by decide) rfl (Nat.le_of_ble_eq_true rfl) rfl (by first | decide | exact ⟨Nat.zero_le _, Nat.zero_le _⟩) ?_
      refine go_if_ne (tgt := 28) (at_of tX10_erase 0 11 rfl) (by decide) (fun h21 => ?_) (fun h21 => ?_)
      rotate_left
      · exfalso; exact bI_0.mp h21 h.2.2
      refine go_iload_n (at_of tX10_erase 0 14 rfl) rfl ?_
      refine go_iload_n (at_of tX10_erase 0 15 rfl) rfl ?_
      refine go_icmp_gt (tgt := 37) (at_of tX10_erase 1 0 rfl) (by decide) (fun h30 => ?_) (fun h30 => ?_)
      rotate_left
      · exfalso; omega
      refine go_iconst (at_of tX10_erase 1 3 rfl) (by unfold in32; omega) ?_
      refine go_cV (m_goesOn) lk_X10_141 rfl G_109 (at_of tX10_erase 1 4 rfl) rfl (by decide) rfl (Nat.le_of_ble_eq_true rfl) rfl (by first | decide | exact ⟨Nat.zero_le _, Nat.zero_le _⟩) ?_
      refine go_if_ne (tgt := 46) (at_of tX10_erase 1 5 rfl) (by decide) (fun h41 => ?_) (fun h41 => ?_)
      rotate_left
      · exfalso; exact absurd h41 (by rw [bI_t rfl]; decide)
      refine go_aload_n (at_of tX10_erase 1 8 rfl) rfl ?_
      refine go_iload_n (at_of tX10_erase 1 9 rfl) rfl ?_
      refine go_cV (mx) lk_X10_157 rfl G_109 (at_of tX10_erase 1 10 rfl) rfl (by decide) rfl (Nat.le_of_ble_eq_true rfl) rfl (by first | decide | exact ⟨Nat.zero_le _, Nat.zero_le _⟩) ?_
      refine go_istore (at_of tX10_erase 1 11 rfl) rfl rfl ?_
      refine go_aload_n (at_of tX10_erase 1 12 rfl) rfl ?_
      refine go_iload_n (at_of tX10_erase 1 13 rfl) rfl ?_
      refine go_iconst (at_of tX10_erase 1 14 rfl) (by unfold in32; omega) ?_
      refine go_isub (at_of tX10_erase 1 15 rfl) (by unfold in32; omega) ?_
      refine go_cV (my) lk_X10_157 rfl G_109 (at_of tX10_erase 2 0 rfl) rfl (by decide) rfl (Nat.le_of_ble_eq_true rfl) rfl (by first | decide | exact ⟨Nat.zero_le _, Nat.zero_le _⟩) ?_
      refine go_istore (at_of tX10_erase 2 1 rfl) rfl rfl ?_
      refine ask _ _ _ _ _ _ (fun b v8 => ?_)
      refine go_iload (at_of tX10_erase 5 5 rfl) rfl rfl ?_
      refine go_if_eq (tgt := 183) (at_of tX10_erase 5 6 rfl) (by decide) (fun h169 => ?_) (fun h169 => ?_)
      rotate_left
      · exfalso; exact h169 (by decide)
      refine go_iconst (at_of tX10_erase 5 12 rfl) (by unfold in32; omega) ?_
      refine go_istore (at_of tX10_erase 5 13 rfl) rfl rfl ?_
      refine go_aload_n (at_of tX10_erase 5 14 rfl) rfl ?_
      refine go_iload (at_of tX10_erase 5 15 rfl) rfl rfl ?_
      refine go_if_eq (tgt := 209) (at_of tX10_erase 6 0 rfl) (by decide) (fun h189 => ?_) (fun h189 => ?_)
      rotate_left
      · exfalso; omega
      refine go_iload (at_of tX10_erase 6 9 rfl) rfl rfl ?_
      refine go_if_eq (tgt := 218) (at_of tX10_erase 6 10 rfl) (by decide) (fun h211 => ?_) (fun h211 => ?_)
      rotate_left
      · exfalso; exact h211 (by decide)
      refine go_iconst (at_of tX10_erase 6 13 rfl) (by unfold in32; omega) ?_
      refine go_cV (m_goesOn) lk_X10_141 rfl G_109 (at_of tX10_erase 6 14 rfl) rfl (by decide) rfl (Nat.le_of_ble_eq_true rfl) rfl (by first | decide | exact ⟨Nat.zero_le _, Nat.zero_le _⟩) ?_
      rw [P1_P1]
      refine go_if_ne (tgt := 227) (at_of tX10_erase 6 15 rfl) (by decide) (fun h222 => ?_) (fun h222 => ?_)
      rotate_left
      · exfalso; exact absurd h222 (by rw [bI_t rfl]; decide)
      refine go_aload_n (at_of tX10_erase 7 2 rfl) rfl ?_
      refine go_cV (x1_) lk_X10_166 rfl G_109 (at_of tX10_erase 7 3 rfl) rfl (by decide) rfl (Nat.le_of_ble_eq_true rfl) rfl (by first | decide | exact ⟨Nat.zero_le _, Nat.zero_le _⟩) ?_
      refine go_iload (at_of tX10_erase 7 4 rfl) rfl rfl ?_
      refine go_if_eq (tgt := 246) (at_of tX10_erase 7 5 rfl) (by decide) (fun h233 => ?_) (fun h233 => ?_)
      rotate_left
      · exfalso; omega
      refine go_iconst (at_of tX10_erase 7 11 rfl) (by unfold in32; omega) ?_
      refine go_istore (at_of tX10_erase 7 12 rfl) rfl rfl ?_
      refine go_iload (at_of tX10_erase 7 13 rfl) rfl rfl ?_
      refine go_istore (at_of tX10_erase 7 14 rfl) rfl rfl ?_
      refine l3_ _ _ (fun b => ?_)
      refine go_iload (at_of tX10_erase 9 10 rfl) rfl rfl ?_
      first | exact go_reti (at_of tX10_erase 9 11 rfl) rfl | exact go_reti (at_of tX10_erase 9 11 rfl) (le_i (by omega)) | exact go_reti (at_of tX10_erase 9 11 rfl) (le_i (by first | exact bI_t (by omega) | exact bI_f (by omega)))
end Mod13
