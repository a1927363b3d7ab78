section Asked
variable {σ : St} {k : Nat} {R : RowD}
theorem grdF_congr {F F' : Int → Int → Int} {n z : Int} (h : EqF F F' n) (h10 : ∀ i, 0 ≤ i → i ≤ n → sendB F n i = true → F 10 i = F' 10 i) : ∀ (m : Nat) (i : Int), grdF F n z m i = grdF F' n z m i := by
  intro m
  induction m with
  | zero => intro i; rfl
  | succ m ih =>
    intro i
    rw [grdF, grdF, ← h.send i]
    by_cases q : sendB F n i = true
    · have q2 : 0 ≤ i ∧ i ≤ n ∧ _ := of_decide_eq_true q
      rw [if_pos q, if_pos q, h10 i q2.1 q2.2.1 q, ih]
    · rw [if_neg q, if_neg q, ih]
theorem r_fact (hS : Str σ.2.1) (hk : k < 8) (hR : RepR σ k R) {w i : Int} (hw : 0 ≤ w ∧ w ≤ 10) (hi : 0 ≤ i ∧ i ≤ R.2.1) : Con 0 mX7_fact 0 0 [vA (4 + 10 * k), vI w, vI i] σ (vI (R.1 w i), σ) := by
  have hn := hR.1
  obtain ⟨hw1, hw2, hw3⟩ := hR.2.2.2
  rw [← hR.2.1 w i hw.1 hw.2 hi.1 hi.2]
  exact con_fact (rowP hS hk) hw (by omega)
theorem r_allUnits (hS : Str σ.2.1) (hk : k < 8) (hR : RepR σ k R) : Con 0 mX7_allUnits 0 0 [vA (4 + 10 * k)] σ (vI R.2.1, σ) := by
  have hn := hR.1
  obtain ⟨hw1, hw2, hw3⟩ := hR.2.2.2
  rw [← hn]
  exact con_allUnits (rowP hS hk)
theorem r_isSeen (hS : Str σ.2.1) (hk : k < 8) (hR : RepR σ k R) {i : Int} : Con 1 mX7_isSeen 0 0 [vA (4 + 10 * k), vI i] σ (vI (bI (seenB R.1 R.2.1 i = true)), σ) := by
  have hn := hR.1
  obtain ⟨hw1, hw2, hw3⟩ := hR.2.2.2
  have q := con_isSeen (rowP hS hk) hR.u (i := i)
  rw [hn, hR.eqF.seen i] at q
  exact q
theorem r_isOld (hS : Str σ.2.1) (hk : k < 8) (hR : RepR σ k R) {i : Int} : Con 1 mX7_isOld 0 0 [vA (4 + 10 * k), vI i] σ (vI (bI (oldB R.1 R.2.1 i = true)), σ) := by
  have hn := hR.1
  obtain ⟨hw1, hw2, hw3⟩ := hR.2.2.2
  have q := con_isOld (rowP hS hk) hR.u (i := i)
  rw [hn, hR.eqF.old i] at q
  exact q
theorem r_indexOf (hS : Str σ.2.1) (hk : k < 8) (hR : RepR σ k R) {p : Int} : Con 2 mX7_indexOf 0 0 [vA (4 + 10 * k), vI p] σ (vI (ixOf R.1 R.2.1 p), σ) := by
  have hn := hR.1
  obtain ⟨hw1, hw2, hw3⟩ := hR.2.2.2
  have q := con_indexOf (rowP hS hk) hR.u (k0 := p)
  rw [hn, hR.eqF.ixOf p] at q
  exact q
theorem r_indexOfOld (hS : Str σ.2.1) (hk : k < 8) (hR : RepR σ k R) {p : Int} : Con 2 mX7_indexOfOld 0 0 [vA (4 + 10 * k), vI p] σ (vI (ixOld R.1 R.2.1 p), σ) := by
  have hn := hR.1
  obtain ⟨hw1, hw2, hw3⟩ := hR.2.2.2
  have q := con_indexOfOld (rowP hS hk) hR.u (k0 := p)
  rw [hn, hR.eqF.ixOld p] at q
  exact q
theorem r_endFrom (hS : Str σ.2.1) (hk : k < 8) (hR : RepR σ k R) {i : Int} (hi : 0 ≤ i ∧ i ≤ R.2.1) : Con 2 mX7_endFrom 0 0 [vA (4 + 10 * k), vI i] σ (vI (endFr R.1 R.2.1 i), σ) := by
  have hn := hR.1
  obtain ⟨hw1, hw2, hw3⟩ := hR.2.2.2
  have q := con_endFrom (rowP hS hk) hR.u (i := i) (by omega)
  rw [hn, hR.eqF.endFr i] at q
  exact q
theorem r_endsAhead (hS : Str σ.2.1) (hk : k < 8) (hR : RepR σ k R) {i : Int} (hi : 0 ≤ i) : Con 2 mX7_endsAhead 0 0 [vA (4 + 10 * k), vI i] σ (vI (endsA R.1 R.2.1 i), σ) := by
  have hn := hR.1
  obtain ⟨hw1, hw2, hw3⟩ := hR.2.2.2
  have q := con_endsAhead (rowP hS hk) hR.u (i := i) hi
  rw [hn, hR.eqF.endsA i] at q
  exact q
theorem r_oldUnits (hS : Str σ.2.1) (hk : k < 8) (hR : RepR σ k R) : Con 2 mX7_oldUnits 0 0 [vA (4 + 10 * k)] σ (vI (oldN R.1 R.2.1), σ) := by
  have hn := hR.1
  obtain ⟨hw1, hw2, hw3⟩ := hR.2.2.2
  have q := con_oldUnits (rowP hS hk) hR.u
  rw [hn, hR.eqF.oldN] at q
  exact q
theorem r_waitingUnits (hS : Str σ.2.1) (hk : k < 8) (hR : RepR σ k R) : Con 1 mX7_waitingUnits 0 0 [vA (4 + 10 * k)] σ (vI (waitN R.1 R.2.1), σ) := by
  have hn := hR.1
  obtain ⟨hw1, hw2, hw3⟩ := hR.2.2.2
  have q := con_waitingUnits (rowP hS hk) hR.u
  rw [hn, hR.eqF.waitN] at q
  exact q
theorem r_concerned (hS : Str σ.2.1) (hk : k < 8) (hR : RepR σ k R) {c : Int} : Con 1 mX7_concerned 0 0 [vA (4 + 10 * k), vI c] σ (vI (concN R.1 R.2.1 c), σ) := by
  have hn := hR.1
  obtain ⟨hw1, hw2, hw3⟩ := hR.2.2.2
  have q := con_concerned (rowP hS hk) hR.u (c := c)
  rw [hn, hR.eqF.concN c] at q
  exact q
theorem r_seenUnits (hS : Str σ.2.1) (hk : k < 8) (hR : RepR σ k R) : Con 2 mX7_seenUnits 0 0 [vA (4 + 10 * k)] σ (vI (plOf R.1 R.2.1 R.2.1), σ) := by
  have hn := hR.1
  obtain ⟨hw1, hw2, hw3⟩ := hR.2.2.2
  have q := con_seenUnits (rowP hS hk) hR.u
  rw [hn, hR.eqF.plOf] at q
  exact q
theorem r_seenParagraphs (hS : Str σ.2.1) (hk : k < 8) (hR : RepR σ k R) : Con 3 mX7_seenParagraphs 0 0 [vA (4 + 10 * k)] σ (vI (endsA R.1 R.2.1 R.2.1 + 1), σ) := by
  have hn := hR.1
  obtain ⟨hw1, hw2, hw3⟩ := hR.2.2.2
  have q := con_seenParagraphs (rowP hS hk) hR.u
  rw [hn, hR.eqF.endsA] at q
  exact q
theorem r_isGuarded (hS : Str σ.2.1) (hk : k < 8) (hR : RepR σ k R) {a z : Int} (ha : 0 ≤ a ∧ a ≤ R.2.1) : Con 2 mX7_isGuarded 0 0 [vA (4 + 10 * k), vI a, vI z] σ (vI (bI (grdF R.1 R.2.1 z (R.2.1 + 1 - a).toNat a = true)), σ) := by
  have hn := hR.1
  obtain ⟨hw1, hw2, hw3⟩ := hR.2.2.2
  have q := con_isGuarded (rowP hS hk) hR.u (a := a) (z := z) (by omega)
  rw [hn, grdF_congr hR.eqF (fun i a b _ => hR.2.1 10 i (by omega) (by omega) a b)] at q
  exact q
theorem r_hasBookmark (hS : Str σ.2.1) (hk : k < 8) (hR : RepR σ k R) {b : Int} (hb : 0 ≤ b ∧ b < 6) : Con 1 mX7_hasBookmark 0 0 [vA (4 + 10 * k), vI b] σ (vI (bI (R.2.2.1 b ≠ -1)), σ) := by
  have hn := hR.1
  obtain ⟨hw1, hw2, hw3⟩ := hR.2.2.2
  have q := con_hasBookmark (rowP hS hk) (k := b)
  rw [cl_in (by omega), (hR.2.2.1 b hb.1 hb.2).1] at q
  exact q
theorem r_bookmarkBegin (hS : Str σ.2.1) (hk : k < 8) (hR : RepR σ k R) {b : Int} (hb : 0 ≤ b ∧ b < 6) : Con 2 mX7_bookmarkBegin 0 0 [vA (4 + 10 * k), vI b] σ (vI (plOf R.1 R.2.1 (R.2.2.1 b)), σ) := by
  have hn := hR.1
  obtain ⟨hw1, hw2, hw3⟩ := hR.2.2.2
  have q := con_bookmarkBegin (rowP hS hk) hR.u (k := b)
  rw [cl_in (by omega), (hR.2.2.1 b hb.1 hb.2).1, hn, hR.eqF.plOf] at q
  exact q
theorem r_bookmarkEnd (hS : Str σ.2.1) (hk : k < 8) (hR : RepR σ k R) {b : Int} (hb : 0 ≤ b ∧ b < 6) : Con 3 mX7_bookmarkEnd 0 0 [vA (4 + 10 * k), vI b] σ (vI (max (plOf R.1 R.2.1 (R.2.2.2 b)) (plOf R.1 R.2.1 (R.2.2.1 b))), σ) := by
  have hn := hR.1
  obtain ⟨hw1, hw2, hw3⟩ := hR.2.2.2
  have q := con_bookmarkEnd (rowP hS hk) hR.u (k := b)
  rw [cl_in (by omega), cl_in (by omega), (hR.2.2.1 b hb.1 hb.2).1, (hR.2.2.1 b hb.1 hb.2).2, hn, hR.eqF.plOf, hR.eqF.plOf] at q
  exact q
theorem l_many (hS : Str σ.2.1) (hk : k < 8) {D : PapD} (hD : RepP σ k D) : Con 0 mX2_many 0 0 [vA (8 + 10 * k)] σ (vI D.2.1.1, σ) := by
  have hR := hD.1
  have hn := hR.1
  obtain ⟨hw1, hw2, hw3⟩ := hR.2.2.2
  have hL := hD.2.1.2.2.1
  have hm := hD.2.1.1
  obtain ⟨l1, l2, l3⟩ := hD.2.1.2.2.2
  rw [← hm]
  exact con_many hS hk
theorem l_isFull (hS : Str σ.2.1) (hk : k < 8) {D : PapD} (hD : RepP σ k D) : Con 0 mX2_isFull 0 0 [vA (8 + 10 * k)] σ (vI (bI (60 ≤ D.2.1.1)), σ) := by
  have hR := hD.1
  have hn := hR.1
  obtain ⟨hw1, hw2, hw3⟩ := hR.2.2.2
  have hL := hD.2.1.2.2.1
  have hm := hD.2.1.1
  obtain ⟨l1, l2, l3⟩ := hD.2.1.2.2.2
  have q := con_isFullL hS hk
  rw [hm] at q
  exact q
theorem l_author (hS : Str σ.2.1) (hk : k < 8) {D : PapD} (hD : RepP σ k D) {c : Int} (hc : 0 ≤ c ∧ c < D.2.1.1) : Con 1 mX2_author 0 0 [vA (8 + 10 * k), vI c] σ (vI (D.2.1.2.2.1 c), σ) := by
  have hR := hD.1
  have hn := hR.1
  obtain ⟨hw1, hw2, hw3⟩ := hR.2.2.2
  have hL := hD.2.1.2.2.1
  have hm := hD.2.1.1
  obtain ⟨l1, l2, l3⟩ := hD.2.1.2.2.2
  rw [← (hD.2.1.2.1 c hc.1 hc.2).2.1]
  exact con_authorL hS hk (by omega)
theorem l_state (hS : Str σ.2.1) (hk : k < 8) {D : PapD} (hD : RepP σ k D) {c : Int} (hc : 0 ≤ c ∧ c < D.2.1.1) : Con 1 mX2_state 0 0 [vA (8 + 10 * k), vI c] σ (vI (D.2.1.2.2.2 c), σ) := by
  have hR := hD.1
  have hn := hR.1
  obtain ⟨hw1, hw2, hw3⟩ := hR.2.2.2
  have hL := hD.2.1.2.2.1
  have hm := hD.2.1.1
  obtain ⟨l1, l2, l3⟩ := hD.2.1.2.2.2
  rw [← (hD.2.1.2.1 c hc.1 hc.2).2.2]
  exact con_stateL hS hk hL (by omega)
theorem l_isAuthored (hS : Str σ.2.1) (hk : k < 8) {D : PapD} (hD : RepP σ k D) (ha : ∀ j : Int, 0 ≤ j → j < D.2.1.1 → 0 ≤ D.2.1.2.2.1 j ∧ D.2.1.2.2.1 j < 4) : Con 2 mX2_isAuthored 0 0 [vA (8 + 10 * k)] σ (vI 1, σ) := by
  have hR := hD.1
  have hn := hR.1
  obtain ⟨hw1, hw2, hw3⟩ := hR.2.2.2
  have hL := hD.2.1.2.2.1
  have hm := hD.2.1.1
  obtain ⟨l1, l2, l3⟩ := hD.2.1.2.2.2
  exact con_isAuthored hS hk hL (fun j a b => by rw [(hD.2.1.2.1 j a (by omega)).2.1]; exact ha j a (by omega))
theorem p_changeAhead (hS : Str σ.2.1) (hk : k < 8) {D : PapD} (hD : RepP σ k D) {a i : Int} (hi : 0 ≤ i ∧ i ≤ D.1.2.1) : Con 3 mX4_changeAhead 0 0 [vA (3 + 10 * k), vI a, vI i] σ (vI (chAhD D a i), σ) := by
  have hR := hD.1
  have hn := hR.1
  obtain ⟨hw1, hw2, hw3⟩ := hR.2.2.2
  have hL := hD.2.1.2.2.1
  have hm := hD.2.1.1
  obtain ⟨l1, l2, l3⟩ := hD.2.1.2.2.2
  rw [← hD.chAhE hi]
  exact con_changeAhead hS hk hL (by omega)
theorem p_hasOthers (hS : Str σ.2.1) (hk : k < 8) {D : PapD} (hD : RepP σ k D) {a x y : Int} (hx : 0 ≤ x) (hxy : x ≤ y) (hy : y ≤ D.1.2.1) : Con 4 mX4_hasOthers 0 0 [vA (3 + 10 * k), vI a, vI x, vI y] σ (vI (bI (needD D a x y = true)), σ) := by
  have hR := hD.1
  have hn := hR.1
  obtain ⟨hw1, hw2, hw3⟩ := hR.2.2.2
  have hL := hD.2.1.2.2.1
  have hm := hD.2.1.1
  obtain ⟨l1, l2, l3⟩ := hD.2.1.2.2.2
  have he : anyF (othB σ k a) (y - x).toNat x = needD D a x y := anyF_congr _ _ (fun j h1 h2 => hD.othE (by omega))
  have q := con_hasOthers hS hk hL hR.u (a := a) hx hxy (y := y) (by omega)
  rw [he] at q
  exact q
end Asked
