/-! Places, ends and bounds, said of the row alone. -/
section Places
variable {R : RowD} {Q KV : Int → Int}
theorem plOf_N {i : Int} (h : i ≤ R.2.1) : plOf R.1 R.2.1 i = plN R i := by
  unfold plOf; rw [plN_cnt, show min i R.2.1 = i by omega]
theorem seen_left {n i : Int} {F : Int → Int → Int} (h0 : 0 ≤ i) (h1 : i ≤ n) : seenB F n i = leftB F i := by
  unfold seenB leftB; exact decide_eq_decide.mpr (by omega)
/-- every place is that ahead of a unit -/
theorem place_ix (hE : LastE R) {p : Int} (h0 : 0 ≤ p) (h1 : p ≤ plOf R.1 R.2.1 R.2.1) : 0 ≤ ixOf R.1 R.2.1 p ∧ ixOf R.1 R.2.1 p ≤ R.2.1 ∧ R.1 3 (ixOf R.1 R.2.1 p) = -1 ∧ plN R (ixOf R.1 R.2.1 p) = p := by
  rw [plOf_N (Int.le_refl _)] at h1
  have e : cntF (seenB R.1 R.2.1) (R.2.1 + 1).toNat 0 = plN R R.2.1 + 1 := by
    rw [cntF_congr (q := leftB R.1) _ _ (fun j a b => seen_left a (by omega)), cntF_sum]
    have := plN_s (R := R) hE.1
    rw [ind_t (decide_eq_true hE.2.2.1)] at this
    exact this
  obtain ⟨a, b, c, d⟩ := scan_ex (p := seenB R.1 R.2.1) (R.2.1 + 1).toNat 0 p h0 (by omega)
  have b' : ixOf R.1 R.2.1 p ≤ R.2.1 := by unfold ixOf; omega
  refine ⟨a, b', (seen_iff a b').mp c, ?_⟩
  rw [plN_cnt]
  rw [Int.sub_zero, cntF_congr (q := leftB R.1) _ _ (fun j x y => seen_left x (by unfold ixOf at b'; omega))] at d
  exact d
theorem ix_place {u : Int} (h0 : 0 ≤ u) (h1 : u ≤ R.2.1) (h3 : R.1 3 u = -1) : ixOf R.1 R.2.1 (plN R u) = u := by
  have := scan_cnt (p := seenB R.1 R.2.1) (R.2.1 + 1).toNat 0 u ((seen_iff h0 h1).mpr h3) h0 (by omega)
  rw [Int.sub_zero, cntF_congr (q := leftB R.1) _ _ (fun j x y => seen_left x (by omega)), ← plN_cnt] at this
  exact this
/-- a place there is, and none -/
theorem ixOf_iff (hE : LastE R) {p : Int} : ixOf R.1 R.2.1 p ≠ -1 ↔ 0 ≤ p ∧ p ≤ plOf R.1 R.2.1 R.2.1 := by
  refine ⟨fun h => ?_, fun h => by have := place_ix hE h.1 h.2; omega⟩
  have hx := (@ixOf_le R.1 R.2.1 p hE.1).resolve_left h
  by_cases h0 : p < 0
  · exact absurd (scan_neg _ _ _ _ h0) h
  · refine ⟨by omega, ?_⟩
    rw [plOf_N (Int.le_refl _)]
    by_cases h1 : p ≤ plN R R.2.1
    · exact h1
    · exfalso
      have hs : seenB R.1 R.2.1 (ixOf R.1 R.2.1 p) = true := by
        rcases scan_le (seenB R.1 R.2.1) (R.2.1 + 1).toNat 0 p (by omega) with q | ⟨-, -, q⟩
        · exact absurd q h
        · exact q
      have h2 := scan_mono (seenB R.1 R.2.1) (R.2.1 + 1).toNat 0 (plN R R.2.1) p (by omega)
      have h3 := ix_place (R := R) hE.1 (Int.le_refl _) hE.2.2.1
      unfold ixOf at h3
      rw [h3] at h2
      have h4 := h2 (by have := hE.1; omega) h (by omega)
      have h5 : ixOf R.1 R.2.1 p = R.2.1 := by unfold ixOf at hx ⊢; omega
      -- the p-th seen place is the last: so p is its count
      have h6 : ∀ (n : Nat) (i k : Int), 0 ≤ i → scan (seenB R.1 R.2.1) n i k ≠ -1 → cntF (seenB R.1 R.2.1) (scan (seenB R.1 R.2.1) n i k - i).toNat i = k := by
        intro n
        induction n with
        | zero => intro i k _ q; exact absurd rfl q
        | succ n ih =>
          intro i k hi q
          rw [scan] at q ⊢
          by_cases hp : seenB R.1 R.2.1 i = true
          · rw [if_pos hp] at q ⊢
            by_cases hk : k = 0
            · rw [if_pos hk, Int.sub_self, hk]; rfl
            · rw [if_neg hk] at q ⊢
              have z := (scan_le (seenB R.1 R.2.1) n (i + 1) (k - 1) (by omega)).resolve_left q
              rw [show (scan (seenB R.1 R.2.1) n (i + 1) (k - 1) - i).toNat = (scan (seenB R.1 R.2.1) n (i + 1) (k - 1) - (i + 1)).toNat + 1 by omega, cntF, if_pos hp, ih _ _ (by omega) q]; omega
          · rw [if_neg hp] at q ⊢
            have z := (scan_le (seenB R.1 R.2.1) n (i + 1) k (by omega)).resolve_left q
            rw [show (scan (seenB R.1 R.2.1) n (i + 1) k - i).toNat = (scan (seenB R.1 R.2.1) n (i + 1) k - (i + 1)).toNat + 1 by omega, cntF, if_neg hp, ih _ _ (by omega) q]; omega
      have h7 := h6 (R.2.1 + 1).toNat 0 p (by omega) h
      have h8 : scan (seenB R.1 R.2.1) (R.2.1 + 1).toNat 0 p = R.2.1 := h5
      rw [h8, Int.sub_zero, cntF_congr (q := leftB R.1) _ _ (fun j x y => seen_left x (by have := hE.1; omega)), ← plN_cnt] at h7
      omega
/-- the end of a paragraph -/
theorem endFr_end (hE : LastE R) {i : Int} (h0 : 0 ≤ i) (h1 : i ≤ R.2.1) : i ≤ endFr R.1 R.2.1 i ∧ endFr R.1 R.2.1 i ≤ R.2.1 ∧ R.1 3 (endFr R.1 R.2.1 i) = -1 ∧ R.1 0 (endFr R.1 R.2.1 i) = 47 := by
  have a := endFr_le (F := R.1) (n := R.2.1) (i := i) ⟨h0, h1⟩
  refine ⟨a.1, a.2, ?_⟩
  rcases fstF_le (sendB R.1 R.2.1) R.2.1 (R.2.1 - i).toNat i with h | ⟨h2, h3, h4⟩
  · unfold endFr; rw [h]; exact hE.2.2
  · have := of_decide_eq_true h4
    exact ⟨this.2.2.1, this.2.2.2⟩
theorem ixEnd_end {p : Int} (hn : 0 ≤ R.2.1) (h : ixEnd R.1 R.2.1 p ≠ -1) : 0 ≤ ixEnd R.1 R.2.1 p ∧ ixEnd R.1 R.2.1 p ≤ R.2.1 ∧ R.1 3 (ixEnd R.1 R.2.1 p) = -1 ∧ R.1 0 (ixEnd R.1 R.2.1 p) = 47 := by
  rcases scan_le (sendB R.1 R.2.1) (R.2.1 + 1).toNat 0 p (by omega) with q | ⟨a, b, c⟩
  · exact absurd q h
  · have := of_decide_eq_true c
    exact ⟨a, this.2.1, this.2.2.1, this.2.2.2⟩
theorem endsA_N {i : Int} (h : i ≤ R.2.1) : endsA R.1 R.2.1 i = enN R i := by
  unfold endsA; rw [enN_cnt, show min i R.2.1 = i by omega]
/-- a paragraph there is, and none -/
theorem ixEnd_iff (hE : LastE R) {p : Int} : ixEnd R.1 R.2.1 p ≠ -1 ↔ 0 ≤ p ∧ p ≤ endsA R.1 R.2.1 R.2.1 := by
  rw [endsA_N (Int.le_refl _)]
  have hp := hE.par
  refine ⟨fun h => ?_, fun h => by have := enN_ixEnd (R := R) hE.1 h.1 (show p < enN R (R.2.1 + 1) by unfold parN at hp; omega); omega⟩
  by_cases h0 : p < 0
  · exact absurd (scan_neg _ _ _ _ h0) h
  · refine ⟨by omega, ?_⟩
    by_cases h1 : p ≤ enN R R.2.1
    · exact h1
    · exfalso
      have hx := ixEnd_end hE.1 h
      have h2 := scan_mono (sendB R.1 R.2.1) (R.2.1 + 1).toNat 0 (enN R R.2.1) p (by omega)
      have h3 := ixEnd_enN (R := R) hE.1 hE.send
      unfold ixEnd at h3
      rw [h3] at h2
      have h4 := h2 (by have := hE.1; omega) h (by omega)
      have h5 : ixEnd R.1 R.2.1 p = R.2.1 := by unfold ixEnd at hx ⊢; omega
      have h6 : ∀ (n : Nat) (i k : Int), 0 ≤ i → scan (sendB R.1 R.2.1) n i k ≠ -1 → cntF (sendB R.1 R.2.1) (scan (sendB R.1 R.2.1) n i k - i).toNat i = k := by
        intro n
        induction n with
        | zero => intro i k _ q; exact absurd rfl q
        | succ n ih =>
          intro i k hi q
          rw [scan] at q ⊢
          by_cases hp : sendB R.1 R.2.1 i = true
          · rw [if_pos hp] at q ⊢
            by_cases hk : k = 0
            · rw [if_pos hk, Int.sub_self, hk]; rfl
            · rw [if_neg hk] at q ⊢
              have z := (scan_le (sendB R.1 R.2.1) n (i + 1) (k - 1) (by omega)).resolve_left q
              rw [show (scan (sendB R.1 R.2.1) n (i + 1) (k - 1) - i).toNat = (scan (sendB R.1 R.2.1) n (i + 1) (k - 1) - (i + 1)).toNat + 1 by omega, cntF, if_pos hp, ih _ _ (by omega) q]; omega
          · rw [if_neg hp] at q ⊢
            have z := (scan_le (sendB R.1 R.2.1) n (i + 1) k (by omega)).resolve_left q
            rw [show (scan (sendB R.1 R.2.1) n (i + 1) k - i).toNat = (scan (sendB R.1 R.2.1) n (i + 1) k - (i + 1)).toNat + 1 by omega, cntF, if_neg hp, ih _ _ (by omega) q]; omega
      have h7 := h6 (R.2.1 + 1).toNat 0 p (by omega) h
      have h8 : scan (sendB R.1 R.2.1) (R.2.1 + 1).toNat 0 p = R.2.1 := h5
      rw [h8, Int.sub_zero, ← enN_cnt] at h7
      omega
theorem plOf_le2 {i : Int} : plOf R.1 R.2.1 i ≤ plOf R.1 R.2.1 R.2.1 := by
  unfold plOf
  rw [← show plN R (min i R.2.1) = cntF (leftB R.1) (min i R.2.1).toNat 0 from plN_cnt, ← show plN R (min R.2.1 R.2.1) = cntF (leftB R.1) (min R.2.1 R.2.1).toNat 0 from plN_cnt]
  exact plN_le (by omega)
/-- results are small; fields are few -/
def QW (Q : Int → Int) : Prop := ∀ c, 0 ≤ c → c < 20 → 0 ≤ Q c ∧ Q c ≤ 9999
def fcN (R : RowD) : Int := sumF (ind (fun j => decide (R.1 1 j ≠ -1))) (R.2.1 + 1).toNat
theorem dgF_le {q : Int} (h : q ≤ 999) : ∀ m : Nat, dgF m q ≤ 3 := by
  intro m
  match m with
  | 0 => rw [dgF]; omega
  | 1 => rw [dgF, dgF]; split <;> omega
  | 2 => rw [dgF, dgF, dgF]; split <;> (try split) <;> omega
  | 3 => rw [dgF, dgF, dgF, dgF]; split <;> (try split) <;> (try split) <;> omega
  | m + 4 =>
    rw [dgF]
    split
    · omega
    · rw [dgF]
      split
      · omega
      · rw [dgF]
        split
        · omega
        · rw [dgF, if_pos (by omega)]; omega
theorem sgS_bound (hQ : QW Q) (hE : LastE R) (hSg : SgW R) (hc : fcN R ≤ 20) : sgS R Q (R.2.1 + 1) ≤ 500 := by
  have : ∀ m : Nat, (m : Int) ≤ R.2.1 + 1 → sumF (sgn R Q) m ≤ m + 3 * sumF (ind (fun j => decide (R.1 1 j ≠ -1))) m := by
    intro m
    induction m with
    | zero => intro _; rw [sumF, sumF]; omega
    | succ m ih =>
      intro h
      have h1 := ih (by omega)
      have h2 : sgn R Q m ≤ 1 + 3 * ind (fun j => decide (R.1 1 j ≠ -1)) m := by
        have h3 := ind_nn (p := fun j => decide (R.1 1 j ≠ -1)) m
        unfold sgn
        split
        · omega
        · by_cases hf : R.1 1 m = -1
          · rw [if_pos hf]; omega
          · rw [if_neg hf, ind_t (decide_eq_true hf)]
            have h4 := (hSg m (by omega) (by omega)).resolve_left hf
            have h5 := hQ (R.1 1 m) h4.1 h4.2.1
            have h6 := dgF_le (q := Q (R.1 1 m) / 10) (by omega) 10
            omega
      rw [sumF, sumF]; omega
  have h := this (R.2.1 + 1).toNat (by have := hE.1; omega)
  have h9 := hE.2.1
  unfold fcN at hc
  unfold sgS
  omega
theorem mvP_le {h p t : Int} (hh : 0 < h) : p ≤ mvP h p t ∧ mvP h p t ≤ p + h := by
  unfold mvP
  have a := Int.emod_nonneg p (show h ≠ 0 by omega)
  have b := Int.emod_lt_of_pos p hh
  have c := Int.mul_ediv_add_emod p h
  rw [Int.mul_comm] at c
  split <;> omega
theorem psR_le (hn : 0 ≤ R.2.1) {w h : Int} (hw : 1 ≤ w) (hh : 0 < h) : ∀ m : Nat, (m : Int) ≤ parN R → 0 ≤ psR R Q KV w h m ∧ psR R Q KV w h m ≤ m * h + lsR R Q w m := by
  intro m
  induction m with
  | zero => intro _; exact ⟨Int.le_refl _, by show (0 : Int) ≤ ((0 : Nat) : Int) * h + 0; rw [show ((0 : Nat) : Int) = 0 from rfl, Int.zero_mul]; omega⟩
  | succ m ih =>
    intro hm
    have h1 := ih (by omega)
    have h2 := lsR_lt (R := R) (Q := Q) hn hw (q := m) (by omega) (by omega)
    rw [show ((m + 1 : Nat) : Int) = (m : Int) + 1 by omega]
    unfold psR at h1 ⊢
    rw [psI_s (by omega), Int.add_mul, Int.one_mul]
    unfold pgI pgF
    split
    · have h3 := mvP_le (p := psI (lsR R Q w) (kpF R KV) (parN R) h m) (t := togF (lsR R Q w) (kpF R KV) (parN R) m) hh
      omega
    · omega
theorem gpR_le (hE : LastE R) (hB : sgS R Q (R.2.1 + 1) ≤ 500) {w h u : Int} (hw : 1 ≤ w) (hh : 2 ≤ h ∧ h ≤ 40) (h0 : 0 ≤ u) (h1 : u ≤ R.2.1) : 0 ≤ gpR R Q KV w h u ∧ gpR R Q KV w h u ≤ 9500 := by
  obtain ⟨a1, a2, a3, a4, -⟩ := unit_fs (Q := Q) hE h0 h1
  have b := ofR_b hE hB hw h0 h1
  have c := psR_le (Q := Q) (KV := KV) hE.1 hw (show 0 < h by omega) (enN R u).toNat (by omega)
  rw [show (((enN R u).toNat : Nat) : Int) = enN R u by omega] at c
  have d := lsR_b (R := R) (Q := Q) hE.1 hw (q := enN R u + 1) (by omega) (by omega)
  have d2 := lsR_b (R := R) (Q := Q) hE.1 hw (q := enN R u) (by omega) (by omega)
  have e := fsF_S (R := R) (Q := Q) hE.1 (q := enN R u + 1) (by omega) (by omega)
  have f := enN_ub (R := R) h0
  have hE2 := hE.2.1
  have g : enN R u * h ≤ 200 * 40 := by
    have g1 : enN R u * h ≤ enN R u * 40 := Int.mul_le_mul_of_nonneg_left hh.2 a1
    have := hE.2.1
    omega
  unfold gpR pgR pgI pgF
  unfold psR at c
  split
  · have h3 := mvP_le (p := psI (lsR R Q w) (kpF R KV) (parN R) h (enN R u)) (t := togF (lsR R Q w) (kpF R KV) (parN R) (enN R u)) (show 0 < h by omega)
    omega
  · omega
theorem ctF_own (hE : EndW R) {e : Int} (he : 0 ≤ e ∧ e ≤ R.2.1) (hn : R.2.1 ≤ 200) : 0 ≤ ctF R e (R.1 8 e) ∧ ctF R e (R.1 8 e) ≤ 300 := ctF_le hE he hn _
end Places
