/-! Places, ends and bounds, said of the row alone. -/
section Places
variable {R : RowD} {Q KV : Int → Int}
theorem plOf_N {i : Int} (h : i ≤ R.2.1) : plOf R.1 R.2.1 i = plN R i := by
  unfold plOf; rw [plN_cnt, show min i R.2.1 = i by omega]
theorem seen_left {n i : Int} {F : Int → Int → Int} (h0 : 0 ≤ i) (h1 : i ≤ n) : seenB F n i = leftB F i := by
  unfold seenB leftB; exact decide_eq_decide.mpr (by omega)
/-- every place is that ahead of a unit -/
theorem place_ix (hE : LastE R) {p : Int} (h0 : 0 ≤ p) (h1 : p ≤ plOf R.1 R.2.1 R.2.1) : 0 ≤ ixOf R.1 R.2.1 p ∧ ixOf R.1 R.2.1 p ≤ R.2.1 ∧ R.1 3 (ixOf R.1 R.2.1 p) = -1 ∧ plN R (ixOf R.1 R.2.1 p) = p := by
  rw [plOf_N (Int.le_refl _)] at h1
  have e : cntF (seenB R.1 R.2.1) (R.2.1 + 1).toNat 0 = plN R R.2.1 + 1 := by
    rw [cntF_congr (q := leftB R.1) _ _ (fun j a b => seen_left a (by omega)), cntF_sum]
    have := plN_s (R := R) hE.1
    rw [ind_t (decide_eq_true hE.2.2.1)] at this
    exact this
  obtain ⟨a, b, c, d⟩ := scan_ex (p := seenB R.1 R.2.1) (R.2.1 + 1).toNat 0 p h0 (by omega)
  have b' : ixOf R.1 R.2.1 p ≤ R.2.1 := by unfold ixOf; omega
  refine ⟨a, b', (seen_iff a b').mp c, ?_⟩
  rw [plN_cnt]
  rw [Int.sub_zero, cntF_congr (q := leftB R.1) _ _ (fun j x y => seen_left x (by unfold ixOf at b'; omega))] at d
  exact d
/-- the end of a paragraph -/
theorem endFr_end (hE : LastE R) {i : Int} (h0 : 0 ≤ i) (h1 : i ≤ R.2.1) : i ≤ endFr R.1 R.2.1 i ∧ endFr R.1 R.2.1 i ≤ R.2.1 ∧ R.1 3 (endFr R.1 R.2.1 i) = -1 ∧ R.1 0 (endFr R.1 R.2.1 i) = 47 := by
  have a := endFr_le (F := R.1) (n := R.2.1) (i := i) ⟨h0, h1⟩
  refine ⟨a.1, a.2, ?_⟩
  rcases fstF_le (sendB R.1 R.2.1) R.2.1 (R.2.1 - i).toNat i with h | ⟨h2, h3, h4⟩
  · unfold endFr; rw [h]; exact hE.2.2
  · have := of_decide_eq_true h4
    exact ⟨this.2.2.1, this.2.2.2⟩
/-- results are small; fields are few -/
def QW (Q : Int → Int) : Prop := ∀ c, 0 ≤ c → c < 20 → 0 ≤ Q c ∧ Q c ≤ 9999
def fcN (R : RowD) : Int := sumF (ind (fun j => decide (R.1 1 j ≠ -1))) (R.2.1 + 1).toNat
theorem dgF_le {q : Int} (h : q ≤ 999) : ∀ m : Nat, dgF m q ≤ 3 := by
  intro m
  match m with
  | 0 => rw [dgF]; omega
  | 1 => rw [dgF, dgF]; split <;> omega
  | 2 => rw [dgF, dgF, dgF]; split <;> (try split) <;> omega
  | 3 => rw [dgF, dgF, dgF, dgF]; split <;> (try split) <;> (try split) <;> omega
  | m + 4 =>
    rw [dgF]
    split
    · omega
    · rw [dgF]
      split
      · omega
      · rw [dgF]
        split
        · omega
        · rw [dgF, if_pos (by omega)]; omega
theorem sgS_bound (hQ : QW Q) (hE : LastE R) (hSg : SgW R) (hc : fcN R ≤ 20) : sgS R Q (R.2.1 + 1) ≤ 500 := by
  have : ∀ m : Nat, (m : Int) ≤ R.2.1 + 1 → sumF (sgn R Q) m ≤ m + 3 * sumF (ind (fun j => decide (R.1 1 j ≠ -1))) m := by
    intro m
    induction m with
    | zero => intro _; rw [sumF, sumF]; omega
    | succ m ih =>
      intro h
      have h1 := ih (by omega)
      have h2 : sgn R Q m ≤ 1 + 3 * ind (fun j => decide (R.1 1 j ≠ -1)) m := by
        have h3 := ind_nn (p := fun j => decide (R.1 1 j ≠ -1)) m
        unfold sgn
        split
        · omega
        · by_cases hf : R.1 1 m = -1
          · rw [if_pos hf]; omega
          · rw [if_neg hf, ind_t (decide_eq_true hf)]
            have h4 := (hSg m (by omega) (by omega)).resolve_left hf
            have h5 := hQ (R.1 1 m) h4.1 h4.2.1
            have h6 := dgF_le (q := Q (R.1 1 m) / 10) (by omega) 10
            omega
      rw [sumF, sumF]; omega
  have h := this (R.2.1 + 1).toNat (by have := hE.1; omega)
  have h9 := hE.2.1
  unfold fcN at hc
  unfold sgS
  omega
theorem mvP_le {h p t : Int} (hh : 0 < h) : p ≤ mvP h p t ∧ mvP h p t ≤ p + h := by
  unfold mvP
  have a := Int.emod_nonneg p (show h ≠ 0 by omega)
  have b := Int.emod_lt_of_pos p hh
  have c := Int.mul_ediv_add_emod p h
  rw [Int.mul_comm] at c
  split <;> omega
theorem psR_le (hn : 0 ≤ R.2.1) {w h : Int} (hw : 1 ≤ w) (hh : 0 < h) : ∀ m : Nat, (m : Int) ≤ parN R → 0 ≤ psR R Q KV w h m ∧ psR R Q KV w h m ≤ m * h + lsR R Q w m := by
  intro m
  induction m with
  | zero => intro _; exact ⟨Int.le_refl _, by show (0 : Int) ≤ ((0 : Nat) : Int) * h + 0; rw [show ((0 : Nat) : Int) = 0 from rfl, Int.zero_mul]; omega⟩
  | succ m ih =>
    intro hm
    have h1 := ih (by omega)
    have h2 := lsR_lt (R := R) (Q := Q) hn hw (q := m) (by omega) (by omega)
    rw [show ((m + 1 : Nat) : Int) = (m : Int) + 1 by omega]
    unfold psR at h1 ⊢
    rw [psI_s (by omega), Int.add_mul, Int.one_mul]
    unfold pgI pgF
    split
    · have h3 := mvP_le (p := psI (lsR R Q w) (kpF R KV) (parN R) h m) (t := togF (lsR R Q w) (kpF R KV) (parN R) m) hh
      omega
    · omega
theorem gpR_le (hE : LastE R) (hB : sgS R Q (R.2.1 + 1) ≤ 500) {w h u : Int} (hw : 1 ≤ w) (hh : 2 ≤ h ∧ h ≤ 40) (h0 : 0 ≤ u) (h1 : u ≤ R.2.1) : 0 ≤ gpR R Q KV w h u ∧ gpR R Q KV w h u ≤ 9500 := by
  obtain ⟨a1, a2, a3, a4, -⟩ := unit_fs (Q := Q) hE h0 h1
  have b := ofR_b hE hB hw h0 h1
  have c := psR_le (Q := Q) (KV := KV) hE.1 hw (show 0 < h by omega) (enN R u).toNat (by omega)
  rw [show (((enN R u).toNat : Nat) : Int) = enN R u by omega] at c
  have d := lsR_b (R := R) (Q := Q) hE.1 hw (q := enN R u + 1) (by omega) (by omega)
  have d2 := lsR_b (R := R) (Q := Q) hE.1 hw (q := enN R u) (by omega) (by omega)
  have e := fsF_S (R := R) (Q := Q) hE.1 (q := enN R u + 1) (by omega) (by omega)
  have f := enN_ub (R := R) h0
  have hE2 := hE.2.1
  have g : enN R u * h ≤ 200 * 40 := by
    have g1 : enN R u * h ≤ enN R u * 40 := Int.mul_le_mul_of_nonneg_left hh.2 a1
    have := hE.2.1
    omega
  unfold gpR pgR pgI pgF
  unfold psR at c
  split
  · have h3 := mvP_le (p := psI (lsR R Q w) (kpF R KV) (parN R) h (enN R u)) (t := togF (lsR R Q w) (kpF R KV) (parN R) (enN R u)) (show 0 < h by omega)
    omega
  · omega
end Places
