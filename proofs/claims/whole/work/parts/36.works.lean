/-! Fields are worked out; pages are asked. -/
section Works
variable {σ : St}
/-- a paper that can be laid out -/
def LayP (D : PapD) : Prop := LastE D.1 ∧ QW D.2.2 ∧ SgW D.1 ∧ fcN D.1 ≤ 20 ∧ EndW D.1
/-- the pages of a paper -/
def pgsF (R : RowD) (Q KV : Int → Int) (w h : Int) : Int := (psR R Q KV w h (parN R) - 1) / h + 1
theorem LayP.b {D : PapD} (h : LayP D) : sgS D.1 D.2.2 (D.1.2.1 + 1) ≤ 500 := sgS_bound h.2.1 h.1 h.2.2.1 h.2.2.2.1
theorem con_arrangeNow (hS : Str σ.2.1) {pi : Nat → Nat} {A : PastD} (hA : PastR σ pi A) (hW : WH σ) (hP : LayP (A.1 A.2.1)) : ∃ σ', Con 5 mX9_arrange 0 0 [vA 0] σ (vT 8 0, σ') ∧ σ'.2 = σ.2 ∧ (∀ x j : Nat, ¬ (x = 99 ∨ x = 100 ∨ x = 101 ∨ x = 102 ∨ x = 103 ∨ x = 104 ∨ x = 105 ∨ x = 106 ∨ x = 107 ∨ (x = 98 ∧ 11 ≤ j ∧ j ≤ 15)) → σ'.1 x j = σ.1 x j) ∧ LayR σ' (A.1 A.2.1).1 (A.1 A.2.1).2.2 (KVs σ) (σ.1 98 0) (σ.1 98 1) := by
  obtain ⟨hp, hd, hu, hle, hrep⟩ := id hA
  have hk7 := (hp.1 A.2.1 (by omega)).2
  have hk : pi A.2.1 < 8 := by omega
  have hD := hrep A.2.1 (by omega)
  have hR := hD.1
  have hL := hD.2.1.2.2.1
  have hn := hR.1
  obtain ⟨hw1, hw2, hw3⟩ := hR.2.2.2
  have hm := hD.2.1.1
  obtain ⟨l1, l2, l3⟩ := hD.2.1.2.2.2
  obtain ⟨g1, g2, g3, g4, g5, g6, g7, g8, g9, g10⟩ := gamk _ hk
  obtain ⟨p1, p2, p3, p4, p5, p6, p7, p8, p9⟩ := strk hS _ hk
  obtain ⟨σ', c1, c2⟩ := con_layArrange hS hk hR hW hP.1 (Q := (A.1 A.2.1).2.2) (fun c a b => ⟨hD.2.2 c a b, (hP.2.1 c a b).1⟩) hP.2.2.1 hP.b
  refine ⟨σ', ?_, c2⟩
  refine con_of_go mfX9_arrange.1 trivial (Nat.le_of_ble_eq_true rfl) rfl (by decide) ?_
  show Go _ _ _ _ 0 [vA _, vT 9 0] [] _ _
  refine go_aload_n (at_of tX9_arrange 0 0 rfl) rfl ?_
  refine go_getr (q := 1) fl_X9_16 rfl G_0 ((hS _ _ rfl).trans rfl) (at_of tX9_arrange 0 1 rfl) ?_
  refine go_cV (con_now hS hA) lk_X9_114 rfl g1_ (at_of tX9_arrange 0 2 rfl) rfl (by decide) rfl (Nat.le_of_ble_eq_true rfl) rfl (by first | decide | exact ⟨Nat.zero_le _, Nat.zero_le _⟩) ?_
  refine go_astore_n (at_of tX9_arrange 0 3 rfl) rfl rfl ?_
  refine go_aload_n (at_of tX9_arrange 0 4 rfl) rfl ?_
  refine go_getr (q := 98) fl_X9_58 rfl G_0 ((hS _ _ rfl).trans rfl) (at_of tX9_arrange 0 5 rfl) ?_
  refine go_aload_n (at_of tX9_arrange 0 6 rfl) rfl ?_
  refine go_getr (q := (4 + 10 * pi A.2.1)) fl_X9_131 rfl g1 p1 (at_of tX9_arrange 0 7 rfl) ?_
  refine go_aload_n (at_of tX9_arrange 0 8 rfl) rfl ?_
  refine go_getr (q := (12 + 10 * pi A.2.1)) fl_X9_348 rfl g1 p3 (at_of tX9_arrange 0 9 rfl) ?_
  refine go_aload_n (at_of tX9_arrange 0 10 rfl) rfl ?_
  refine go_getr (q := 83) fl_X9_30 rfl G_0 ((hS _ _ rfl).trans rfl) (at_of tX9_arrange 0 11 rfl) ?_
  refine go_cV (c1) lk_X9_459 rfl G_98 (at_of tX9_arrange 0 12 rfl) rfl (by decide) rfl (Nat.le_of_ble_eq_true rfl) rfl (by first | decide | exact ⟨Nat.zero_le _, Nat.zero_le _⟩) ?_
  exact go_retv (at_of tX9_arrange 0 13 rfl) rfl
theorem Lay_past {σ' : St} {pi : Nat → Nat} {A : PastD} (hA : PastR σ pi A) (h2 : σ'.2 = σ.2) (h1 : ∀ x j : Nat, ¬ (x = 99 ∨ x = 100 ∨ x = 101 ∨ x = 102 ∨ x = 103 ∨ x = 104 ∨ x = 105 ∨ x = 106 ∨ x = 107 ∨ (x = 98 ∧ 11 ≤ j ∧ j ≤ 15)) → σ'.1 x j = σ.1 x j) : PastR σ' pi A :=
  past_frm hA (lo := 98) (hi := 107) ⟨h2, fun a h j => h1 a j (by omega)⟩ (by omega)
theorem ok_pages (hS : Str σ.2.1) {pi : Nat → Nat} {A : PastD} (hA : PastR σ pi A) (hW : WH σ) (hP : LayP (A.1 A.2.1)) : ∃ σ', Con 6 mX9_pages 0 0 [vA 0] σ (vI (pgsF (A.1 A.2.1).1 (A.1 A.2.1).2.2 (KVs σ) (σ.1 98 0) (σ.1 98 1)), σ') ∧ σ'.2 = σ.2 ∧ (∀ x j : Nat, ¬ (x = 99 ∨ x = 100 ∨ x = 101 ∨ x = 102 ∨ x = 103 ∨ x = 104 ∨ x = 105 ∨ x = 106 ∨ x = 107 ∨ (x = 98 ∧ 11 ≤ j ∧ j ≤ 15)) → σ'.1 x j = σ.1 x j) := by
  unfold pgsF
  obtain ⟨σ', c1, c2, c3, c4⟩ := con_arrangeNow hS hA hW hP
  refine ⟨σ', ?_, c2, c3⟩
  have hS1 : Str σ'.2.1 := by rw [c2]; exact hS
  have ew : σ'.1 98 0 = σ.1 98 0 := c3 _ _ (by omega)
  have eh : σ'.1 98 1 = σ.1 98 1 := c3 _ _ (by omega)
  have hW1 : WH σ' := ⟨by rw [ew]; exact hW.1, by rw [ew]; exact hW.2.1, by rw [eh]; exact hW.2.2.1, by rw [eh]; exact hW.2.2.2⟩
  have cm := con_manyPagesR hS1 hW1 (R := (A.1 A.2.1).1) (Q := (A.1 A.2.1).2.2) (KV := KVs σ) (w := σ.1 98 0) (by rw [eh]; exact c4)
  rw [eh] at cm
  refine con_of_go mfX9_pages.1 trivial (Nat.le_of_ble_eq_true rfl) rfl (by decide) ?_
  show Go _ _ _ _ 0 [vA _] [] _ _
  refine go_aload_n (at_of tX9_pages 0 0 rfl) rfl ?_
  refine go_cV (c1) lk_X9_366 rfl G_0 (at_of tX9_pages 0 1 rfl) rfl (by decide) rfl (Nat.le_of_ble_eq_true rfl) rfl (by first | decide | exact ⟨Nat.zero_le _, Nat.zero_le _⟩) ?_
  refine go_aload_n (at_of tX9_pages 0 2 rfl) rfl ?_
  refine go_getr (q := 98) fl_X9_58 rfl G_0 ((hS1 _ _ rfl).trans rfl) (at_of tX9_pages 0 3 rfl) ?_
  refine go_cV (cm) lk_X9_369 rfl G_98 (at_of tX9_pages 0 4 rfl) rfl (by decide) rfl (Nat.le_of_ble_eq_true rfl) rfl (by first | decide | exact ⟨Nat.zero_le _, Nat.zero_le _⟩) ?_
  first | exact go_reti (at_of tX9_pages 0 5 rfl) rfl | exact go_reti (at_of tX9_pages 0 5 rfl) (le_i (by omega)) | exact go_reti (at_of tX9_pages 0 5 rfl) (le_i (by first | exact bI_t (by omega) | exact bI_f (by omega)))
theorem ok_pageOf (hS : Str σ.2.1) {pi : Nat → Nat} {A : PastD} (hA : PastR σ pi A) (hW : WH σ) (hP : LayP (A.1 A.2.1)) {p : Int} (h2 : ixOf (A.1 A.2.1).1.1 (A.1 A.2.1).1.2.1 p ≠ -1) : ∃ σ', Con 6 mX9_pageOf 0 0 [vA 0, vI p] σ (vI (gpR (A.1 A.2.1).1 (A.1 A.2.1).2.2 (KVs σ) (σ.1 98 0) (σ.1 98 1) (ixOf (A.1 A.2.1).1.1 (A.1 A.2.1).1.2.1 p) / σ.1 98 1), σ') ∧ σ'.2 = σ.2 ∧ (∀ x j : Nat, ¬ (x = 99 ∨ x = 100 ∨ x = 101 ∨ x = 102 ∨ x = 103 ∨ x = 104 ∨ x = 105 ∨ x = 106 ∨ x = 107 ∨ (x = 98 ∧ 11 ≤ j ∧ j ≤ 15)) → σ'.1 x j = σ.1 x j) := by
  obtain ⟨σ', c1, c2, c3, c4⟩ := con_arrangeNow hS hA hW hP
  refine ⟨σ', ?_, c2, c3⟩
  have hS1 : Str σ'.2.1 := by rw [c2]; exact hS
  have ew : σ'.1 98 0 = σ.1 98 0 := c3 _ _ (by omega)
  have eh : σ'.1 98 1 = σ.1 98 1 := c3 _ _ (by omega)
  have hW1 : WH σ' := ⟨by rw [ew]; exact hW.1, by rw [ew]; exact hW.2.1, by rw [eh]; exact hW.2.2.1, by rw [eh]; exact hW.2.2.2⟩
  have hx := (ixOf_iff hP.1).mp h2
  obtain ⟨u1, u2, u3, u4⟩ := place_ix hP.1 hx.1 hx.2
  have cm := con_pageAt hS1 hW.1 hW.2.2.1 hP.1 hP.b c4 ⟨u1, u2, u3⟩ u4
  refine con_of_go mfX9_pageOf.1 trivial (Nat.le_of_ble_eq_true rfl) rfl (by decide) ?_
  show Go _ _ _ _ 0 [vA _, vI _] [] _ _
  refine go_aload_n (at_of tX9_pageOf 0 0 rfl) rfl ?_
  refine go_iload_n (at_of tX9_pageOf 0 1 rfl) rfl ?_
  refine go_cV (ok_Place hS hA h2) lk_X9_70 rfl G_0 (at_of tX9_pageOf 0 2 rfl) rfl (by decide) rfl (Nat.le_of_ble_eq_true rfl) rfl (by first | decide | exact ⟨Nat.zero_le _, Nat.zero_le _⟩) ?_
  refine go_pop (at_of tX9_pageOf 0 3 rfl) rfl ?_
  refine go_aload_n (at_of tX9_pageOf 0 4 rfl) rfl ?_
  refine go_cV (c1) lk_X9_366 rfl G_0 (at_of tX9_pageOf 0 5 rfl) rfl (by decide) rfl (Nat.le_of_ble_eq_true rfl) rfl (by first | decide | exact ⟨Nat.zero_le _, Nat.zero_le _⟩) ?_
  refine go_aload_n (at_of tX9_pageOf 0 6 rfl) rfl ?_
  refine go_getr (q := 98) fl_X9_58 rfl G_0 ((hS1 _ _ rfl).trans rfl) (at_of tX9_pageOf 0 7 rfl) ?_
  refine go_iload_n (at_of tX9_pageOf 0 8 rfl) rfl ?_
  refine go_cV (cm) lk_X9_372 rfl G_98 (at_of tX9_pageOf 0 9 rfl) rfl (by decide) rfl (Nat.le_of_ble_eq_true rfl) rfl (by first | decide | exact ⟨Nat.zero_le _, Nat.zero_le _⟩) ?_
  first | exact go_reti (at_of tX9_pageOf 0 10 rfl) rfl | exact go_reti (at_of tX9_pageOf 0 10 rfl) (le_i (by omega)) | exact go_reti (at_of tX9_pageOf 0 10 rfl) (le_i (by first | exact bI_t (by omega) | exact bI_f (by omega)))
theorem th0_pageOf (hS : Str σ.2.1) {pi : Nat → Nat} {A : PastD} (hA : PastR σ pi A) {p : Int} (h2 : ixOf (A.1 A.2.1).1.1 (A.1 A.2.1).1.2.1 p = -1) : Con 6 mX9_pageOf 1 6 [vA 0, vI p] σ (vT 20 0, σ) := by
  refine con_of_go mfX9_pageOf.1 (Nat.le_of_ble_eq_true rfl) (Nat.le_of_ble_eq_true rfl) rfl (by decide) ?_
  show Go _ _ _ _ 0 [vA _, vI _] [] _ _
  refine go_aload_n (at_of tX9_pageOf 0 0 rfl) rfl ?_
  refine go_iload_n (at_of tX9_pageOf 0 1 rfl) rfl ?_
  exact go_tV (i := 0) (th_Place hS hA h2) lk_X9_70 rfl G_0 (at_of tX9_pageOf 0 2 rfl) rfl rfl (by decide) rfl (Nat.le_of_ble_eq_true rfl) rfl ⟨by decide, by decide⟩
theorem ok_lineOf (hS : Str σ.2.1) {pi : Nat → Nat} {A : PastD} (hA : PastR σ pi A) (hW : WH σ) (hP : LayP (A.1 A.2.1)) {p : Int} (h2 : ixOf (A.1 A.2.1).1.1 (A.1 A.2.1).1.2.1 p ≠ -1) : ∃ σ', Con 6 mX9_lineOf 0 0 [vA 0, vI p] σ (vI (gpR (A.1 A.2.1).1 (A.1 A.2.1).2.2 (KVs σ) (σ.1 98 0) (σ.1 98 1) (ixOf (A.1 A.2.1).1.1 (A.1 A.2.1).1.2.1 p) % σ.1 98 1), σ') ∧ σ'.2 = σ.2 ∧ (∀ x j : Nat, ¬ (x = 99 ∨ x = 100 ∨ x = 101 ∨ x = 102 ∨ x = 103 ∨ x = 104 ∨ x = 105 ∨ x = 106 ∨ x = 107 ∨ (x = 98 ∧ 11 ≤ j ∧ j ≤ 15)) → σ'.1 x j = σ.1 x j) := by
  obtain ⟨σ', c1, c2, c3, c4⟩ := con_arrangeNow hS hA hW hP
  refine ⟨σ', ?_, c2, c3⟩
  have hS1 : Str σ'.2.1 := by rw [c2]; exact hS
  have ew : σ'.1 98 0 = σ.1 98 0 := c3 _ _ (by omega)
  have eh : σ'.1 98 1 = σ.1 98 1 := c3 _ _ (by omega)
  have hW1 : WH σ' := ⟨by rw [ew]; exact hW.1, by rw [ew]; exact hW.2.1, by rw [eh]; exact hW.2.2.1, by rw [eh]; exact hW.2.2.2⟩
  have hx := (ixOf_iff hP.1).mp h2
  obtain ⟨u1, u2, u3, u4⟩ := place_ix hP.1 hx.1 hx.2
  have cm := con_lineAtPlace hS1 hW.1 hW.2.2.1 hP.1 hP.b c4 ⟨u1, u2, u3⟩ u4
  refine con_of_go mfX9_lineOf.1 trivial (Nat.le_of_ble_eq_true rfl) rfl (by decide) ?_
  show Go _ _ _ _ 0 [vA _, vI _] [] _ _
  refine go_aload_n (at_of tX9_lineOf 0 0 rfl) rfl ?_
  refine go_iload_n (at_of tX9_lineOf 0 1 rfl) rfl ?_
  refine go_cV (ok_Place hS hA h2) lk_X9_70 rfl G_0 (at_of tX9_lineOf 0 2 rfl) rfl (by decide) rfl (Nat.le_of_ble_eq_true rfl) rfl (by first | decide | exact ⟨Nat.zero_le _, Nat.zero_le _⟩) ?_
  refine go_pop (at_of tX9_lineOf 0 3 rfl) rfl ?_
  refine go_aload_n (at_of tX9_lineOf 0 4 rfl) rfl ?_
  refine go_cV (c1) lk_X9_366 rfl G_0 (at_of tX9_lineOf 0 5 rfl) rfl (by decide) rfl (Nat.le_of_ble_eq_true rfl) rfl (by first | decide | exact ⟨Nat.zero_le _, Nat.zero_le _⟩) ?_
  refine go_aload_n (at_of tX9_lineOf 0 6 rfl) rfl ?_
  refine go_getr (q := 98) fl_X9_58 rfl G_0 ((hS1 _ _ rfl).trans rfl) (at_of tX9_lineOf 0 7 rfl) ?_
  refine go_iload_n (at_of tX9_lineOf 0 8 rfl) rfl ?_
  refine go_cV (cm) lk_X9_375 rfl G_98 (at_of tX9_lineOf 0 9 rfl) rfl (by decide) rfl (Nat.le_of_ble_eq_true rfl) rfl (by first | decide | exact ⟨Nat.zero_le _, Nat.zero_le _⟩) ?_
  first | exact go_reti (at_of tX9_lineOf 0 10 rfl) rfl | exact go_reti (at_of tX9_lineOf 0 10 rfl) (le_i (by omega)) | exact go_reti (at_of tX9_lineOf 0 10 rfl) (le_i (by first | exact bI_t (by omega) | exact bI_f (by omega)))
theorem th0_lineOf (hS : Str σ.2.1) {pi : Nat → Nat} {A : PastD} (hA : PastR σ pi A) {p : Int} (h2 : ixOf (A.1 A.2.1).1.1 (A.1 A.2.1).1.2.1 p = -1) : Con 6 mX9_lineOf 1 6 [vA 0, vI p] σ (vT 20 0, σ) := by
  refine con_of_go mfX9_lineOf.1 (Nat.le_of_ble_eq_true rfl) (Nat.le_of_ble_eq_true rfl) rfl (by decide) ?_
  show Go _ _ _ _ 0 [vA _, vI _] [] _ _
  refine go_aload_n (at_of tX9_lineOf 0 0 rfl) rfl ?_
  refine go_iload_n (at_of tX9_lineOf 0 1 rfl) rfl ?_
  exact go_tV (i := 0) (th_Place hS hA h2) lk_X9_70 rfl G_0 (at_of tX9_lineOf 0 2 rfl) rfl rfl (by decide) rfl (Nat.le_of_ble_eq_true rfl) rfl ⟨by decide, by decide⟩
/-- a unit's line lies ahead of the end of all lines -/
theorem psR_mono {R : RowD} {Q KV : Int → Int} (hn : 0 ≤ R.2.1) {w h : Int} (hw : 5 ≤ w) (hh : 2 ≤ h) : ∀ (d : Nat) (q : Int), 0 ≤ q → q + d ≤ parN R → psR R Q KV w h q ≤ psR R Q KV w h (q + d) := by
  intro d
  induction d with
  | zero => intro q _ _; rw [show q + ((0 : Nat) : Int) = q by omega]; exact Int.le_refl _
  | succ d ih =>
    intro q h0 h1
    have h2 := ih q h0 (by omega)
    have h3 := lsR_lt (R := R) (Q := Q) hn (w := w) (by omega) (q := q + d) (by omega) (by omega)
    rw [show q + ((d + 1 : Nat) : Int) = q + d + 1 by omega]
    unfold psR at h2 ⊢
    rw [psI_s (by omega)]
    unfold pgI pgF
    have h4 := mvP_le (p := psI (lsR R Q w) (kpF R KV) (parN R) h (q + d)) (t := togF (lsR R Q w) (kpF R KV) (parN R) (q + d)) (show 0 < h by omega)
    split <;> omega
theorem gpR_lt {R : RowD} {Q KV : Int → Int} (hE : LastE R) (hB : sgS R Q (R.2.1 + 1) ≤ 500) {w h u : Int} (hw : 5 ≤ w) (hh : 2 ≤ h) (h0 : 0 ≤ u) (h1 : u ≤ R.2.1) : gpR R Q KV w h u ≤ psR R Q KV w h (parN R) - 1 := by
  obtain ⟨a1, a2, -⟩ := unit_fs (Q := Q) hE h0 h1
  have b := ofR_b hE hB (w := w) (by omega) h0 h1
  have c := psR_mono (Q := Q) (KV := KV) hE.1 hw hh (parN R - (enN R u + 1)).toNat (enN R u + 1) (by omega) (by omega)
  rw [show enN R u + 1 + (((parN R - (enN R u + 1)).toNat : Nat) : Int) = parN R by omega] at c
  have d : psR R Q KV w h (enN R u + 1) = pgR R Q KV w h (enN R u) + (lsR R Q w (enN R u + 1) - lsR R Q w (enN R u)) := psI_s a1
  unfold gpR
  omega
theorem ok_isEachPlaceOnPage (hS : Str σ.2.1) {pi : Nat → Nat} {A : PastD} (hA : PastR σ pi A) (hW : WH σ) (hP : LayP (A.1 A.2.1)) : ∃ σ', Con 6 mX9_isEachPlaceOnPage 0 0 [vA 0] σ (vI 1, σ') ∧ σ'.2 = σ.2 ∧ (∀ x j : Nat, ¬ (x = 99 ∨ x = 100 ∨ x = 101 ∨ x = 102 ∨ x = 103 ∨ x = 104 ∨ x = 105 ∨ x = 106 ∨ x = 107 ∨ (x = 98 ∧ 11 ≤ j ∧ j ≤ 15)) → σ'.1 x j = σ.1 x j) := by
  obtain ⟨σ', c1, c2, c3, c4⟩ := con_arrangeNow hS hA hW hP
  refine ⟨σ', ?_, c2, c3⟩
  have hA1 := Lay_past hA c2 c3
  have hS1 : Str σ'.2.1 := by rw [c2]; exact hS
  have ew : σ'.1 98 0 = σ.1 98 0 := c3 _ _ (by omega)
  have eh : σ'.1 98 1 = σ.1 98 1 := c3 _ _ (by omega)
  have hW1 : WH σ' := ⟨by rw [ew]; exact hW.1, by rw [ew]; exact hW.2.1, by rw [eh]; exact hW.2.2.1, by rw [eh]; exact hW.2.2.2⟩
  obtain ⟨hp, hd, hu, hle, hrep⟩ := id hA1
  have hk7 := (hp.1 A.2.1 (by omega)).2
  have hk : pi A.2.1 < 8 := by omega
  have hD := hrep A.2.1 (by omega)
  have hR := hD.1
  have hL := hD.2.1.2.2.1
  have hn := hR.1
  obtain ⟨hw1, hw2, hw3⟩ := hR.2.2.2
  have hm := hD.2.1.1
  obtain ⟨l1, l2, l3⟩ := hD.2.1.2.2.2
  obtain ⟨g1, g2, g3, g4, g5, g6, g7, g8, g9, g10⟩ := gamk _ hk
  obtain ⟨p1, p2, p3, p4, p5, p6, p7, p8, p9⟩ := strk hS1 _ hk
  have cm := con_manyPagesR hS1 hW1 (R := (A.1 A.2.1).1) (Q := (A.1 A.2.1).2.2) (KV := KVs σ) (w := σ.1 98 0) (by rw [eh]; exact c4)
  rw [eh] at cm
  have hw := hW.1
  have hh := hW.2.2.1
  have hpl := plOf_le (F := (A.1 A.2.1).1.1) (n := (A.1 A.2.1).1.2.1) (i := (A.1 A.2.1).1.2.1)
  have hn2 := hP.1.2.1
  have key : ∀ (m : Nat) (b : Nat × Nat) (p : Int), 0 ≤ p → p + m = plOf (A.1 A.2.1).1.1 (A.1 A.2.1).1.2.1 (A.1 A.2.1).1.2.1 + 1 → Go (fun _ => 0) 6 mX9_isEachPlaceOnPage b 20 [vA 0, vI (plOf (A.1 A.2.1).1.1 (A.1 A.2.1).1.2.1 (A.1 A.2.1).1.2.1), vI p] [] σ' (vI 1, σ') := by
    intro m
    induction m with
    | zero =>
      intro b p h0 h1
      refine go_iload_n (at_of tX9_isEachPlaceOnPage 0 10 rfl) rfl ?_
      refine go_iload_n (at_of tX9_isEachPlaceOnPage 0 11 rfl) rfl ?_
      refine go_icmp_gt (tgt := 54) (at_of tX9_isEachPlaceOnPage 0 12 rfl) (by decide) (fun h22 => ?_) (fun h22 => ?_)
      rotate_left
      · exfalso; omega
      refine go_iconst (at_of tX9_isEachPlaceOnPage 1 10 rfl) (by unfold in32; omega) ?_
      first | exact go_reti (at_of tX9_isEachPlaceOnPage 1 11 rfl) rfl | exact go_reti (at_of tX9_isEachPlaceOnPage 1 11 rfl) (le_i (by omega)) | exact go_reti (at_of tX9_isEachPlaceOnPage 1 11 rfl) (le_i (by first | exact bI_t (by omega) | exact bI_f (by omega)))
    | succ m ih =>
      intro b p h0 h1
      obtain ⟨u1, u2, u3, u4⟩ := place_ix hP.1 h0 (show p ≤ plOf (A.1 A.2.1).1.1 (A.1 A.2.1).1.2.1 (A.1 A.2.1).1.2.1 by omega)
      have cl := con_pageAt hS1 hW.1 hW.2.2.1 hP.1 hP.b c4 ⟨u1, u2, u3⟩ u4
      have g := gpR_le hP.1 hP.b (KV := KVs σ) (w := σ.1 98 0) (h := σ.1 98 1) (by omega) ⟨hh, hW.2.2.2⟩ u1 u2
      have hb : 0 ≤ gpR (A.1 A.2.1).1 (A.1 A.2.1).2.2 (KVs σ) (σ.1 98 0) (σ.1 98 1) (ixOf (A.1 A.2.1).1.1 (A.1 A.2.1).1.2.1 p) / σ.1 98 1 ∧ gpR (A.1 A.2.1).1 (A.1 A.2.1).2.2 (KVs σ) (σ.1 98 0) (σ.1 98 1) (ixOf (A.1 A.2.1).1.1 (A.1 A.2.1).1.2.1 p) / σ.1 98 1 < (psR (A.1 A.2.1).1 (A.1 A.2.1).2.2 (KVs σ) (σ.1 98 0) (σ.1 98 1) (parN (A.1 A.2.1).1) - 1) / σ.1 98 1 + 1 := by
        refine ⟨Int.ediv_nonneg g.1 (by omega), ?_⟩
        refine Int.lt_of_le_of_lt (b := (psR (A.1 A.2.1).1 (A.1 A.2.1).2.2 (KVs σ) (σ.1 98 0) (σ.1 98 1) (parN (A.1 A.2.1).1) - 1) / σ.1 98 1) (Int.ediv_le_ediv (by omega) ?_) (by omega)
        exact gpR_lt hP.1 hP.b hw hh u1 u2
      refine go_iload_n (at_of tX9_isEachPlaceOnPage 0 10 rfl) rfl ?_
      refine go_iload_n (at_of tX9_isEachPlaceOnPage 0 11 rfl) rfl ?_
      refine go_icmp_gt (tgt := 54) (at_of tX9_isEachPlaceOnPage 0 12 rfl) (by decide) (fun h22 => ?_) (fun h22 => ?_)
      · exfalso; omega
      refine go_aload_n (at_of tX9_isEachPlaceOnPage 0 13 rfl) rfl ?_
      refine go_getr (q := 98) fl_X9_58 rfl G_0 ((hS1 _ _ rfl).trans rfl) (at_of tX9_isEachPlaceOnPage 0 14 rfl) ?_
      refine go_iload_n (at_of tX9_isEachPlaceOnPage 0 15 rfl) rfl ?_
      refine go_cV (cl) lk_X9_372 rfl G_98 (at_of tX9_isEachPlaceOnPage 1 0 rfl) rfl (by decide) rfl (Nat.le_of_ble_eq_true rfl) rfl (by first | decide | exact ⟨Nat.zero_le _, Nat.zero_le _⟩) ?_
      refine go_aload_n (at_of tX9_isEachPlaceOnPage 1 1 rfl) rfl ?_
      refine go_getr (q := 98) fl_X9_58 rfl G_0 ((hS1 _ _ rfl).trans rfl) (at_of tX9_isEachPlaceOnPage 1 2 rfl) ?_
      refine go_cV (cm) lk_X9_369 rfl G_98 (at_of tX9_isEachPlaceOnPage 1 3 rfl) rfl (by decide) rfl (Nat.le_of_ble_eq_true rfl) rfl (by first | decide | exact ⟨Nat.zero_le _, Nat.zero_le _⟩) ?_
      refine go_cS (con_isWithin) lk_X9_270 rfl (at_of tX9_isEachPlaceOnPage 1 4 rfl) rfl (by decide) rfl (Nat.le_of_ble_eq_true rfl) rfl (by first | decide | exact ⟨Nat.zero_le _, Nat.zero_le _⟩) ?_
      refine go_if_ne (tgt := 48) (at_of tX9_isEachPlaceOnPage 1 5 rfl) (by decide) (fun h43 => ?_) (fun h43 => ?_)
      rotate_left
      · exfalso; exact bI_0.mp h43 hb
      refine go_iinc (at_of tX9_isEachPlaceOnPage 1 8 rfl) rfl (by unfold in32; omega) rfl rfl ?_
      refine go_goto (tgt := 20) (at_of tX9_isEachPlaceOnPage 1 9 rfl) (by decide) ?_
      exact ih _ _ (by omega) (by omega)
  refine con_of_go mfX9_isEachPlaceOnPage.1 (Or.inr rfl) (Nat.le_of_ble_eq_true rfl) rfl (by decide) ?_
  show Go _ _ _ _ 0 [vA _, vT 9 0, vT 9 0] [] _ _
  refine go_aload_n (at_of tX9_isEachPlaceOnPage 0 0 rfl) rfl ?_
  refine go_cV (c1) lk_X9_366 rfl G_0 (at_of tX9_isEachPlaceOnPage 0 1 rfl) rfl (by decide) rfl (Nat.le_of_ble_eq_true rfl) rfl (by first | decide | exact ⟨Nat.zero_le _, Nat.zero_le _⟩) ?_
  refine go_aload_n (at_of tX9_isEachPlaceOnPage 0 2 rfl) rfl ?_
  refine go_getr (q := 1) fl_X9_16 rfl G_0 ((hS1 _ _ rfl).trans rfl) (at_of tX9_isEachPlaceOnPage 0 3 rfl) ?_
  refine go_cV (con_now hS1 hA1) lk_X9_114 rfl g1_ (at_of tX9_isEachPlaceOnPage 0 4 rfl) rfl (by decide) rfl (Nat.le_of_ble_eq_true rfl) rfl (by first | decide | exact ⟨Nat.zero_le _, Nat.zero_le _⟩) ?_
  refine go_getr (q := (4 + 10 * pi A.2.1)) fl_X9_131 rfl g1 p1 (at_of tX9_isEachPlaceOnPage 0 5 rfl) ?_
  refine go_cV (r_seenUnits hS1 hk hR) lk_X9_205 rfl g2 (at_of tX9_isEachPlaceOnPage 0 6 rfl) rfl (by decide) rfl (Nat.le_of_ble_eq_true rfl) rfl (by first | decide | exact ⟨Nat.zero_le _, Nat.zero_le _⟩) ?_
  refine go_istore_n (at_of tX9_isEachPlaceOnPage 0 7 rfl) rfl rfl ?_
  refine go_iconst (at_of tX9_isEachPlaceOnPage 0 8 rfl) (by unfold in32; omega) ?_
  refine go_istore_n (at_of tX9_isEachPlaceOnPage 0 9 rfl) rfl rfl ?_
  exact key (plOf (A.1 A.2.1).1.1 (A.1 A.2.1).1.2.1 (A.1 A.2.1).1.2.1 + 1).toNat _ 0 (by omega) (by omega)
/-- the number of a paragraph; what a field is worked out to -/
def valN (R : RowD) (e : Int) : Int := if R.1 7 e = -1 then 0 else ctF R e (R.1 8 e)
def bmP (R : RowD) (f : Int) : Int := plOf R.1 R.2.1 (R.2.2.1 f)
def valF (R : RowD) (Q KV : Int → Int) (w h kd f rv : Int) : Int :=
  if kd = 99 then endsA R.1 R.2.1 R.2.1 + 1 else if kd = 114 then rv else if R.2.2.1 f = -1 then 0
  else if kd = 110 then valN R (endFr R.1 R.2.1 (ixOf R.1 R.2.1 (bmP R f)))
  else if kd = 112 then gpR R Q KV w h (ixOf R.1 R.2.1 (bmP R f)) / h + 1
  else max (plOf R.1 R.2.1 (R.2.2.2 f)) (bmP R f) - bmP R f
theorem valF_le {R : RowD} {Q KV : Int → Int} {w h kd f rv : Int} (hE : LastE R) (hB : sgS R Q (R.2.1 + 1) ≤ 500) (hEn : EndW R) (hw : 5 ≤ w) (hh : 2 ≤ h ∧ h ≤ 40) (hr : 0 ≤ rv ∧ rv ≤ 9999) : 0 ≤ valF R Q KV w h kd f rv ∧ valF R Q KV w h kd f rv ≤ 9999 := by
  have e0 := endsA_le (F := R.1) (n := R.2.1) (i := R.2.1)
  have e1 := e0.2 hE.1
  have e2 := hE.2.1
  have p1 := plOf_le (F := R.1) (n := R.2.1) (i := R.2.2.1 f)
  have p2 := plOf_le (F := R.1) (n := R.2.1) (i := R.2.2.2 f)
  have p3 := p1.2 hE.1
  have p4 := p2.2 hE.1
  obtain ⟨u1, u2, u3, u4⟩ := place_ix hE (p := bmP R f) p1.1 plOf_le2
  unfold valF
  split
  · omega
  · split
    · omega
    · split
      · omega
      · split
        · unfold valN
          obtain ⟨v1, v2, v3, v4⟩ := endFr_end hE u1 u2
          split
          · omega
          · have := ctF_own hEn ⟨by omega, v2⟩ hE.2.1; omega
        · split
          · have g := gpR_le hE hB (KV := KV) (w := w) (by omega) hh u1 u2
            have g1 : 0 ≤ gpR R Q KV w h (ixOf R.1 R.2.1 (bmP R f)) / h := Int.ediv_nonneg g.1 (by omega)
            have g2 : gpR R Q KV w h (ixOf R.1 R.2.1 (bmP R f)) / h ≤ 9500 / 2 := by
              refine Int.le_trans (Int.ediv_le_ediv (c := h) (by omega) g.2) ?_
              refine Int.ediv_le_of_le_mul (by omega) ?_
              have := Int.mul_le_mul_of_nonneg_left hh.1 (show (0 : Int) ≤ 9500 / 2 by omega)
              omega
            omega
          · unfold bmP; omega
theorem con_resultNow (hS : Str σ.2.1) {k : Nat} (hk : k < 8) {R : RowD} (hR : RepR σ k R) {Q KV : Int → Int} {w h c rc : Int} (hE : LastE R) (hEn : EndW R) (hB : sgS R Q (R.2.1 + 1) ≤ 500) (hw : 5 ≤ w) (hh : 2 ≤ h ∧ h ≤ 40) (hl : LayR σ R Q KV w h) (hc : 0 ≤ c ∧ c < 20) (hrc : 0 ≤ rc ∧ rc < 5)
    (hfk : σ.1 93 c.toNat = 99 ∨ (σ.1 93 c.toNat = 114 ∧ 0 ≤ σ.1 94 c.toNat ∧ σ.1 94 c.toNat < 3) ∨ ((σ.1 93 c.toNat = 108 ∨ σ.1 93 c.toNat = 110 ∨ σ.1 93 c.toNat = 112) ∧ 0 ≤ σ.1 94 c.toNat ∧ σ.1 94 c.toNat < 6)) : ∃ σ', Con 4 mX9_resultNow 0 0 [vA 0, vA (4 + 10 * k), vI c, vI rc] σ (vI (valF R Q KV w h (σ.1 93 c.toNat) (σ.1 94 c.toNat) (σ.1 97 (rc * 3 + σ.1 94 c.toNat).toNat)), σ') ∧ σ'.2 = σ.2 ∧ ∀ x j : Nat, x ≠ 90 → σ'.1 x j = σ.1 x j := by
  obtain ⟨g1, g2, g3, g4, g5, g6, g7, g8, g9, g10⟩ := gamk k hk
  obtain ⟨p1, p2, p3, p4, p5, p6, p7, p8, p9⟩ := strk hS k hk
  have hn := hR.1
  obtain ⟨hw1, hw2, hw3⟩ := hR.2.2.2
  have e65 : σ.1 93 c.toNat % 65536 = σ.1 93 c.toNat := by omega
  have e2 := hE.2.1
  unfold valF
  by_cases h99 : σ.1 93 c.toNat = 99
  · rw [if_pos h99]
    refine ⟨σ, ?_, rfl, fun _ _ _ => rfl⟩
    refine con_of_go mfX9_resultNow.1 trivial (Nat.le_of_ble_eq_true rfl) rfl (by decide) ?_
    show Go _ _ _ _ 0 [vA _, vA _, vI _, vI _, vT 9 0, vT 9 0, vT 9 0] [] _ _
    refine go_aload_n (at_of tX9_resultNow 0 0 rfl) rfl ?_
    refine go_getr (q := 92) fl_X9_44 rfl G_0 ((hS _ _ rfl).trans rfl) (at_of tX9_resultNow 0 1 rfl) ?_
    refine go_iload_n (at_of tX9_resultNow 0 2 rfl) rfl ?_
    refine go_cV (con_kindF hS hc) lk_X9_477 rfl G_92 (at_of tX9_resultNow 0 3 rfl) rfl (by decide) rfl (Nat.le_of_ble_eq_true rfl) rfl (by first | decide | exact ⟨Nat.zero_le _, Nat.zero_le _⟩) ?_
    rw [e65]
    refine go_istore (at_of tX9_resultNow 0 4 rfl) rfl rfl ?_
    refine go_aload_n (at_of tX9_resultNow 0 5 rfl) rfl ?_
    refine go_getr (q := 92) fl_X9_44 rfl G_0 ((hS _ _ rfl).trans rfl) (at_of tX9_resultNow 0 6 rfl) ?_
    refine go_iload_n (at_of tX9_resultNow 0 7 rfl) rfl ?_
    refine go_cV (con_ofF hS hc) lk_X9_478 rfl G_92 (at_of tX9_resultNow 0 8 rfl) rfl (by decide) rfl (Nat.le_of_ble_eq_true rfl) rfl (by first | decide | exact ⟨Nat.zero_le _, Nat.zero_le _⟩) ?_
    refine go_istore (at_of tX9_resultNow 0 9 rfl) rfl rfl ?_
    refine go_iload (at_of tX9_resultNow 0 10 rfl) rfl rfl ?_
    refine go_bipush (at_of tX9_resultNow 0 11 rfl) (by decide) ?_
    refine go_icmp_ne (tgt := 32) (at_of tX9_resultNow 0 12 rfl) (by decide) (fun h24 => ?_) (fun h24 => ?_)
    · exfalso; omega
    refine go_aload_n (at_of tX9_resultNow 0 13 rfl) rfl ?_
    refine go_cV (r_seenParagraphs hS hk hR) lk_X9_219 rfl g2 (at_of tX9_resultNow 0 14 rfl) rfl (by decide) rfl (Nat.le_of_ble_eq_true rfl) rfl (by first | decide | exact ⟨Nat.zero_le _, Nat.zero_le _⟩) ?_
    first | exact go_reti (at_of tX9_resultNow 0 15 rfl) rfl | exact go_reti (at_of tX9_resultNow 0 15 rfl) (le_i (by omega)) | exact go_reti (at_of tX9_resultNow 0 15 rfl) (le_i (by first | exact bI_t (by omega) | exact bI_f (by omega)))
  · rw [if_neg h99]
    by_cases h114 : σ.1 93 c.toNat = 114
    · rw [if_pos h114]
      refine ⟨σ, ?_, rfl, fun _ _ _ => rfl⟩
      refine con_of_go mfX9_resultNow.1 trivial (Nat.le_of_ble_eq_true rfl) rfl (by decide) ?_
      show Go _ _ _ _ 0 [vA _, vA _, vI _, vI _, vT 9 0, vT 9 0, vT 9 0] [] _ _
      refine go_aload_n (at_of tX9_resultNow 0 0 rfl) rfl ?_
      refine go_getr (q := 92) fl_X9_44 rfl G_0 ((hS _ _ rfl).trans rfl) (at_of tX9_resultNow 0 1 rfl) ?_
      refine go_iload_n (at_of tX9_resultNow 0 2 rfl) rfl ?_
      refine go_cV (con_kindF hS hc) lk_X9_477 rfl G_92 (at_of tX9_resultNow 0 3 rfl) rfl (by decide) rfl (Nat.le_of_ble_eq_true rfl) rfl (by first | decide | exact ⟨Nat.zero_le _, Nat.zero_le _⟩) ?_
      rw [e65]
      refine go_istore (at_of tX9_resultNow 0 4 rfl) rfl rfl ?_
      refine go_aload_n (at_of tX9_resultNow 0 5 rfl) rfl ?_
      refine go_getr (q := 92) fl_X9_44 rfl G_0 ((hS _ _ rfl).trans rfl) (at_of tX9_resultNow 0 6 rfl) ?_
      refine go_iload_n (at_of tX9_resultNow 0 7 rfl) rfl ?_
      refine go_cV (con_ofF hS hc) lk_X9_478 rfl G_92 (at_of tX9_resultNow 0 8 rfl) rfl (by decide) rfl (Nat.le_of_ble_eq_true rfl) rfl (by first | decide | exact ⟨Nat.zero_le _, Nat.zero_le _⟩) ?_
      refine go_istore (at_of tX9_resultNow 0 9 rfl) rfl rfl ?_
      refine go_iload (at_of tX9_resultNow 0 10 rfl) rfl rfl ?_
      refine go_bipush (at_of tX9_resultNow 0 11 rfl) (by decide) ?_
      refine go_icmp_ne (tgt := 32) (at_of tX9_resultNow 0 12 rfl) (by decide) (fun h24 => ?_) (fun h24 => ?_)
      rotate_left
      · exfalso; omega
      refine go_iload (at_of tX9_resultNow 1 0 rfl) rfl rfl ?_
      refine go_bipush (at_of tX9_resultNow 1 1 rfl) (by decide) ?_
      refine go_icmp_ne (tgt := 50) (at_of tX9_resultNow 1 2 rfl) (by decide) (fun h36 => ?_) (fun h36 => ?_)
      · exfalso; omega
      refine go_aload_n (at_of tX9_resultNow 1 3 rfl) rfl ?_
      refine go_getr (q := 96) fl_X9_51 rfl G_0 ((hS _ _ rfl).trans rfl) (at_of tX9_resultNow 1 4 rfl) ?_
      refine go_iload_n (at_of tX9_resultNow 1 5 rfl) rfl ?_
      refine go_iload (at_of tX9_resultNow 1 6 rfl) rfl rfl ?_
      refine go_cV (con_valueR hS hrc (by omega)) lk_X9_351 rfl G_96 (at_of tX9_resultNow 1 7 rfl) rfl (by decide) rfl (Nat.le_of_ble_eq_true rfl) rfl (by first | decide | exact ⟨Nat.zero_le _, Nat.zero_le _⟩) ?_
      first | exact go_reti (at_of tX9_resultNow 1 8 rfl) rfl | exact go_reti (at_of tX9_resultNow 1 8 rfl) (le_i (by omega)) | exact go_reti (at_of tX9_resultNow 1 8 rfl) (le_i (by first | exact bI_t (by omega) | exact bI_f (by omega)))
    · rw [if_neg h114]
      have hf6 : 0 ≤ σ.1 94 c.toNat ∧ σ.1 94 c.toNat < 6 := by omega
      by_cases hb : R.2.2.1 (σ.1 94 c.toNat) = -1
      · rw [if_pos hb]
        refine ⟨σ, ?_, rfl, fun _ _ _ => rfl⟩
        refine con_of_go mfX9_resultNow.1 trivial (Nat.le_of_ble_eq_true rfl) rfl (by decide) ?_
        show Go _ _ _ _ 0 [vA _, vA _, vI _, vI _, vT 9 0, vT 9 0, vT 9 0] [] _ _
        refine go_aload_n (at_of tX9_resultNow 0 0 rfl) rfl ?_
        refine go_getr (q := 92) fl_X9_44 rfl G_0 ((hS _ _ rfl).trans rfl) (at_of tX9_resultNow 0 1 rfl) ?_
        refine go_iload_n (at_of tX9_resultNow 0 2 rfl) rfl ?_
        refine go_cV (con_kindF hS hc) lk_X9_477 rfl G_92 (at_of tX9_resultNow 0 3 rfl) rfl (by decide) rfl (Nat.le_of_ble_eq_true rfl) rfl (by first | decide | exact ⟨Nat.zero_le _, Nat.zero_le _⟩) ?_
        rw [e65]
        refine go_istore (at_of tX9_resultNow 0 4 rfl) rfl rfl ?_
        refine go_aload_n (at_of tX9_resultNow 0 5 rfl) rfl ?_
        refine go_getr (q := 92) fl_X9_44 rfl G_0 ((hS _ _ rfl).trans rfl) (at_of tX9_resultNow 0 6 rfl) ?_
        refine go_iload_n (at_of tX9_resultNow 0 7 rfl) rfl ?_
        refine go_cV (con_ofF hS hc) lk_X9_478 rfl G_92 (at_of tX9_resultNow 0 8 rfl) rfl (by decide) rfl (Nat.le_of_ble_eq_true rfl) rfl (by first | decide | exact ⟨Nat.zero_le _, Nat.zero_le _⟩) ?_
        refine go_istore (at_of tX9_resultNow 0 9 rfl) rfl rfl ?_
        refine go_iload (at_of tX9_resultNow 0 10 rfl) rfl rfl ?_
        refine go_bipush (at_of tX9_resultNow 0 11 rfl) (by decide) ?_
        refine go_icmp_ne (tgt := 32) (at_of tX9_resultNow 0 12 rfl) (by decide) (fun h24 => ?_) (fun h24 => ?_)
        rotate_left
        · exfalso; omega
        refine go_iload (at_of tX9_resultNow 1 0 rfl) rfl rfl ?_
        refine go_bipush (at_of tX9_resultNow 1 1 rfl) (by decide) ?_
        refine go_icmp_ne (tgt := 50) (at_of tX9_resultNow 1 2 rfl) (by decide) (fun h36 => ?_) (fun h36 => ?_)
        rotate_left
        · exfalso; omega
        refine go_aload_n (at_of tX9_resultNow 1 9 rfl) rfl ?_
        refine go_iload (at_of tX9_resultNow 1 10 rfl) rfl rfl ?_
        refine go_cV (r_hasBookmark hS hk hR hf6) lk_X9_422 rfl g2 (at_of tX9_resultNow 1 11 rfl) rfl (by decide) rfl (Nat.le_of_ble_eq_true rfl) rfl (by first | decide | exact ⟨Nat.zero_le _, Nat.zero_le _⟩) ?_
        refine go_if_ne (tgt := 61) (at_of tX9_resultNow 1 12 rfl) (by decide) (fun h56 => ?_) (fun h56 => ?_)
        · exfalso; exact (bI_1.mp h56) hb
        refine go_iconst (at_of tX9_resultNow 1 13 rfl) (by unfold in32; omega) ?_
        first | exact go_reti (at_of tX9_resultNow 1 14 rfl) rfl | exact go_reti (at_of tX9_resultNow 1 14 rfl) (le_i (by omega)) | exact go_reti (at_of tX9_resultNow 1 14 rfl) (le_i (by first | exact bI_t (by omega) | exact bI_f (by omega)))
      · rw [if_neg hb]
        have pl := plOf_le (F := R.1) (n := R.2.1) (i := R.2.2.1 (σ.1 94 c.toNat))
        have pl2 := plOf_le (F := R.1) (n := R.2.1) (i := R.2.2.2 (σ.1 94 c.toNat))
        have pl3 := pl.2 hE.1
        have pl4 := pl2.2 hE.1
        have bmE : bmP R (σ.1 94 c.toNat) = plOf R.1 R.2.1 (R.2.2.1 (σ.1 94 c.toNat)) := rfl
        obtain ⟨u1, u2, u3, u4⟩ := place_ix hE (p := bmP R (σ.1 94 c.toNat)) pl.1 plOf_le2
        rw [← bmE] at pl pl3
        by_cases h110 : σ.1 93 c.toNat = 110
        · rw [if_pos h110]
          obtain ⟨v1, v2, v3, v4⟩ := endFr_end hE u1 u2
          unfold valN
          by_cases h7 : R.1 7 (endFr R.1 R.2.1 (ixOf R.1 R.2.1 (bmP R (σ.1 94 c.toNat)))) = -1
          · rw [if_pos h7]
            refine ⟨σ, ?_, rfl, fun _ _ _ => rfl⟩
            refine con_of_go mfX9_resultNow.1 trivial (Nat.le_of_ble_eq_true rfl) rfl (by decide) ?_
            show Go _ _ _ _ 0 [vA _, vA _, vI _, vI _, vT 9 0, vT 9 0, vT 9 0] [] _ _
            refine go_aload_n (at_of tX9_resultNow 0 0 rfl) rfl ?_
            refine go_getr (q := 92) fl_X9_44 rfl G_0 ((hS _ _ rfl).trans rfl) (at_of tX9_resultNow 0 1 rfl) ?_
            refine go_iload_n (at_of tX9_resultNow 0 2 rfl) rfl ?_
            refine go_cV (con_kindF hS hc) lk_X9_477 rfl G_92 (at_of tX9_resultNow 0 3 rfl) rfl (by decide) rfl (Nat.le_of_ble_eq_true rfl) rfl (by first | decide | exact ⟨Nat.zero_le _, Nat.zero_le _⟩) ?_
            rw [e65]
            refine go_istore (at_of tX9_resultNow 0 4 rfl) rfl rfl ?_
            refine go_aload_n (at_of tX9_resultNow 0 5 rfl) rfl ?_
            refine go_getr (q := 92) fl_X9_44 rfl G_0 ((hS _ _ rfl).trans rfl) (at_of tX9_resultNow 0 6 rfl) ?_
            refine go_iload_n (at_of tX9_resultNow 0 7 rfl) rfl ?_
            refine go_cV (con_ofF hS hc) lk_X9_478 rfl G_92 (at_of tX9_resultNow 0 8 rfl) rfl (by decide) rfl (Nat.le_of_ble_eq_true rfl) rfl (by first | decide | exact ⟨Nat.zero_le _, Nat.zero_le _⟩) ?_
            refine go_istore (at_of tX9_resultNow 0 9 rfl) rfl rfl ?_
            refine go_iload (at_of tX9_resultNow 0 10 rfl) rfl rfl ?_
            refine go_bipush (at_of tX9_resultNow 0 11 rfl) (by decide) ?_
            refine go_icmp_ne (tgt := 32) (at_of tX9_resultNow 0 12 rfl) (by decide) (fun h24 => ?_) (fun h24 => ?_)
            rotate_left
            · exfalso; omega
            refine go_iload (at_of tX9_resultNow 1 0 rfl) rfl rfl ?_
            refine go_bipush (at_of tX9_resultNow 1 1 rfl) (by decide) ?_
            refine go_icmp_ne (tgt := 50) (at_of tX9_resultNow 1 2 rfl) (by decide) (fun h36 => ?_) (fun h36 => ?_)
            rotate_left
            · exfalso; omega
            refine go_aload_n (at_of tX9_resultNow 1 9 rfl) rfl ?_
            refine go_iload (at_of tX9_resultNow 1 10 rfl) rfl rfl ?_
            refine go_cV (r_hasBookmark hS hk hR hf6) lk_X9_422 rfl g2 (at_of tX9_resultNow 1 11 rfl) rfl (by decide) rfl (Nat.le_of_ble_eq_true rfl) rfl (by first | decide | exact ⟨Nat.zero_le _, Nat.zero_le _⟩) ?_
            refine go_if_ne (tgt := 61) (at_of tX9_resultNow 1 12 rfl) (by decide) (fun h56 => ?_) (fun h56 => ?_)
            rotate_left
            · exfalso; exact bI_0.mp h56 hb
            refine go_aload_n (at_of tX9_resultNow 1 15 rfl) rfl ?_
            refine go_iload (at_of tX9_resultNow 2 0 rfl) rfl rfl ?_
            refine go_cV (r_bookmarkBegin hS hk hR hf6) lk_X9_315 rfl g2 (at_of tX9_resultNow 2 1 rfl) rfl (by decide) rfl (Nat.le_of_ble_eq_true rfl) rfl (by first | decide | exact ⟨Nat.zero_le _, Nat.zero_le _⟩) ?_
            rw [← bmE]
            refine go_istore (at_of tX9_resultNow 2 2 rfl) rfl rfl ?_
            refine go_iload (at_of tX9_resultNow 2 3 rfl) rfl rfl ?_
            rw [h110]
            refine go_lookup (tgt := 96) (at_of tX9_resultNow 2 4 rfl) (by decide) rfl (by decide) ?_
            refine go_aload_n (at_of tX9_resultNow 2 5 rfl) rfl ?_
            refine go_getr (q := 87) fl_X9_37 rfl G_0 ((hS _ _ rfl).trans rfl) (at_of tX9_resultNow 2 6 rfl) ?_
            refine go_aload_n (at_of tX9_resultNow 2 7 rfl) rfl ?_
            refine go_aload_n (at_of tX9_resultNow 2 8 rfl) rfl ?_
            refine go_aload_n (at_of tX9_resultNow 2 9 rfl) rfl ?_
            refine go_iload (at_of tX9_resultNow 2 10 rfl) rfl rfl ?_
            refine go_cV (r_indexOf hS hk hR) lk_X9_444 rfl g2 (at_of tX9_resultNow 2 11 rfl) rfl (by decide) rfl (Nat.le_of_ble_eq_true rfl) rfl (by first | decide | exact ⟨Nat.zero_le _, Nat.zero_le _⟩) ?_
            refine go_cV (r_endFrom hS hk hR ⟨u1, u2⟩) lk_X9_441 rfl g2 (at_of tX9_resultNow 2 12 rfl) rfl (by decide) rfl (Nat.le_of_ble_eq_true rfl) rfl (by first | decide | exact ⟨Nat.zero_le _, Nat.zero_le _⟩) ?_
            refine go_cV (con_ownNumber_no hS hk hR (by omega) h7) lk_X9_287 rfl G_87 (at_of tX9_resultNow 2 13 rfl) rfl (by decide) rfl (Nat.le_of_ble_eq_true rfl) rfl (by first | decide | exact ⟨Nat.zero_le _, Nat.zero_le _⟩) ?_
            first | exact go_reti (at_of tX9_resultNow 2 14 rfl) rfl | exact go_reti (at_of tX9_resultNow 2 14 rfl) (le_i (by omega)) | exact go_reti (at_of tX9_resultNow 2 14 rfl) (le_i (by first | exact bI_t (by omega) | exact bI_f (by omega)))
          · rw [if_neg h7]
            refine ⟨ctS σ (ctF R (endFr R.1 R.2.1 (ixOf R.1 R.2.1 (bmP R (σ.1 94 c.toNat))))), ?_, rfl, fun x j z => ctS_ne z⟩
            refine con_of_go mfX9_resultNow.1 trivial (Nat.le_of_ble_eq_true rfl) rfl (by decide) ?_
            show Go _ _ _ _ 0 [vA _, vA _, vI _, vI _, vT 9 0, vT 9 0, vT 9 0] [] _ _
            refine go_aload_n (at_of tX9_resultNow 0 0 rfl) rfl ?_
            refine go_getr (q := 92) fl_X9_44 rfl G_0 ((hS _ _ rfl).trans rfl) (at_of tX9_resultNow 0 1 rfl) ?_
            refine go_iload_n (at_of tX9_resultNow 0 2 rfl) rfl ?_
            refine go_cV (con_kindF hS hc) lk_X9_477 rfl G_92 (at_of tX9_resultNow 0 3 rfl) rfl (by decide) rfl (Nat.le_of_ble_eq_true rfl) rfl (by first | decide | exact ⟨Nat.zero_le _, Nat.zero_le _⟩) ?_
            rw [e65]
            refine go_istore (at_of tX9_resultNow 0 4 rfl) rfl rfl ?_
            refine go_aload_n (at_of tX9_resultNow 0 5 rfl) rfl ?_
            refine go_getr (q := 92) fl_X9_44 rfl G_0 ((hS _ _ rfl).trans rfl) (at_of tX9_resultNow 0 6 rfl) ?_
            refine go_iload_n (at_of tX9_resultNow 0 7 rfl) rfl ?_
            refine go_cV (con_ofF hS hc) lk_X9_478 rfl G_92 (at_of tX9_resultNow 0 8 rfl) rfl (by decide) rfl (Nat.le_of_ble_eq_true rfl) rfl (by first | decide | exact ⟨Nat.zero_le _, Nat.zero_le _⟩) ?_
            refine go_istore (at_of tX9_resultNow 0 9 rfl) rfl rfl ?_
            refine go_iload (at_of tX9_resultNow 0 10 rfl) rfl rfl ?_
            refine go_bipush (at_of tX9_resultNow 0 11 rfl) (by decide) ?_
            refine go_icmp_ne (tgt := 32) (at_of tX9_resultNow 0 12 rfl) (by decide) (fun h24 => ?_) (fun h24 => ?_)
            rotate_left
            · exfalso; omega
            refine go_iload (at_of tX9_resultNow 1 0 rfl) rfl rfl ?_
            refine go_bipush (at_of tX9_resultNow 1 1 rfl) (by decide) ?_
            refine go_icmp_ne (tgt := 50) (at_of tX9_resultNow 1 2 rfl) (by decide) (fun h36 => ?_) (fun h36 => ?_)
            rotate_left
            · exfalso; omega
            refine go_aload_n (at_of tX9_resultNow 1 9 rfl) rfl ?_
            refine go_iload (at_of tX9_resultNow 1 10 rfl) rfl rfl ?_
            refine go_cV (r_hasBookmark hS hk hR hf6) lk_X9_422 rfl g2 (at_of tX9_resultNow 1 11 rfl) rfl (by decide) rfl (Nat.le_of_ble_eq_true rfl) rfl (by first | decide | exact ⟨Nat.zero_le _, Nat.zero_le _⟩) ?_
            refine go_if_ne (tgt := 61) (at_of tX9_resultNow 1 12 rfl) (by decide) (fun h56 => ?_) (fun h56 => ?_)
            rotate_left
            · exfalso; exact bI_0.mp h56 hb
            refine go_aload_n (at_of tX9_resultNow 1 15 rfl) rfl ?_
            refine go_iload (at_of tX9_resultNow 2 0 rfl) rfl rfl ?_
            refine go_cV (r_bookmarkBegin hS hk hR hf6) lk_X9_315 rfl g2 (at_of tX9_resultNow 2 1 rfl) rfl (by decide) rfl (Nat.le_of_ble_eq_true rfl) rfl (by first | decide | exact ⟨Nat.zero_le _, Nat.zero_le _⟩) ?_
            rw [← bmE]
            refine go_istore (at_of tX9_resultNow 2 2 rfl) rfl rfl ?_
            refine go_iload (at_of tX9_resultNow 2 3 rfl) rfl rfl ?_
            rw [h110]
            refine go_lookup (tgt := 96) (at_of tX9_resultNow 2 4 rfl) (by decide) rfl (by decide) ?_
            refine go_aload_n (at_of tX9_resultNow 2 5 rfl) rfl ?_
            refine go_getr (q := 87) fl_X9_37 rfl G_0 ((hS _ _ rfl).trans rfl) (at_of tX9_resultNow 2 6 rfl) ?_
            refine go_aload_n (at_of tX9_resultNow 2 7 rfl) rfl ?_
            refine go_aload_n (at_of tX9_resultNow 2 8 rfl) rfl ?_
            refine go_aload_n (at_of tX9_resultNow 2 9 rfl) rfl ?_
            refine go_iload (at_of tX9_resultNow 2 10 rfl) rfl rfl ?_
            refine go_cV (r_indexOf hS hk hR) lk_X9_444 rfl g2 (at_of tX9_resultNow 2 11 rfl) rfl (by decide) rfl (Nat.le_of_ble_eq_true rfl) rfl (by first | decide | exact ⟨Nat.zero_le _, Nat.zero_le _⟩) ?_
            refine go_cV (r_endFrom hS hk hR ⟨u1, u2⟩) lk_X9_441 rfl g2 (at_of tX9_resultNow 2 12 rfl) rfl (by decide) rfl (Nat.le_of_ble_eq_true rfl) rfl (by first | decide | exact ⟨Nat.zero_le _, Nat.zero_le _⟩) ?_
            refine go_cV (con_ownNumber hS hk hR hEn (by omega) v4 h7) lk_X9_287 rfl G_87 (at_of tX9_resultNow 2 13 rfl) rfl (by decide) rfl (Nat.le_of_ble_eq_true rfl) rfl (by first | decide | exact ⟨Nat.zero_le _, Nat.zero_le _⟩) ?_
            first | exact go_reti (at_of tX9_resultNow 2 14 rfl) rfl | exact go_reti (at_of tX9_resultNow 2 14 rfl) (le_i (by omega)) | exact go_reti (at_of tX9_resultNow 2 14 rfl) (le_i (by first | exact bI_t (by omega) | exact bI_f (by omega)))
        · rw [if_neg h110]
          by_cases h112 : σ.1 93 c.toNat = 112
          · rw [if_pos h112]
            have cl := con_pageAt hS hw hh.1 hE hB hl ⟨u1, u2, u3⟩ u4
            have gb := gpR_le hE hB (KV := KV) (w := w) (h := h) (by omega) hh u1 u2
            have gb1 : 0 ≤ gpR R Q KV w h (ixOf R.1 R.2.1 (bmP R (σ.1 94 c.toNat))) / h := Int.ediv_nonneg gb.1 (by omega)
            have gb2 : gpR R Q KV w h (ixOf R.1 R.2.1 (bmP R (σ.1 94 c.toNat))) / h ≤ gpR R Q KV w h (ixOf R.1 R.2.1 (bmP R (σ.1 94 c.toNat))) := Int.ediv_le_self _ gb.1
            refine ⟨σ, ?_, rfl, fun _ _ _ => rfl⟩
            refine con_of_go mfX9_resultNow.1 trivial (Nat.le_of_ble_eq_true rfl) rfl (by decide) ?_
            show Go _ _ _ _ 0 [vA _, vA _, vI _, vI _, vT 9 0, vT 9 0, vT 9 0] [] _ _
            refine go_aload_n (at_of tX9_resultNow 0 0 rfl) rfl ?_
            refine go_getr (q := 92) fl_X9_44 rfl G_0 ((hS _ _ rfl).trans rfl) (at_of tX9_resultNow 0 1 rfl) ?_
            refine go_iload_n (at_of tX9_resultNow 0 2 rfl) rfl ?_
            refine go_cV (con_kindF hS hc) lk_X9_477 rfl G_92 (at_of tX9_resultNow 0 3 rfl) rfl (by decide) rfl (Nat.le_of_ble_eq_true rfl) rfl (by first | decide | exact ⟨Nat.zero_le _, Nat.zero_le _⟩) ?_
            rw [e65]
            refine go_istore (at_of tX9_resultNow 0 4 rfl) rfl rfl ?_
            refine go_aload_n (at_of tX9_resultNow 0 5 rfl) rfl ?_
            refine go_getr (q := 92) fl_X9_44 rfl G_0 ((hS _ _ rfl).trans rfl) (at_of tX9_resultNow 0 6 rfl) ?_
            refine go_iload_n (at_of tX9_resultNow 0 7 rfl) rfl ?_
            refine go_cV (con_ofF hS hc) lk_X9_478 rfl G_92 (at_of tX9_resultNow 0 8 rfl) rfl (by decide) rfl (Nat.le_of_ble_eq_true rfl) rfl (by first | decide | exact ⟨Nat.zero_le _, Nat.zero_le _⟩) ?_
            refine go_istore (at_of tX9_resultNow 0 9 rfl) rfl rfl ?_
            refine go_iload (at_of tX9_resultNow 0 10 rfl) rfl rfl ?_
            refine go_bipush (at_of tX9_resultNow 0 11 rfl) (by decide) ?_
            refine go_icmp_ne (tgt := 32) (at_of tX9_resultNow 0 12 rfl) (by decide) (fun h24 => ?_) (fun h24 => ?_)
            rotate_left
            · exfalso; omega
            refine go_iload (at_of tX9_resultNow 1 0 rfl) rfl rfl ?_
            refine go_bipush (at_of tX9_resultNow 1 1 rfl) (by decide) ?_
            refine go_icmp_ne (tgt := 50) (at_of tX9_resultNow 1 2 rfl) (by decide) (fun h36 => ?_) (fun h36 => ?_)
            rotate_left
            · exfalso; omega
            refine go_aload_n (at_of tX9_resultNow 1 9 rfl) rfl ?_
            refine go_iload (at_of tX9_resultNow 1 10 rfl) rfl rfl ?_
            refine go_cV (r_hasBookmark hS hk hR hf6) lk_X9_422 rfl g2 (at_of tX9_resultNow 1 11 rfl) rfl (by decide) rfl (Nat.le_of_ble_eq_true rfl) rfl (by first | decide | exact ⟨Nat.zero_le _, Nat.zero_le _⟩) ?_
            refine go_if_ne (tgt := 61) (at_of tX9_resultNow 1 12 rfl) (by decide) (fun h56 => ?_) (fun h56 => ?_)
            rotate_left
            · exfalso; exact bI_0.mp h56 hb
            refine go_aload_n (at_of tX9_resultNow 1 15 rfl) rfl ?_
            refine go_iload (at_of tX9_resultNow 2 0 rfl) rfl rfl ?_
            refine go_cV (r_bookmarkBegin hS hk hR hf6) lk_X9_315 rfl g2 (at_of tX9_resultNow 2 1 rfl) rfl (by decide) rfl (Nat.le_of_ble_eq_true rfl) rfl (by first | decide | exact ⟨Nat.zero_le _, Nat.zero_le _⟩) ?_
            rw [← bmE]
            refine go_istore (at_of tX9_resultNow 2 2 rfl) rfl rfl ?_
            refine go_iload (at_of tX9_resultNow 2 3 rfl) rfl rfl ?_
            rw [h112]
            refine go_lookup (tgt := 115) (at_of tX9_resultNow 2 4 rfl) (by decide) rfl (by decide) ?_
            refine go_aload_n (at_of tX9_resultNow 2 15 rfl) rfl ?_
            refine go_getr (q := 98) fl_X9_58 rfl G_0 ((hS _ _ rfl).trans rfl) (at_of tX9_resultNow 3 0 rfl) ?_
            refine go_iload (at_of tX9_resultNow 3 1 rfl) rfl rfl ?_
            refine go_cV (cl) lk_X9_372 rfl G_98 (at_of tX9_resultNow 3 2 rfl) rfl (by decide) rfl (Nat.le_of_ble_eq_true rfl) rfl (by first | decide | exact ⟨Nat.zero_le _, Nat.zero_le _⟩) ?_
            refine go_iconst (at_of tX9_resultNow 3 3 rfl) (by unfold in32; omega) ?_
            refine go_iadd (at_of tX9_resultNow 3 4 rfl) (by unfold in32; omega) ?_
            first | exact go_reti (at_of tX9_resultNow 3 5 rfl) rfl | exact go_reti (at_of tX9_resultNow 3 5 rfl) (le_i (by omega)) | exact go_reti (at_of tX9_resultNow 3 5 rfl) (le_i (by first | exact bI_t (by omega) | exact bI_f (by omega)))
          · rw [if_neg h112]
            have hlk : Op.lookupswitch.offset [(110, 25), (112, 44)] 56 (σ.1 93 c.toNat) = 56 := by
              unfold Op.lookupswitch.offset
              rw [if_neg (fun q => h110 q.symm)]
              unfold Op.lookupswitch.offset
              rw [if_neg (fun q => h112 q.symm)]
              rfl
            refine ⟨σ, ?_, rfl, fun _ _ _ => rfl⟩
            refine con_of_go mfX9_resultNow.1 trivial (Nat.le_of_ble_eq_true rfl) rfl (by decide) ?_
            show Go _ _ _ _ 0 [vA _, vA _, vI _, vI _, vT 9 0, vT 9 0, vT 9 0] [] _ _
            refine go_aload_n (at_of tX9_resultNow 0 0 rfl) rfl ?_
            refine go_getr (q := 92) fl_X9_44 rfl G_0 ((hS _ _ rfl).trans rfl) (at_of tX9_resultNow 0 1 rfl) ?_
            refine go_iload_n (at_of tX9_resultNow 0 2 rfl) rfl ?_
            refine go_cV (con_kindF hS hc) lk_X9_477 rfl G_92 (at_of tX9_resultNow 0 3 rfl) rfl (by decide) rfl (Nat.le_of_ble_eq_true rfl) rfl (by first | decide | exact ⟨Nat.zero_le _, Nat.zero_le _⟩) ?_
            rw [e65]
            refine go_istore (at_of tX9_resultNow 0 4 rfl) rfl rfl ?_
            refine go_aload_n (at_of tX9_resultNow 0 5 rfl) rfl ?_
            refine go_getr (q := 92) fl_X9_44 rfl G_0 ((hS _ _ rfl).trans rfl) (at_of tX9_resultNow 0 6 rfl) ?_
            refine go_iload_n (at_of tX9_resultNow 0 7 rfl) rfl ?_
            refine go_cV (con_ofF hS hc) lk_X9_478 rfl G_92 (at_of tX9_resultNow 0 8 rfl) rfl (by decide) rfl (Nat.le_of_ble_eq_true rfl) rfl (by first | decide | exact ⟨Nat.zero_le _, Nat.zero_le _⟩) ?_
            refine go_istore (at_of tX9_resultNow 0 9 rfl) rfl rfl ?_
            refine go_iload (at_of tX9_resultNow 0 10 rfl) rfl rfl ?_
            refine go_bipush (at_of tX9_resultNow 0 11 rfl) (by decide) ?_
            refine go_icmp_ne (tgt := 32) (at_of tX9_resultNow 0 12 rfl) (by decide) (fun h24 => ?_) (fun h24 => ?_)
            rotate_left
            · exfalso; omega
            refine go_iload (at_of tX9_resultNow 1 0 rfl) rfl rfl ?_
            refine go_bipush (at_of tX9_resultNow 1 1 rfl) (by decide) ?_
            refine go_icmp_ne (tgt := 50) (at_of tX9_resultNow 1 2 rfl) (by decide) (fun h36 => ?_) (fun h36 => ?_)
            rotate_left
            · exfalso; omega
            refine go_aload_n (at_of tX9_resultNow 1 9 rfl) rfl ?_
            refine go_iload (at_of tX9_resultNow 1 10 rfl) rfl rfl ?_
            refine go_cV (r_hasBookmark hS hk hR hf6) lk_X9_422 rfl g2 (at_of tX9_resultNow 1 11 rfl) rfl (by decide) rfl (Nat.le_of_ble_eq_true rfl) rfl (by first | decide | exact ⟨Nat.zero_le _, Nat.zero_le _⟩) ?_
            refine go_if_ne (tgt := 61) (at_of tX9_resultNow 1 12 rfl) (by decide) (fun h56 => ?_) (fun h56 => ?_)
            rotate_left
            · exfalso; exact bI_0.mp h56 hb
            refine go_aload_n (at_of tX9_resultNow 1 15 rfl) rfl ?_
            refine go_iload (at_of tX9_resultNow 2 0 rfl) rfl rfl ?_
            refine go_cV (r_bookmarkBegin hS hk hR hf6) lk_X9_315 rfl g2 (at_of tX9_resultNow 2 1 rfl) rfl (by decide) rfl (Nat.le_of_ble_eq_true rfl) rfl (by first | decide | exact ⟨Nat.zero_le _, Nat.zero_le _⟩) ?_
            rw [← bmE]
            refine go_istore (at_of tX9_resultNow 2 2 rfl) rfl rfl ?_
            refine go_iload (at_of tX9_resultNow 2 3 rfl) rfl rfl ?_
            refine go_lookup (tgt := 127) (at_of tX9_resultNow 2 4 rfl) (by decide) hlk (by decide) ?_
            refine go_aload_n (at_of tX9_resultNow 3 6 rfl) rfl ?_
            refine go_iload (at_of tX9_resultNow 3 7 rfl) rfl rfl ?_
            refine go_cV (r_bookmarkEnd hS hk hR hf6) lk_X9_318 rfl g2 (at_of tX9_resultNow 3 8 rfl) rfl (by decide) rfl (Nat.le_of_ble_eq_true rfl) rfl (by first | decide | exact ⟨Nat.zero_le _, Nat.zero_le _⟩) ?_
            rw [← bmE]
            refine go_iload (at_of tX9_resultNow 3 9 rfl) rfl rfl ?_
            refine go_isub (at_of tX9_resultNow 3 10 rfl) (by unfold in32; omega) ?_
            first | exact go_reti (at_of tX9_resultNow 3 11 rfl) rfl | exact go_reti (at_of tX9_resultNow 3 11 rfl) (le_i (by omega)) | exact go_reti (at_of tX9_resultNow 3 11 rfl) (le_i (by first | exact bI_t (by omega) | exact bI_f (by omega)))
end Works
