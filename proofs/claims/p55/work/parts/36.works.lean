/-! Fields are worked out; pages are asked. -/
section Works
variable {σ : St}
/-- a paper that can be laid out -/
def LayP (D : PapD) : Prop := LastE D.1 ∧ QW D.2.2 ∧ SgW D.1 ∧ fcN D.1 ≤ 20 ∧ EndW D.1
/-- the pages of a paper -/
def pgsF (R : RowD) (Q KV : Int → Int) (w h : Int) : Int := (psR R Q KV w h (parN R) - 1) / h + 1
theorem LayP.b {D : PapD} (h : LayP D) : sgS D.1 D.2.2 (D.1.2.1 + 1) ≤ 500 := sgS_bound h.2.1 h.1 h.2.2.1 h.2.2.2.1
theorem con_arrangeNow (hS : Str σ.2.1) {pi : Nat → Nat} {A : PastD} (hA : PastR σ pi A) (hW : WH σ) (hP : LayP (A.1 A.2.1)) : ∃ σ', Con 5 mX9_arrange 0 0 [vA 0] σ (vT 8 0, σ') ∧ σ'.2 = σ.2 ∧ (∀ x j : Nat, ¬ (x = 99 ∨ x = 100 ∨ x = 101 ∨ x = 102 ∨ x = 103 ∨ x = 104 ∨ x = 105 ∨ x = 106 ∨ x = 107 ∨ (x = 98 ∧ 11 ≤ j ∧ j ≤ 15)) → σ'.1 x j = σ.1 x j) ∧ LayR σ' (A.1 A.2.1).1 (A.1 A.2.1).2.2 (KVs σ) (σ.1 98 0) (σ.1 98 1) := by
  obtain ⟨hp, hd, hu, hle, hrep⟩ := id hA
  have hk7 := (hp.1 A.2.1 (by omega)).2
  have hk : pi A.2.1 < 8 := by omega
  have hD := hrep A.2.1 (by omega)
  have hR := hD.1
  have hL := hD.2.1.2.2.1
  have hn := hR.1
  obtain ⟨hw1, hw2, hw3⟩ := hR.2.2.2
  have hm := hD.2.1.1
  obtain ⟨l1, l2, l3⟩ := hD.2.1.2.2.2
  obtain ⟨g1, g2, g3, g4, g5, g6, g7, g8, g9, g10⟩ := gamk _ hk
  obtain ⟨p1, p2, p3, p4, p5, p6, p7, p8, p9⟩ := strk hS _ hk
  obtain ⟨σ', c1, c2⟩ := con_layArrange hS hk hR hW hP.1 (Q := (A.1 A.2.1).2.2) (fun c a b => ⟨hD.2.2 c a b, (hP.2.1 c a b).1⟩) hP.2.2.1 hP.b
  refine ⟨σ', ?_, c2⟩
  refine con_of_go mfX9_arrange.1 trivial (Nat.le_of_ble_eq_true rfl) rfl (by decide) ?_
  show Go _ _ _ _ 0 [vA _, vT 9 0] [] _ _
  refine go_aload_n (at_of tX9_arrange 0 0 rfl) rfl ?_
  refine go_getr (q := 1) fl_X9_16 rfl G_0 ((hS _ _ rfl).trans rfl) (at_of tX9_arrange 0 1 rfl) ?_
  refine go_cV (con_now hS hA) lk_X9_114 rfl g1_ (at_of tX9_arrange 0 2 rfl) rfl (by decide) rfl (Nat.le_of_ble_eq_true rfl) rfl (by first | decide | exact ⟨Nat.zero_le _, Nat.zero_le _⟩) ?_
  refine go_astore_n (at_of tX9_arrange 0 3 rfl) rfl rfl ?_
  refine go_aload_n (at_of tX9_arrange 0 4 rfl) rfl ?_
  refine go_getr (q := 98) fl_X9_58 rfl G_0 ((hS _ _ rfl).trans rfl) (at_of tX9_arrange 0 5 rfl) ?_
  refine go_aload_n (at_of tX9_arrange 0 6 rfl) rfl ?_
  refine go_getr (q := (4 + 10 * pi A.2.1)) fl_X9_131 rfl g1 p1 (at_of tX9_arrange 0 7 rfl) ?_
  refine go_aload_n (at_of tX9_arrange 0 8 rfl) rfl ?_
  refine go_getr (q := (12 + 10 * pi A.2.1)) fl_X9_348 rfl g1 p3 (at_of tX9_arrange 0 9 rfl) ?_
  refine go_aload_n (at_of tX9_arrange 0 10 rfl) rfl ?_
  refine go_getr (q := 83) fl_X9_30 rfl G_0 ((hS _ _ rfl).trans rfl) (at_of tX9_arrange 0 11 rfl) ?_
  refine go_cV (c1) lk_X9_459 rfl G_98 (at_of tX9_arrange 0 12 rfl) rfl (by decide) rfl (Nat.le_of_ble_eq_true rfl) rfl (by first | decide | exact ⟨Nat.zero_le _, Nat.zero_le _⟩) ?_
  exact go_retv (at_of tX9_arrange 0 13 rfl) rfl
theorem Lay_past {σ' : St} {pi : Nat → Nat} {A : PastD} (hA : PastR σ pi A) (h2 : σ'.2 = σ.2) (h1 : ∀ x j : Nat, ¬ (x = 99 ∨ x = 100 ∨ x = 101 ∨ x = 102 ∨ x = 103 ∨ x = 104 ∨ x = 105 ∨ x = 106 ∨ x = 107 ∨ (x = 98 ∧ 11 ≤ j ∧ j ≤ 15)) → σ'.1 x j = σ.1 x j) : PastR σ' pi A :=
  past_frm hA (lo := 98) (hi := 107) ⟨h2, fun a h j => h1 a j (by omega)⟩ (by omega)
theorem ok_pages (hS : Str σ.2.1) {pi : Nat → Nat} {A : PastD} (hA : PastR σ pi A) (hW : WH σ) (hP : LayP (A.1 A.2.1)) : ∃ σ', Con 6 mX9_pages 0 0 [vA 0] σ (vI (pgsF (A.1 A.2.1).1 (A.1 A.2.1).2.2 (KVs σ) (σ.1 98 0) (σ.1 98 1)), σ') ∧ σ'.2 = σ.2 ∧ (∀ x j : Nat, ¬ (x = 99 ∨ x = 100 ∨ x = 101 ∨ x = 102 ∨ x = 103 ∨ x = 104 ∨ x = 105 ∨ x = 106 ∨ x = 107 ∨ (x = 98 ∧ 11 ≤ j ∧ j ≤ 15)) → σ'.1 x j = σ.1 x j) := by
  unfold pgsF
  obtain ⟨σ', c1, c2, c3, c4⟩ := con_arrangeNow hS hA hW hP
  refine ⟨σ', ?_, c2, c3⟩
  have hS1 : Str σ'.2.1 := by rw [c2]; exact hS
  have ew : σ'.1 98 0 = σ.1 98 0 := c3 _ _ (by omega)
  have eh : σ'.1 98 1 = σ.1 98 1 := c3 _ _ (by omega)
  have hW1 : WH σ' := ⟨by rw [ew]; exact hW.1, by rw [ew]; exact hW.2.1, by rw [eh]; exact hW.2.2.1, by rw [eh]; exact hW.2.2.2⟩
  have cm := con_manyPagesR hS1 hW1 (R := (A.1 A.2.1).1) (Q := (A.1 A.2.1).2.2) (KV := KVs σ) (w := σ.1 98 0) (by rw [eh]; exact c4)
  rw [eh] at cm
  refine con_of_go mfX9_pages.1 trivial (Nat.le_of_ble_eq_true rfl) rfl (by decide) ?_
  show Go _ _ _ _ 0 [vA _] [] _ _
  refine go_aload_n (at_of tX9_pages 0 0 rfl) rfl ?_
  refine go_cV (c1) lk_X9_366 rfl G_0 (at_of tX9_pages 0 1 rfl) rfl (by decide) rfl (Nat.le_of_ble_eq_true rfl) rfl (by first | decide | exact ⟨Nat.zero_le _, Nat.zero_le _⟩) ?_
  refine go_aload_n (at_of tX9_pages 0 2 rfl) rfl ?_
  refine go_getr (q := 98) fl_X9_58 rfl G_0 ((hS1 _ _ rfl).trans rfl) (at_of tX9_pages 0 3 rfl) ?_
  refine go_cV (cm) lk_X9_369 rfl G_98 (at_of tX9_pages 0 4 rfl) rfl (by decide) rfl (Nat.le_of_ble_eq_true rfl) rfl (by first | decide | exact ⟨Nat.zero_le _, Nat.zero_le _⟩) ?_
  first | exact go_reti (at_of tX9_pages 0 5 rfl) rfl | exact go_reti (at_of tX9_pages 0 5 rfl) (le_i (by omega)) | exact go_reti (at_of tX9_pages 0 5 rfl) (le_i (by first | exact bI_t (by omega) | exact bI_f (by omega)))
/-- a unit's line lies ahead of the end of all lines -/
theorem psR_mono {R : RowD} {Q KV : Int → Int} (hn : 0 ≤ R.2.1) {w h : Int} (hw : 5 ≤ w) (hh : 2 ≤ h) : ∀ (d : Nat) (q : Int), 0 ≤ q → q + d ≤ parN R → psR R Q KV w h q ≤ psR R Q KV w h (q + d) := by
  intro d
  induction d with
  | zero => intro q _ _; rw [show q + ((0 : Nat) : Int) = q by omega]; exact Int.le_refl _
  | succ d ih =>
    intro q h0 h1
    have h2 := ih q h0 (by omega)
    have h3 := lsR_lt (R := R) (Q := Q) hn (w := w) (by omega) (q := q + d) (by omega) (by omega)
    rw [show q + ((d + 1 : Nat) : Int) = q + d + 1 by omega]
    unfold psR at h2 ⊢
    rw [psI_s (by omega)]
    unfold pgI pgF
    have h4 := mvP_le (p := psI (lsR R Q w) (kpF R KV) (parN R) h (q + d)) (t := togF (lsR R Q w) (kpF R KV) (parN R) (q + d)) (show 0 < h by omega)
    split <;> omega
theorem gpR_lt {R : RowD} {Q KV : Int → Int} (hE : LastE R) (hB : sgS R Q (R.2.1 + 1) ≤ 500) {w h u : Int} (hw : 5 ≤ w) (hh : 2 ≤ h) (h0 : 0 ≤ u) (h1 : u ≤ R.2.1) : gpR R Q KV w h u ≤ psR R Q KV w h (parN R) - 1 := by
  obtain ⟨a1, a2, -⟩ := unit_fs (Q := Q) hE h0 h1
  have b := ofR_b hE hB (w := w) (by omega) h0 h1
  have c := psR_mono (Q := Q) (KV := KV) hE.1 hw hh (parN R - (enN R u + 1)).toNat (enN R u + 1) (by omega) (by omega)
  rw [show enN R u + 1 + (((parN R - (enN R u + 1)).toNat : Nat) : Int) = parN R by omega] at c
  have d : psR R Q KV w h (enN R u + 1) = pgR R Q KV w h (enN R u) + (lsR R Q w (enN R u + 1) - lsR R Q w (enN R u)) := psI_s a1
  unfold gpR
  omega
theorem ok_isEachPlaceOnPage (hS : Str σ.2.1) {pi : Nat → Nat} {A : PastD} (hA : PastR σ pi A) (hW : WH σ) (hP : LayP (A.1 A.2.1)) : ∃ σ', Con 6 mX9_isEachPlaceOnPage 0 0 [vA 0] σ (vI 1, σ') ∧ σ'.2 = σ.2 ∧ (∀ x j : Nat, ¬ (x = 99 ∨ x = 100 ∨ x = 101 ∨ x = 102 ∨ x = 103 ∨ x = 104 ∨ x = 105 ∨ x = 106 ∨ x = 107 ∨ (x = 98 ∧ 11 ≤ j ∧ j ≤ 15)) → σ'.1 x j = σ.1 x j) := by
  obtain ⟨σ', c1, c2, c3, c4⟩ := con_arrangeNow hS hA hW hP
  refine ⟨σ', ?_, c2, c3⟩
  have hA1 := Lay_past hA c2 c3
  have hS1 : Str σ'.2.1 := by rw [c2]; exact hS
  have ew : σ'.1 98 0 = σ.1 98 0 := c3 _ _ (by omega)
  have eh : σ'.1 98 1 = σ.1 98 1 := c3 _ _ (by omega)
  have hW1 : WH σ' := ⟨by rw [ew]; exact hW.1, by rw [ew]; exact hW.2.1, by rw [eh]; exact hW.2.2.1, by rw [eh]; exact hW.2.2.2⟩
  obtain ⟨hp, hd, hu, hle, hrep⟩ := id hA1
  have hk7 := (hp.1 A.2.1 (by omega)).2
  have hk : pi A.2.1 < 8 := by omega
  have hD := hrep A.2.1 (by omega)
  have hR := hD.1
  have hL := hD.2.1.2.2.1
  have hn := hR.1
  obtain ⟨hw1, hw2, hw3⟩ := hR.2.2.2
  have hm := hD.2.1.1
  obtain ⟨l1, l2, l3⟩ := hD.2.1.2.2.2
  obtain ⟨g1, g2, g3, g4, g5, g6, g7, g8, g9, g10⟩ := gamk _ hk
  obtain ⟨p1, p2, p3, p4, p5, p6, p7, p8, p9⟩ := strk hS1 _ hk
  have cm := con_manyPagesR hS1 hW1 (R := (A.1 A.2.1).1) (Q := (A.1 A.2.1).2.2) (KV := KVs σ) (w := σ.1 98 0) (by rw [eh]; exact c4)
  rw [eh] at cm
  have hw := hW.1
  have hh := hW.2.2.1
  have hpl := plOf_le (F := (A.1 A.2.1).1.1) (n := (A.1 A.2.1).1.2.1) (i := (A.1 A.2.1).1.2.1)
  have hn2 := hP.1.2.1
  have key : ∀ (m : Nat) (b : Nat × Nat) (p : Int), 0 ≤ p → p + m = plOf (A.1 A.2.1).1.1 (A.1 A.2.1).1.2.1 (A.1 A.2.1).1.2.1 + 1 → Go (fun _ => 0) 6 mX9_isEachPlaceOnPage b 20 [vA 0, vI (plOf (A.1 A.2.1).1.1 (A.1 A.2.1).1.2.1 (A.1 A.2.1).1.2.1), vI p] [] σ' (vI 1, σ') := by
    intro m
    induction m with
    | zero =>
      intro b p h0 h1
      refine go_iload_n (at_of tX9_isEachPlaceOnPage 0 10 rfl) rfl ?_
      refine go_iload_n (at_of tX9_isEachPlaceOnPage 0 11 rfl) rfl ?_
      refine go_icmp_gt (tgt := 54) (at_of tX9_isEachPlaceOnPage 0 12 rfl) (by decide) (fun h22 => ?_) (fun h22 => ?_)
      rotate_left
      · exfalso; omega
      refine go_iconst (at_of tX9_isEachPlaceOnPage 1 10 rfl) (by unfold in32; omega) ?_
      first | exact go_reti (at_of tX9_isEachPlaceOnPage 1 11 rfl) rfl | exact go_reti (at_of tX9_isEachPlaceOnPage 1 11 rfl) (le_i (by omega)) | exact go_reti (at_of tX9_isEachPlaceOnPage 1 11 rfl) (le_i (by first | exact bI_t (by omega) | exact bI_f (by omega)))
    | succ m ih =>
      intro b p h0 h1
      obtain ⟨u1, u2, u3, u4⟩ := place_ix hP.1 h0 (show p ≤ plOf (A.1 A.2.1).1.1 (A.1 A.2.1).1.2.1 (A.1 A.2.1).1.2.1 by omega)
      have cl := con_pageAt hS1 hW.1 hW.2.2.1 hP.1 hP.b c4 ⟨u1, u2, u3⟩ u4
      have g := gpR_le hP.1 hP.b (KV := KVs σ) (w := σ.1 98 0) (h := σ.1 98 1) (by omega) ⟨hh, hW.2.2.2⟩ u1 u2
      have hb : 0 ≤ gpR (A.1 A.2.1).1 (A.1 A.2.1).2.2 (KVs σ) (σ.1 98 0) (σ.1 98 1) (ixOf (A.1 A.2.1).1.1 (A.1 A.2.1).1.2.1 p) / σ.1 98 1 ∧ gpR (A.1 A.2.1).1 (A.1 A.2.1).2.2 (KVs σ) (σ.1 98 0) (σ.1 98 1) (ixOf (A.1 A.2.1).1.1 (A.1 A.2.1).1.2.1 p) / σ.1 98 1 < (psR (A.1 A.2.1).1 (A.1 A.2.1).2.2 (KVs σ) (σ.1 98 0) (σ.1 98 1) (parN (A.1 A.2.1).1) - 1) / σ.1 98 1 + 1 := by
        refine ⟨Int.ediv_nonneg g.1 (by omega), ?_⟩
        refine Int.lt_of_le_of_lt (b := (psR (A.1 A.2.1).1 (A.1 A.2.1).2.2 (KVs σ) (σ.1 98 0) (σ.1 98 1) (parN (A.1 A.2.1).1) - 1) / σ.1 98 1) (Int.ediv_le_ediv (by omega) ?_) (by omega)
        exact gpR_lt hP.1 hP.b hw hh u1 u2
      refine go_iload_n (at_of tX9_isEachPlaceOnPage 0 10 rfl) rfl ?_
      refine go_iload_n (at_of tX9_isEachPlaceOnPage 0 11 rfl) rfl ?_
      refine go_icmp_gt (tgt := 54) (at_of tX9_isEachPlaceOnPage 0 12 rfl) (by decide) (fun h22 => ?_) (fun h22 => ?_)
      · exfalso; omega
      refine go_aload_n (at_of tX9_isEachPlaceOnPage 0 13 rfl) rfl ?_
      refine go_getr (q := 98) fl_X9_58 rfl G_0 ((hS1 _ _ rfl).trans rfl) (at_of tX9_isEachPlaceOnPage 0 14 rfl) ?_
      refine go_iload_n (at_of tX9_isEachPlaceOnPage 0 15 rfl) rfl ?_
      refine go_cV (cl) lk_X9_372 rfl G_98 (at_of tX9_isEachPlaceOnPage 1 0 rfl) rfl (by decide) rfl (Nat.le_of_ble_eq_true rfl) rfl (by first | decide | exact ⟨Nat.zero_le _, Nat.zero_le _⟩) ?_
      refine go_aload_n (at_of tX9_isEachPlaceOnPage 1 1 rfl) rfl ?_
      refine go_getr (q := 98) fl_X9_58 rfl G_0 ((hS1 _ _ rfl).trans rfl) (at_of tX9_isEachPlaceOnPage 1 2 rfl) ?_
      refine go_cV (cm) lk_X9_369 rfl G_98 (at_of tX9_isEachPlaceOnPage 1 3 rfl) rfl (by decide) rfl (Nat.le_of_ble_eq_true rfl) rfl (by first | decide | exact ⟨Nat.zero_le _, Nat.zero_le _⟩) ?_
      refine go_cS (con_isWithin) lk_X9_270 rfl (at_of tX9_isEachPlaceOnPage 1 4 rfl) rfl (by decide) rfl (Nat.le_of_ble_eq_true rfl) rfl (by first | decide | exact ⟨Nat.zero_le _, Nat.zero_le _⟩) ?_
      refine go_if_ne (tgt := 48) (at_of tX9_isEachPlaceOnPage 1 5 rfl) (by decide) (fun h43 => ?_) (fun h43 => ?_)
      rotate_left
      · exfalso; exact bI_0.mp h43 hb
      refine go_iinc (at_of tX9_isEachPlaceOnPage 1 8 rfl) rfl (by unfold in32; omega) rfl rfl ?_
      refine go_goto (tgt := 20) (at_of tX9_isEachPlaceOnPage 1 9 rfl) (by decide) ?_
      exact ih _ _ (by omega) (by omega)
  refine con_of_go mfX9_isEachPlaceOnPage.1 (Or.inr rfl) (Nat.le_of_ble_eq_true rfl) rfl (by decide) ?_
  show Go _ _ _ _ 0 [vA _, vT 9 0, vT 9 0] [] _ _
  refine go_aload_n (at_of tX9_isEachPlaceOnPage 0 0 rfl) rfl ?_
  refine go_cV (c1) lk_X9_366 rfl G_0 (at_of tX9_isEachPlaceOnPage 0 1 rfl) rfl (by decide) rfl (Nat.le_of_ble_eq_true rfl) rfl (by first | decide | exact ⟨Nat.zero_le _, Nat.zero_le _⟩) ?_
  refine go_aload_n (at_of tX9_isEachPlaceOnPage 0 2 rfl) rfl ?_
  refine go_getr (q := 1) fl_X9_16 rfl G_0 ((hS1 _ _ rfl).trans rfl) (at_of tX9_isEachPlaceOnPage 0 3 rfl) ?_
  refine go_cV (con_now hS1 hA1) lk_X9_114 rfl g1_ (at_of tX9_isEachPlaceOnPage 0 4 rfl) rfl (by decide) rfl (Nat.le_of_ble_eq_true rfl) rfl (by first | decide | exact ⟨Nat.zero_le _, Nat.zero_le _⟩) ?_
  refine go_getr (q := (4 + 10 * pi A.2.1)) fl_X9_131 rfl g1 p1 (at_of tX9_isEachPlaceOnPage 0 5 rfl) ?_
  refine go_cV (r_seenUnits hS1 hk hR) lk_X9_205 rfl g2 (at_of tX9_isEachPlaceOnPage 0 6 rfl) rfl (by decide) rfl (Nat.le_of_ble_eq_true rfl) rfl (by first | decide | exact ⟨Nat.zero_le _, Nat.zero_le _⟩) ?_
  refine go_istore_n (at_of tX9_isEachPlaceOnPage 0 7 rfl) rfl rfl ?_
  refine go_iconst (at_of tX9_isEachPlaceOnPage 0 8 rfl) (by unfold in32; omega) ?_
  refine go_istore_n (at_of tX9_isEachPlaceOnPage 0 9 rfl) rfl rfl ?_
  exact key (plOf (A.1 A.2.1).1.1 (A.1 A.2.1).1.2.1 (A.1 A.2.1).1.2.1 + 1).toNat _ 0 (by omega) (by omega)
end Works
