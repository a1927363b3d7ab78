/-! Judging all that waits gives the text that is seen, or the old one; what updates keep; what the past keeps. -/
section Snd
variable {nf ns : Int} {L : LogD} {R : RowD} {D : PapD}
def txt (p : Int → Bool) (f : Int → Int) : Nat → Int → List Int
  | 0, _ => []
  | m + 1, i => if p i = true then f i :: txt p f m (i + 1) else txt p f m (i + 1)
theorem txt_congr {p p' : Int → Bool} {f f' : Int → Int} : ∀ (m : Nat) (i : Int), (∀ j, i ≤ j → j < i + m → p j = p' j ∧ f j = f' j) → txt p f m i = txt p' f' m i := by
  intro m
  induction m with
  | zero => intro i _; rfl
  | succ m ih =>
    intro i h
    obtain ⟨h1, h2⟩ := h i (Int.le_refl _) (by omega)
    have h3 := ih (i + 1) (fun j j0 j1 => h j (by omega) (by omega))
    unfold txt
    rw [h1, h2, h3]
theorem cmpF_txt {p : Int → Bool} {G F : Int → Int} {n : Int} : ∀ (m : Nat) (i t : Int), t ≤ n → txt (fun _ => true) G (n - t).toNat t = txt p F m i → cmpF p G F n m i t = true := by
  intro m
  induction m with
  | zero =>
    intro i t h0 h
    cases hk : (n - t).toNat with
    | zero =>
      unfold cmpF
      exact decide_eq_true (by omega)
    | succ k =>
      rw [hk] at h
      unfold txt at h
      rw [if_pos rfl] at h
      cases h
  | succ m ih =>
    intro i t h0 h
    unfold cmpF
    rw [show txt p F (m + 1) i = if p i = true then F i :: txt p F m (i + 1) else txt p F m (i + 1) from rfl] at h
    by_cases hp : p i = true
    · rw [if_pos hp] at h ⊢
      cases hk : (n - t).toNat with
      | zero =>
        rw [hk] at h
        cases h
      | succ k =>
        rw [hk, show txt (fun _ => true) G (k + 1) t = G t :: txt (fun _ => true) G k (t + 1) from if_pos rfl] at h
        have e1 := (List.cons.inj h).1
        have e2 := (List.cons.inj h).2
        rw [if_neg (by intro z; rcases z with z | z; omega; exact z e1)]
        refine ih _ _ (by omega) ?_
        rw [show (n - (t + 1)).toNat = k by omega]
        exact e2
    · rw [if_neg hp] at h ⊢
      exact ih _ _ h0 h
theorem txt_sh {p : Int → Bool} {f : Int → Int} {u : Int} : ∀ (m : Nat) (i : Int), u ≤ i → txt (fun j => if j < u then p j else p (j + 1)) (fun j => if j < u then f j else f (j + 1)) m i = txt p f m (i + 1) := by
  intro m
  induction m with
  | zero => intro i _; rfl
  | succ m ih =>
    intro i h
    have k := ih (i + 1) (by omega)
    unfold txt
    rw [if_neg (show ¬ i < u by omega), if_neg (show ¬ i < u by omega), k]
theorem txt_del {p : Int → Bool} {f : Int → Int} {u : Int} (hu : p u = false) : ∀ (m : Nat) (i : Int), i ≤ u → u ≤ i + m → txt (fun j => if j < u then p j else p (j + 1)) (fun j => if j < u then f j else f (j + 1)) m i = txt p f (m + 1) i := by
  intro m
  induction m with
  | zero =>
    intro i h0 h1
    have e : i = u := by omega
    subst e
    unfold txt
    rw [hu, if_neg (by decide)]
    rfl
  | succ m ih =>
    intro i h0 h1
    by_cases e : i = u
    · subst e
      rw [txt_sh (m + 1) i (Int.le_refl _)]
      show _ = if p i = true then f i :: txt p f (m + 1) (i + 1) else txt p f (m + 1) (i + 1)
      rw [hu, if_neg (by decide)]
    · have k := ih (i + 1) (by omega) (by omega)
      show (if (if i < u then p i else p (i + 1)) = true then (if i < u then f i else f (i + 1)) :: _ else _) = if p i = true then f i :: txt p f (m + 1) (i + 1) else txt p f (m + 1) (i + 1)
      rw [if_pos (show i < u by omega), if_pos (show i < u by omega), k]
/-- the letters of the units without this mark -/
def TxR (w : Int) (R : RowD) : List Int := txt (fun i => decide (R.1 w i = -1)) (R.1 0) R.2.1.toNat 0
theorem TxR_drp {w u : Int} (h0 : 0 ≤ u) (h1 : u < R.2.1) (hw : R.1 w u ≠ -1) : TxR w (drpR R u) = TxR w R := by
  unfold TxR
  have e := txt_del (p := fun i => decide (R.1 w i = -1)) (f := R.1 0) (u := u) (decide_eq_false hw) (R.2.1 - 1).toNat 0 h0 (by omega)
  rw [show R.2.1.toNat = (R.2.1 - 1).toNat + 1 by omega, ← e]
  refine txt_congr _ _ (fun j _ _ => ⟨?_, rfl⟩)
  rw [drp_at]
  by_cases c : j < u
  · rw [if_pos c, if_pos c]
  · rw [if_neg c, if_neg c]
theorem TxR_eq {w : Int} {R' : RowD} (hn : R'.2.1 = R.2.1) (h : ∀ j, 0 ≤ j → j < R.2.1 → R'.1 w j = R.1 w j ∧ R'.1 0 j = R.1 0 j) : TxR w R' = TxR w R := by
  unfold TxR
  rw [hn]
  refine txt_congr _ _ (fun j j0 j1 => ?_)
  obtain ⟨a, b⟩ := h j j0 (by omega)
  exact ⟨by rw [a], b⟩
theorem TxR_drops {w c : Int} (hc : c ≠ -1) : ∀ (m : Nat) (R : RowD) (i : Int), 0 ≤ i - m + 1 → i < R.2.1 → TxR w (dnX (drpF (fun R i => decide (R.1 w i = c))) m i R) = TxR w R := by
  intro m
  induction m with
  | zero => intro R i _ _; rfl
  | succ m ih =>
    intro R i h0 h1
    show TxR w (dnX (drpF (fun R i => decide (R.1 w i = c))) m (i - 1) (drpF (fun R i => decide (R.1 w i = c)) R i)) = _
    by_cases q : R.1 w i = c
    · rw [show drpF (fun R i => decide (R.1 w i = c)) R i = drpR R i from if_pos (decide_eq_true q), ih _ _ (by omega) (by show i - 1 < R.2.1 - 1; omega)]
      exact TxR_drp (by omega) h1 (by rw [q]; exact hc)
    · rw [show drpF (fun R i => decide (R.1 w i = c)) R i = R from if_neg (by simpa using q)]
      exact ih _ _ (by omega) (by omega)
theorem TxR_setl {c : Int} {acc : Bool} (h : RwI nf ns L R) (hc : 0 ≤ c) (hk : L.2.1 c = 105 ∨ L.2.1 c = 101 ∨ L.2.1 c = 115) : TxR (if acc = true then 3 else 2) (setlR R (L.2.1 c) c acc) = TxR (if acc = true then 3 else 2) R := by
  have hn := h.1.1
  rcases hk with q | q | q
  · rw [q]
    unfold setlR
    rw [if_pos (show (105 : Int) = 105 from rfl)]
    cases acc with
    | true =>
      rw [if_pos rfl, if_pos rfl]
      exact TxR_eq (by rw [rel_2]) (fun j _ _ => ⟨rel_ne (by decide), rel_ne (by decide)⟩)
    | false =>
      rw [if_neg (by decide), if_neg (by decide)]
      exact TxR_drops (by omega) _ _ _ (by omega) (by omega)
  · rw [q]
    unfold setlR
    rw [if_neg (show ¬ (101 : Int) = 105 by decide), if_pos (show (101 : Int) = 101 from rfl)]
    cases acc with
    | true =>
      rw [if_pos rfl, if_pos rfl]
      exact TxR_drops (by omega) _ _ _ (by omega) (by omega)
    | false =>
      rw [if_neg (by decide), if_neg (by decide)]
      exact TxR_eq (by rw [rel_2]) (fun j _ _ => ⟨rel_ne (by decide), rel_ne (by decide)⟩)
  · rw [q]
    unfold setlR
    rw [if_neg (show ¬ (115 : Int) = 105 by decide), if_neg (show ¬ (115 : Int) = 101 by decide), sty_at]
    have s : ∀ w j, w ≠ 4 → w ≠ 5 → (styG c acc R 0 (0 + ((R.2.1 + 1).toNat : Int))).1 w j = R.1 w j := fun w j w4 w5 => by
      show (if 0 ≤ j ∧ j < 0 + ((R.2.1 + 1).toNat : Int) ∧ R.1 4 j = c then (if w = 4 then (-1 : Int) else if w = 5 ∧ acc = false then R.1 6 j else R.1 w j) else R.1 w j) = _
      by_cases y : 0 ≤ j ∧ j < 0 + ((R.2.1 + 1).toNat : Int) ∧ R.1 4 j = c
      · rw [if_pos y, if_neg w4, if_neg (fun z => w5 z.1)]
      · rw [if_neg y]
    refine TxR_eq rfl (fun j _ _ => ⟨s _ _ ?_ ?_, s 0 j (by decide) (by decide)⟩)
    · cases acc <;> decide
    · cases acc <;> decide
theorem jdT_all (h : PpI nf ns D) (acc rise : Bool) : jdT D acc rise = true := by
  have hl := h.2.1.1
  have hn := h.1.1.1
  have z := upX_congr (f := jdS acc rise D.2.1.1) (g := jdS acc rise D.2.1.1) (hi := D.2.1.1) (P := fun E s => PpI nf ns E ∧ E.2.1.1 = D.2.1.1 ∧ TxR (if acc = true then 3 else 2) E.1 = TxR (if acc = true then 3 else 2) D.1 ∧ ∀ s', 0 ≤ s' → s' < s → E.2.1.2.2.2 (if rise = true then s' else D.2.1.1 - 1 - s') ≠ 119) (fun E s s0 s1 hP => ⟨rfl, ?_⟩) D.2.1.1.toNat 0 D (by omega) (by omega) ⟨h, rfl, rfl, fun s' a b => by omega⟩
  · obtain ⟨-, p1, p2, p3, p4⟩ := z
    unfold jdT
    have e : jdD D acc rise = upX (jdS acc rise D.2.1.1) D.2.1.1.toNat 0 D := rfl
    rw [← e] at p1 p2 p3 p4
    have hno : ∀ kd m, mkOK (jdD D acc rise).2.1 kd m → m = -1 := by
      intro kd m y
      rcases y with y | ⟨y1, y2, y3, y4⟩
      · exact y
      · exfalso
        rw [p2] at y2
        cases rise with
        | true => exact p4 m y1 (by omega) (by rw [if_pos rfl]; exact y4)
        | false => exact p4 (D.2.1.1 - 1 - m) (by omega) (by omega) (by rw [if_neg (by decide), show D.2.1.1 - 1 - (D.2.1.1 - 1 - m) = m by omega]; exact y4)
    have hn2 := p1.1.1.1
    refine cmpF_txt _ _ _ hn2 ?_
    have e1 : TxR (if acc = true then 3 else 2) D.1 = txt (if acc = true then seenB D.1.1 D.1.2.1 else oldB D.1.1 D.1.2.1) (D.1.1 0) D.1.2.1.toNat 0 := by
      unfold TxR
      refine txt_congr _ _ (fun j j0 j1 => ⟨?_, rfl⟩)
      cases acc with
      | true =>
        rw [if_pos rfl, if_pos rfl]
        unfold seenB
        refine decide_eq_decide.mpr ⟨fun y => ⟨j0, by omega, y⟩, fun y => y.2.2⟩
      | false =>
        rw [if_neg (by decide), if_neg (by decide)]
        unfold oldB
        refine decide_eq_decide.mpr ⟨fun y => ⟨j0, by omega, y⟩, fun y => y.2.2⟩
    have e2 : TxR (if acc = true then 3 else 2) (jdD D acc rise).1 = txt (fun _ => true) ((jdD D acc rise).1.1 0) ((jdD D acc rise).1.2.1 - 0).toNat 0 := by
      unfold TxR
      rw [show (jdD D acc rise).1.2.1 - 0 = (jdD D acc rise).1.2.1 by omega]
      refine txt_congr _ _ (fun j j0 j1 => ⟨?_, rfl⟩)
      have u := p1.1.2.2.2.1 j j0 (by omega)
      cases acc with
      | true => rw [if_pos rfl]; exact decide_eq_true (hno _ _ u.2.2.1)
      | false => rw [if_neg (by decide)]; exact decide_eq_true (hno _ _ u.2.1)
    rw [← e2, ← e1]
    exact p3
  · obtain ⟨p1, p2, p3, p4⟩ := hP
    have hc : 0 ≤ (if rise = true then s else D.2.1.1 - 1 - s) ∧ (if rise = true then s else D.2.1.1 - 1 - s) < E.2.1.1 := by
      rw [p2]
      cases rise with
      | true => rw [if_pos rfl]; exact ⟨s0, s1⟩
      | false => rw [if_neg (by decide)]; omega
    unfold jdS
    by_cases q : E.2.1.2.2.2 (if rise = true then s else D.2.1.1 - 1 - s) = 119
    · rw [if_pos q]
      refine ⟨p1.setl hc, p2, ?_, fun s' a b => ?_⟩
      · rw [← p3]
        exact TxR_setl p1.1 hc.1 (p1.2.1.2 _ hc.1 hc.2).1
      · show (if (if rise = true then s' else D.2.1.1 - 1 - s') = (if rise = true then s else D.2.1.1 - 1 - s) then (if acc = true then (97 : Int) else 114) else E.2.1.2.2.2 (if rise = true then s' else D.2.1.1 - 1 - s')) ≠ 119
        by_cases ne : (if rise = true then s' else D.2.1.1 - 1 - s') = (if rise = true then s else D.2.1.1 - 1 - s)
        · rw [if_pos ne]
          cases acc <;> decide
        · rw [if_neg ne]
          refine p4 s' a ?_
          have : s' ≠ s := fun y => ne (by rw [y])
          omega
    · rw [if_neg q]
      refine ⟨p1, p2, p3, fun s' a b => ?_⟩
      by_cases y : s' = s
      · rw [y]; exact q
      · exact p4 s' a (by omega)
/-- all papers of the past -/
def AllI (nf ns : Int) (A : PastD) : Prop := A.2.1 + A.2.2 ≤ 6 ∧ ∀ j, j ≤ A.2.1 + A.2.2 → PpI nf ns (A.1 j)
theorem AllI.mono {nf' ns' : Int} {A : PastD} (h : AllI nf ns A) (hf : nf ≤ nf') (hs : ns ≤ ns') : AllI nf' ns' A := ⟨h.1, fun j hj => (h.2 j hj).mono hf hs⟩
theorem AllI.now {A : PastD} (h : AllI nf ns A) : PpI nf ns (A.1 A.2.1) := h.2 _ (by omega)
theorem AllI.beg {A : PastD} (h : AllI nf ns A) (hD : PpI nf ns D) : AllI nf ns (edA (begA A) D) := by
  unfold begA
  have h1 := h.1
  by_cases q : A.2.1 = 6
  · rw [if_pos q]
    refine ⟨by show 6 + 0 ≤ 6; omega, fun j hj => ?_⟩
    have hj2 : j ≤ 6 := hj
    show PpI nf ns (if j = 6 then D else if j < 6 then A.1 (j + 1) else A.1 6)
    by_cases e : j = 6
    · rw [if_pos e]; exact hD
    · rw [if_neg e, if_pos (by omega)]; exact h.2 _ (by omega)
  · rw [if_neg q]
    refine ⟨by show A.2.1 + 1 + 0 ≤ 6; omega, fun j hj => ?_⟩
    have hj2 : j ≤ A.2.1 + 1 := hj
    show PpI nf ns (if j = A.2.1 + 1 then D else if j = A.2.1 + 1 then A.1 A.2.1 else A.1 j)
    by_cases e : j = A.2.1 + 1
    · rw [if_pos e]; exact hD
    · rw [if_neg e, if_neg e]; exact h.2 _ (by omega)
theorem AllI.undo {A : PastD} (h : AllI nf ns A) (h0 : 0 < A.2.1) : AllI nf ns (A.1, A.2.1 - 1, A.2.2 + 1) :=
  ⟨by show A.2.1 - 1 + (A.2.2 + 1) ≤ 6; have := h.1; omega, fun j hj => h.2 j (by have : j ≤ A.2.1 - 1 + (A.2.2 + 1) := hj; omega)⟩
theorem AllI.redo {A : PastD} (h : AllI nf ns A) (h0 : 0 < A.2.2) : AllI nf ns (A.1, A.2.1 + 1, A.2.2 - 1) :=
  ⟨by show A.2.1 + 1 + (A.2.2 - 1) ≤ 6; have := h.1; omega, fun j hj => h.2 j (by have : j ≤ A.2.1 + 1 + (A.2.2 - 1) := hj; omega)⟩
theorem PpI.sg (h : PpI nf ns D) (h20 : nf ≤ 20) : SgW D.1 := fun i i0 i1 => by
  have u := (h.1.2.2.2.1 i i0 i1).1
  omega
theorem PpI.endw (h : PpI nf ns D) : EndW D.1 := fun i i0 i1 q => by
  have u := (h.1.2.2.2.1 i i0 i1).2.2.2.2.2 q
  omega
theorem PpI.layp (h : PpI nf ns D) (h20 : nf ≤ 20) : LayP D := ⟨h.1.1, h.2.2.1, h.sg h20, Int.le_trans h.1.2.2.2.2.2 h20, h.endw⟩
end Snd
