/-! What a paper keeps: its units, ends, marks and changes. -/
section Inv
/-- a mark: none, or that of a change of this kind that waits -/
def mkOK (L : LogD) (kd c : Int) : Prop := c = -1 ∨ (0 ≤ c ∧ c < L.1 ∧ L.2.1 c = kd ∧ L.2.2.2 c = 119)
def UnI (nf ns : Int) (L : LogD) (R : RowD) (i : Int) : Prop :=
  ((R.1 1 i = -1 ∧ (R.1 0 i = 47 ∨ R.1 0 i = 32 ∨ (97 ≤ R.1 0 i ∧ R.1 0 i ≤ 122))) ∨ (0 ≤ R.1 1 i ∧ R.1 1 i < nf ∧ R.1 0 i = 64)) ∧
  mkOK L 105 (R.1 2 i) ∧ mkOK L 101 (R.1 3 i) ∧ mkOK L 115 (R.1 4 i) ∧
  (R.1 4 i ≠ -1 → R.1 0 i = 47 ∧ 0 ≤ R.1 6 i ∧ R.1 6 i < ns) ∧
  (R.1 0 i = 47 → (0 ≤ R.1 5 i ∧ R.1 5 i < ns) ∧ (-1 ≤ R.1 7 i ∧ R.1 7 i ≤ 2) ∧ (0 ≤ R.1 8 i ∧ R.1 8 i ≤ 2) ∧ (0 ≤ R.1 9 i ∧ R.1 9 i ≤ 99))
def InjB (R : RowD) : Prop := ∀ i j, 0 ≤ i → i ≤ R.2.1 → 0 ≤ j → j ≤ R.2.1 → R.1 4 i ≠ -1 → R.1 4 i = R.1 4 j → i = j
def RwI (nf ns : Int) (L : LogD) (R : RowD) : Prop :=
  LastE R ∧ RowW R ∧ R.1 2 R.2.1 = -1 ∧ (∀ i, 0 ≤ i → i ≤ R.2.1 → UnI nf ns L R i) ∧ InjB R ∧ fcN R ≤ nf
def LgI (L : LogD) : Prop := (0 ≤ L.1 ∧ L.1 ≤ 60) ∧ ∀ c, 0 ≤ c → c < L.1 → (L.2.1 c = 105 ∨ L.2.1 c = 101 ∨ L.2.1 c = 115) ∧ (0 ≤ L.2.2.1 c ∧ L.2.2.1 c < 4) ∧ (L.2.2.2 c = 119 ∨ L.2.2.2 c = 97 ∨ L.2.2.2 c = 114)
def PpI (nf ns : Int) (D : PapD) : Prop := RwI nf ns D.2.1 D.1 ∧ LgI D.2.1 ∧ QW D.2.2 ∧ ∀ f, nf ≤ f → f < 20 → D.2.2 f = 0
variable {nf ns : Int} {L : LogD} {R : RowD}
theorem UnI.of {L' : LogD} {R' : RowD} {nf' ns' i j : Int} (hf : nf ≤ nf') (hs : ns ≤ ns') (hL : ∀ kd c, mkOK L kd c → mkOK L' kd c) (he : ∀ w, R'.1 w j = R.1 w i) (h : UnI nf ns L R i) : UnI nf' ns' L' R' j := by
  unfold UnI at h ⊢
  rw [he 0, he 1, he 2, he 3, he 4, he 5, he 6, he 7, he 8, he 9]
  obtain ⟨h1, h2, h3, h4, h5, h6⟩ := h
  refine ⟨?_, hL _ _ h2, hL _ _ h3, hL _ _ h4, fun q => ?_, fun q => ?_⟩
  · rcases h1 with q | q
    · exact Or.inl q
    · exact Or.inr (by omega)
  · have := h5 q
    omega
  · have := h6 q
    omega
theorem drp_at {u w i : Int} : (drpR R u).1 w i = if i < u then R.1 w i else R.1 w (i + 1) := rfl
theorem RwI.log {L' : LogD} {nf' ns' : Int} (hf : nf ≤ nf') (hs : ns ≤ ns') (hL : ∀ kd c, mkOK L kd c → mkOK L' kd c) (h : RwI nf ns L R) : RwI nf' ns' L' R :=
  ⟨h.1, h.2.1, h.2.2.1, fun i a b => UnI.of hf hs hL (fun _ => rfl) (h.2.2.2.1 i a b), h.2.2.2.2.1, Int.le_trans h.2.2.2.2.2 hf⟩
theorem sumF_del {f : Int → Int} {i : Int} (hi : 0 ≤ i) : ∀ m : Nat, i ≤ m → sumF (fun j => if j < i then f j else f (j + 1)) m = sumF f (m + 1) - f i := by
  intro m
  induction m with
  | zero =>
    intro h
    have e : i = 0 := by omega
    subst e
    simp only [sumF]
    show (0 : Int) = 0 + f 0 - f 0
    omega
  | succ m ih =>
    intro h
    by_cases c : i = ((m + 1 : Nat) : Int)
    · subst c
      rw [sumF_congr (f := fun j => if j < ((m + 1 : Nat) : Int) then f j else f (j + 1)) (g := f) (m + 1) (fun j _ q => if_pos q)]
      rw [show sumF f (m + 1 + 1) = sumF f (m + 1) + f ((m + 1 : Nat) : Int) from rfl]
      omega
    · have e1 : sumF (fun j => if j < i then f j else f (j + 1)) (m + 1) = sumF (fun j => if j < i then f j else f (j + 1)) m + (if ((m : Nat) : Int) < i then f m else f ((m : Int) + 1)) := rfl
      rw [e1, ih (by omega), if_neg (by omega), show sumF f (m + 1 + 1) = sumF f (m + 1) + f ((m + 1 : Nat) : Int) from rfl, show ((m + 1 : Nat) : Int) = (m : Int) + 1 by omega]
      omega
theorem sumF_ins {f : Int → Int} {i z : Int} (hi : 0 ≤ i) : ∀ m : Nat, i ≤ m → sumF (fun j => if j < i then f j else if j = i then z else f (j - 1)) (m + 1) = sumF f m + z := by
  intro m
  induction m with
  | zero =>
    intro h
    have e : i = 0 := by omega
    subst e
    rfl
  | succ m ih =>
    intro h
    have e1 : sumF (fun j => if j < i then f j else if j = i then z else f (j - 1)) (m + 1 + 1) = sumF (fun j => if j < i then f j else if j = i then z else f (j - 1)) (m + 1) + (if ((m + 1 : Nat) : Int) < i then f ((m + 1 : Nat) : Int) else if ((m + 1 : Nat) : Int) = i then z else f (((m + 1 : Nat) : Int) - 1)) := rfl
    by_cases c : i = ((m + 1 : Nat) : Int)
    · subst c
      rw [e1, sumF_congr (f := fun j => if j < ((m + 1 : Nat) : Int) then f j else if j = ((m + 1 : Nat) : Int) then z else f (j - 1)) (g := f) (m + 1) (fun j _ q => if_pos q), if_neg (by omega), if_pos rfl]
    · rw [e1, ih (by omega), if_neg (by omega), if_neg (fun q => c q.symm), show ((m + 1 : Nat) : Int) - 1 = (m : Int) by omega]
      show sumF f m + z + f m = sumF f m + f m + z
      omega
theorem ind_ne {f g : Int → Int} {j k : Int} (h : f j = g k) : ind (fun j => decide (f j ≠ -1)) j = ind (fun j => decide (g j ≠ -1)) k := by
  unfold ind
  simp only [h]
theorem fcN_drp {u : Int} (h0 : 0 ≤ u) (h1 : u < R.2.1) : fcN (drpR R u) ≤ fcN R := by
  unfold fcN
  have e := sumF_del (f := ind (fun j => decide (R.1 1 j ≠ -1))) h0 R.2.1.toNat (by omega)
  have e2 : sumF (ind (fun j => decide ((drpR R u).1 1 j ≠ -1))) R.2.1.toNat = sumF (fun j => if j < u then ind (fun j => decide (R.1 1 j ≠ -1)) j else ind (fun j => decide (R.1 1 j ≠ -1)) (j + 1)) R.2.1.toNat := by
    refine sumF_congr _ (fun j _ _ => ?_)
    by_cases c : j < u
    · rw [if_pos c]; exact ind_ne (by rw [drp_at, if_pos c])
    · rw [if_neg c]; exact ind_ne (f := fun j => (drpR R u).1 1 j) (g := fun j => R.1 1 j) (j := j) (k := j + 1) (by show (drpR R u).1 1 j = _; rw [drp_at, if_neg c])
  have e3 : (drpR R u).2.1 + 1 = R.2.1 := by show R.2.1 - 1 + 1 = _; omega
  have e4 := ind_nn (p := fun j => decide (R.1 1 j ≠ -1)) u
  rw [e3, e2, e, show (R.2.1 + 1).toNat = R.2.1.toNat + 1 by omega]
  omega
theorem RwI.drp {u : Int} (h : RwI nf ns L R) (h0 : 0 ≤ u) (h1 : u < R.2.1) : RwI nf ns L (drpR R u) := by
  obtain ⟨⟨a1, a2, a3, a4⟩, b, c, d, e, f⟩ := h
  have hn : (drpR R u).2.1 = R.2.1 - 1 := rfl
  have hl : ∀ w, (drpR R u).1 w (R.2.1 - 1) = R.1 w R.2.1 := fun w => by rw [drp_at, if_neg (by omega), show R.2.1 - 1 + 1 = R.2.1 by omega]
  refine ⟨⟨by omega, by omega, by rw [hn, hl]; exact a3, by rw [hn, hl]; exact a4⟩, b.drp ⟨h0, h1⟩, by rw [hn, hl]; exact c, fun i i0 i1 => ?_, fun i j i0 i1 j0 j1 q1 q2 => ?_, Int.le_trans (fcN_drp h0 h1) f⟩
  · rw [hn] at i1
    by_cases q : i < u
    · exact UnI.of (Int.le_refl _) (Int.le_refl _) (fun _ _ z => z) (fun w => by rw [drp_at, if_pos q]) (d i i0 (by omega))
    · exact UnI.of (Int.le_refl _) (Int.le_refl _) (fun _ _ z => z) (fun w => by rw [drp_at, if_neg q]) (d (i + 1) (by omega) (by omega))
  · rw [hn] at i1 j1
    rw [drp_at] at q1
    rw [drp_at, drp_at] at q2
    by_cases c1 : i < u <;> by_cases c2 : j < u <;> simp only [c1, c2, if_true, if_false] at q1 q2
    · exact e i j i0 (by omega) j0 (by omega) q1 q2
    · have := e i (j + 1) i0 (by omega) (by omega) (by omega) q1 q2
      omega
    · have := e (i + 1) j (by omega) (by omega) j0 (by omega) q1 q2
      omega
    · have := e (i + 1) (j + 1) (by omega) (by omega) (by omega) (by omega) q1 q2
      omega
theorem RwI.gen {L' : LogD} {R' : RowD} (h : RwI nf ns L R) (hn : R'.2 = R.2) (h0 : R'.1 0 R.2.1 = 47) (h1 : ∀ j, R'.1 1 j = R.1 1 j) (h2 : R'.1 2 R.2.1 = -1) (h3 : R'.1 3 R.2.1 = -1) (hj : InjB R') (hu : ∀ i, 0 ≤ i → i ≤ R.2.1 → UnI nf ns L' R' i) : RwI nf ns L' R' := by
  obtain ⟨⟨a1, a2, a3, a4⟩, b, c, d, e, f⟩ := h
  have hn1 : R'.2.1 = R.2.1 := by rw [hn]
  refine ⟨⟨by omega, by omega, by rw [hn1]; exact h3, by rw [hn1]; exact h0⟩, ?_, by rw [hn1]; exact h2, by rw [hn1]; exact hu, hj, ?_⟩
  · unfold RowW at b ⊢
    rw [hn]
    exact b
  · unfold fcN at f ⊢
    rw [hn1, show (fun j => decide (R'.1 1 j ≠ -1)) = (fun j => decide (R.1 1 j ≠ -1)) from funext fun j => by rw [h1]]
    exact f
theorem InjB.sub {R' : RowD} (h : InjB R) (hn : R'.2.1 = R.2.1) (h4 : ∀ j, R'.1 4 j = R.1 4 j ∨ R'.1 4 j = -1) : InjB R' := by
  intro i j i0 i1 j0 j1 q1 q2
  rw [hn] at i1 j1
  rcases h4 i with z | z
  · rcases h4 j with y | y
    · rw [z] at q1 q2
      rw [y] at q2
      exact h i j i0 i1 j0 j1 q1 q2
    · rw [y] at q2
      exact absurd q2 q1
  · exact absurd z q1
theorem mk_sst {c z kd m : Int} (h : mkOK L kd m) (hm : m ≠ c) : mkOK (sstL L c z) kd m := by
  rcases h with h | ⟨a, b, d, e⟩
  · exact Or.inl h
  · refine Or.inr ⟨a, b, d, ?_⟩
    show (if m = c then z else L.2.2.2 m) = 119
    rw [if_neg hm]
    exact e
/-- once no unit has the change's mark, its state may change -/
theorem RwI.sst {c z : Int} (hc : 0 ≤ c) (h : RwI nf ns L R) (hm : ∀ i, 0 ≤ i → i ≤ R.2.1 → R.1 2 i ≠ c ∧ R.1 3 i ≠ c ∧ R.1 4 i ≠ c) : RwI nf ns (sstL L c z) R := by
  obtain ⟨a, b, c', d, e, f⟩ := h
  refine ⟨a, b, c', fun i i0 i1 => ?_, e, f⟩
  obtain ⟨q1, q2, q3, q4, q5, q6⟩ := d i i0 i1
  obtain ⟨m1, m2, m3⟩ := hm i i0 i1
  exact ⟨q1, mk_sst q2 m1, mk_sst q3 m2, mk_sst q4 m3, q5, q6⟩
theorem rel_at (w c : Int) : ∀ (m : Nat) (i : Int) (R : RowD), upX (relF w c) m i R = (fun w' j => if w' = w ∧ i ≤ j ∧ j < i + m ∧ R.1 w j = c then -1 else R.1 w' j, R.2) := by
  intro m
  induction m with
  | zero =>
    intro i R
    refine Prod.ext (funext fun w' => funext fun j => ?_) rfl
    show R.1 w' j = if _ then _ else _
    rw [if_neg (by omega)]
  | succ m ih =>
    intro i R
    show upX (relF w c) m (i + 1) (relF w c R i) = _
    rw [ih]
    unfold relF
    by_cases q : R.1 w i = c
    · rw [if_pos q]
      refine Prod.ext (funext fun w' => funext fun j => ?_) rfl
      show (if w' = w ∧ i + 1 ≤ j ∧ j < i + 1 + m ∧ (if w = w ∧ j = i then -1 else R.1 w j) = c then (-1 : Int) else if w' = w ∧ j = i then -1 else R.1 w' j) = if w' = w ∧ i ≤ j ∧ j < i + ((m + 1 : Nat) : Int) ∧ R.1 w j = c then -1 else R.1 w' j
      by_cases e1 : w' = w
      · subst e1
        by_cases e2 : j = i
        · subst e2
          rw [if_neg (by omega), if_pos ⟨rfl, rfl⟩, if_pos ⟨rfl, by omega, by omega, q⟩]
        · rw [if_neg (c := w' = w' ∧ j = i) (fun z => e2 z.2)]
          by_cases e3 : i + 1 ≤ j ∧ j < i + 1 + m ∧ R.1 w' j = c
          · rw [if_pos ⟨rfl, e3⟩, if_pos ⟨rfl, by omega, by omega, e3.2.2⟩]
          · rw [if_neg (fun z => e3 z.2), if_neg (fun z => e3 ⟨by omega, by omega, z.2.2.2⟩)]
      · rw [if_neg (fun z => e1 z.1), if_neg (fun z => e1 z.1), if_neg (fun z => e1 z.1)]
    · rw [if_neg q]
      refine Prod.ext (funext fun w' => funext fun j => ?_) rfl
      show (if w' = w ∧ i + 1 ≤ j ∧ j < i + 1 + m ∧ R.1 w j = c then (-1 : Int) else R.1 w' j) = if w' = w ∧ i ≤ j ∧ j < i + ((m + 1 : Nat) : Int) ∧ R.1 w j = c then -1 else R.1 w' j
      by_cases e3 : w' = w ∧ i + 1 ≤ j ∧ j < i + 1 + m ∧ R.1 w j = c
      · rw [if_pos e3, if_pos ⟨e3.1, by omega, by omega, e3.2.2.2⟩]
      · rw [if_neg e3, if_neg (fun z => e3 ⟨z.1, by
          have : j ≠ i := fun y => q (y ▸ z.2.2.2)
          omega, by omega, z.2.2.2⟩)]
def styG (c : Int) (acc : Bool) (R : RowD) (lo hi : Int) : RowD := (fun w j => if lo ≤ j ∧ j < hi ∧ R.1 4 j = c then (if w = 4 then -1 else if w = 5 ∧ acc = false then R.1 6 j else R.1 w j) else R.1 w j, R.2)
theorem styF_at (c : Int) (acc : Bool) (i : Int) (R : RowD) (w j : Int) : (styF c acc R i).1 w j = if j = i ∧ R.1 4 i = c then (if w = 4 then -1 else if w = 5 ∧ acc = false then R.1 6 i else R.1 w i) else R.1 w j := by
  unfold styF
  by_cases q : R.1 4 i = c
  · rw [if_pos q]
    cases acc with
    | true =>
      rw [if_pos rfl]
      show (if w = 4 ∧ j = i then (-1 : Int) else R.1 w j) = _
      by_cases e : j = i
      · subst e
        rw [if_pos (c := j = j ∧ R.1 4 j = c) ⟨rfl, q⟩]
        by_cases e4 : w = 4
        · rw [if_pos ⟨e4, rfl⟩, if_pos e4]
        · rw [if_neg (fun z => e4 z.1), if_neg e4, if_neg (by simp)]
      · rw [if_neg (fun z => e z.2), if_neg (fun z => e z.1)]
    | false =>
      rw [if_neg (by simp)]
      show (if w = 5 ∧ j = i then R.1 6 i else if w = 4 ∧ j = i then (-1 : Int) else R.1 w j) = _
      by_cases e : j = i
      · subst e
        rw [if_pos (c := j = j ∧ R.1 4 j = c) ⟨rfl, q⟩]
        by_cases e5 : w = 5
        · subst e5
          rw [if_pos ⟨rfl, rfl⟩, if_neg (by decide), if_pos ⟨rfl, rfl⟩]
        · rw [if_neg (fun z => e5 z.1)]
          by_cases e4 : w = 4
          · rw [if_pos ⟨e4, rfl⟩, if_pos e4]
          · rw [if_neg (fun z => e4 z.1), if_neg e4, if_neg (fun z => e5 z.1)]
      · rw [if_neg (fun z => e z.2), if_neg (fun z => e z.2), if_neg (fun z => e z.1)]
  · rw [if_neg q, if_neg (fun z => q z.2)]
theorem styF_2 (c : Int) (acc : Bool) (i : Int) (R : RowD) : (styF c acc R i).2 = R.2 := by
  unfold styF
  by_cases q : R.1 4 i = c
  · rw [if_pos q]
    by_cases e : acc = true
    · rw [if_pos e]; rfl
    · rw [if_neg e]; rfl
  · rw [if_neg q]
theorem sty_at (c : Int) (acc : Bool) : ∀ (m : Nat) (i : Int) (R : RowD), upX (styF c acc) m i R = styG c acc R i (i + m) := by
  intro m
  induction m with
  | zero =>
    intro i R
    refine Prod.ext (funext fun w' => funext fun j => ?_) rfl
    show R.1 w' j = if _ then _ else _
    rw [if_neg (by omega)]
  | succ m ih =>
    intro i R
    show upX (styF c acc) m (i + 1) (styF c acc R i) = _
    rw [ih]
    refine Prod.ext (funext fun w => funext fun j => ?_) (styF_2 c acc i R)
    show (if i + 1 ≤ j ∧ j < i + 1 + m ∧ (styF c acc R i).1 4 j = c then (if w = 4 then (-1 : Int) else if w = 5 ∧ acc = false then (styF c acc R i).1 6 j else (styF c acc R i).1 w j) else (styF c acc R i).1 w j) = if i ≤ j ∧ j < i + ((m + 1 : Nat) : Int) ∧ R.1 4 j = c then (if w = 4 then -1 else if w = 5 ∧ acc = false then R.1 6 j else R.1 w j) else R.1 w j
    by_cases e : j = i
    · subst e
      rw [if_neg (by omega), styF_at]
      by_cases q : R.1 4 j = c
      · rw [if_pos (c := j = j ∧ R.1 4 j = c) ⟨rfl, q⟩, if_pos (c := j ≤ j ∧ j < j + ((m + 1 : Nat) : Int) ∧ R.1 4 j = c) ⟨by omega, by omega, q⟩]
      · rw [if_neg (c := j = j ∧ R.1 4 j = c) (fun z => q z.2), if_neg (c := j ≤ j ∧ j < j + ((m + 1 : Nat) : Int) ∧ R.1 4 j = c) (fun z => q z.2.2)]
    · have s : ∀ w, (styF c acc R i).1 w j = R.1 w j := fun w => by rw [styF_at, if_neg (fun z => e z.1)]
      rw [s, s, s]
      by_cases q : i + 1 ≤ j ∧ j < i + 1 + m ∧ R.1 4 j = c
      · rw [if_pos q, if_pos (c := i ≤ j ∧ j < i + ((m + 1 : Nat) : Int) ∧ R.1 4 j = c) ⟨by omega, by omega, q.2.2⟩]
      · rw [if_neg q, if_neg (fun z => q ⟨by omega, by omega, z.2.2⟩)]
/-- units let go, from above: what is kept -/
theorem drp_all {p : RowD → Int → Bool} : ∀ (m : Nat) (R : RowD) (i : Int), RwI nf ns L R → 0 ≤ i - m + 1 → i < R.2.1 → RwI nf ns L (dnX (drpF p) m i R) := by
  intro m
  induction m with
  | zero => intro R i h _ _; exact h
  | succ m ih =>
    intro R i h h0 h1
    show RwI nf ns L (dnX (drpF p) m (i - 1) (drpF p R i))
    unfold drpF
    by_cases q : p R i = true
    · rw [if_pos q]
      exact ih _ _ (h.drp (by omega) h1) (by omega) (by show i - 1 < R.2.1 - 1; omega)
    · rw [if_neg q]
      exact ih _ _ h (by omega) (by omega)
theorem drp_no {w c : Int} : ∀ (m : Nat) (R : RowD) (i : Int), i + 1 = m → i < R.2.1 → (∀ j, i < j → j < R.2.1 → R.1 w j ≠ c) → ∀ j, 0 ≤ j → j < (dnX (drpF (fun R i => decide (R.1 w i = c))) m i R).2.1 → (dnX (drpF (fun R i => decide (R.1 w i = c))) m i R).1 w j ≠ c := by
  intro m
  induction m with
  | zero => intro R i h0 h1 h2 j j0 j1; exact h2 j (by omega) j1
  | succ m ih =>
    intro R i h0 h1 h2
    show ∀ j, 0 ≤ j → j < (dnX (drpF (fun R i => decide (R.1 w i = c))) m (i - 1) (drpF (fun R i => decide (R.1 w i = c)) R i)).2.1 → (dnX (drpF (fun R i => decide (R.1 w i = c))) m (i - 1) (drpF (fun R i => decide (R.1 w i = c)) R i)).1 w j ≠ c
    by_cases q : R.1 w i = c
    · rw [show drpF (fun R i => decide (R.1 w i = c)) R i = drpR R i from if_pos (decide_eq_true q)]
      refine ih _ _ (by omega) (by show i - 1 < R.2.1 - 1; omega) (fun j j0 j1 => ?_)
      rw [drp_at, if_neg (by omega)]
      exact h2 (j + 1) (by omega) (by have : j < R.2.1 - 1 := j1; omega)
    · rw [show drpF (fun R i => decide (R.1 w i = c)) R i = R from if_neg (by simpa using q)]
      refine ih _ _ (by omega) (by omega) (fun j j0 j1 => ?_)
      by_cases e : j = i
      · rw [e]; exact q
      · exact h2 j (by omega) j1
end Inv
