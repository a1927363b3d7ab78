/-! What judging and writing do, on the list. -/
section ToN
variable {R : RowD} {D : PapD} {F : Int → Int → Int} {L : LogD} {au : Int → Int} {nf ns a c n : Int}
def PlR (R : RowD) : Prop := ∀ j, R.1 4 j = -1 ∧ R.1 10 j = 0
theorem PlR.drp {i : Int} (h : PlR R) : PlR (drpR R i) := fun j => by
  rw [drp_at, drp_at]
  by_cases q : j < i
  · rw [if_pos q, if_pos q]; exact h j
  · rw [if_neg q, if_neg q]; exact h (j + 1)
theorem PlR.set {w i z : Int} (h : PlR R) (hw : w = 2 ∨ w = 3) : PlR (setR R w i z) := fun j => by
  rw [setR_at, setR_at, if_neg (by omega), if_neg (by omega)]
  exact h j
theorem PlR.put {i l fd z : Int} (h : PlR R) : PlR (putR R i l fd z) := fun j => by
  have e4 := put_at (R := R) (i := i) (l := l) (fd := fd) (c := z) (w := 4) (j := j)
  have e10 := put_at (R := R) (i := i) (l := l) (fd := fd) (c := z) (w := 10) (j := j)
  rw [e4, e10]
  by_cases q : j < i
  · rw [if_pos q, if_pos q]; exact h j
  · rw [if_neg q, if_neg q]
    by_cases q2 : j = i
    · rw [if_pos q2, if_pos q2]
      exact ⟨rfl, (h _).2⟩
    · rw [if_neg q2, if_neg q2]; exact h (j - 1)
theorem PlR.rel {w i : Int} {m : Nat} (h : PlR R) (hw : w = 2 ∨ w = 3) : PlR (upX (relF w c) m i R) := fun j => by
  rw [rel_ne (by omega), rel_ne (by omega)]
  exact h j
theorem jD_fm {acc : Bool} {g : Un → Option Un} : ∀ l : List Un, (∀ v ∈ l, g v = if jG c acc v = true then none else some (jV c v)) → l.filterMap g = jD c acc l
  | [], _ => rfl
  | v :: t, h => by
    rw [List.filterMap_cons, h v List.mem_cons_self, jD]
    have ih := jD_fm t (fun w hw => h w (List.mem_cons_of_mem _ hw))
    by_cases q : jG c acc v = true
    · rw [if_pos q, if_pos q]; exact ih
    · rw [if_neg q, if_neg q]; exact congrArg _ ih
theorem jD_map {acc : Bool} : ∀ l : List Un, (∀ v ∈ l, ¬ jG c acc v = true) → jD c acc l = l.map (jV c)
  | [], _ => rfl
  | v :: t, h => by rw [jD, if_neg (h v List.mem_cons_self), List.map_cons, jD_map t (fun w hw => h w (List.mem_cons_of_mem _ hw))]
theorem jV_id {v : Un} (h1 : v.2.1 ≠ c) (h2 : v.2.2 ≠ c) : jV c v = v := by
  unfold jV
  rw [if_neg h1, if_neg h2]
theorem toL_rel2 (h3 : ∀ i, 0 ≤ i → i < R.2.1 → R.1 3 i ≠ c) : toL (upX (relF 2 c) R.2.1.toNat 0 R) = (toL R).map (jV c) := by
  have e2 : (upX (relF 2 c) R.2.1.toNat 0 R).2 = R.2 := rel_2
  refine toL_ext (by rw [List.length_map, toL_len, e2]) (fun i hi => ?_)
  rw [e2] at hi
  rw [List.getElem?_map, toL_get hi]
  show some (jV c (uR R.1 i)) = _
  refine congrArg some ?_
  unfold uR jV
  rw [rel_ne (by omega), rel_ne (w' := 3) (by omega)]
  show (R.1 0 i, if R.1 2 i = c then -1 else R.1 2 i, if R.1 3 i = c then -1 else R.1 3 i) = _
  rw [if_neg (h3 i (by omega) (by omega)), rel_at]
  show _ = (R.1 0 i, (if (2 : Int) = 2 ∧ (0 : Int) ≤ i ∧ (i : Int) < 0 + (R.2.1.toNat : Int) ∧ R.1 2 i = c then -1 else R.1 2 i), R.1 3 i)
  by_cases q : R.1 2 i = c
  · rw [if_pos q, if_pos ⟨rfl, by omega, by omega, q⟩]
  · rw [if_neg q, if_neg (fun z => q z.2.2.2)]
theorem toL_rel3 (h3 : ∀ i, 0 ≤ i → i < R.2.1 → R.1 2 i ≠ c) : toL (upX (relF 3 c) R.2.1.toNat 0 R) = (toL R).map (jV c) := by
  have e2 : (upX (relF 3 c) R.2.1.toNat 0 R).2 = R.2 := rel_2
  refine toL_ext (by rw [List.length_map, toL_len, e2]) (fun i hi => ?_)
  rw [e2] at hi
  rw [List.getElem?_map, toL_get hi]
  show some (jV c (uR R.1 i)) = _
  refine congrArg some ?_
  unfold uR jV
  rw [rel_ne (by omega), rel_ne (w' := 2) (by omega)]
  show (R.1 0 i, if R.1 2 i = c then -1 else R.1 2 i, if R.1 3 i = c then -1 else R.1 3 i) = _
  rw [if_neg (h3 i (by omega) (by omega)), rel_at]
  show _ = (R.1 0 i, R.1 2 i, (if (3 : Int) = 3 ∧ (0 : Int) ≤ i ∧ (i : Int) < 0 + (R.2.1.toNat : Int) ∧ R.1 3 i = c then -1 else R.1 3 i))
  by_cases q : R.1 3 i = c
  · rw [if_pos q, if_pos ⟨rfl, by omega, by omega, q⟩]
  · rw [if_neg q, if_neg (fun z => q z.2.2.2)]
def gD (w c : Int) (v : Un) : Option Un := if (if w = 2 then v.2.1 else v.2.2) = c then none else some v
theorem toL_drpw {w : Int} (hw : w = 2 ∨ w = 3) (h : PlR R) (hn : 0 ≤ R.2.1) : PlR (dnX (drpF (fun R i => decide (R.1 w i = c))) R.2.1.toNat (R.2.1 - 1) R) ∧ toL (dnX (drpF (fun R i => decide (R.1 w i = c))) R.2.1.toNat (R.2.1 - 1) R) = (toL R).filterMap (gD w c) := by
  have key := dn_list (f := drpF (fun R i => decide (R.1 w i = c))) (g := gD w c) (Pp := PlR) (fun R i pre v post hP h hi => by
    obtain ⟨e, h0, h1⟩ := toL_at h hi
    have ew : R.1 w i = (if w = 2 then v.2.1 else v.2.2) := by
      rw [e]
      rcases hw with q | q <;> subst q <;> rfl
    by_cases q : (if w = 2 then v.2.1 else v.2.2) = c
    · rw [show drpF (fun R i => decide (R.1 w i = c)) R i = drpR R i from if_pos (decide_eq_true (ew.trans q)), show gD w c v = none from if_pos q]
      exact ⟨hP.drp, toL_dropM h hi⟩
    · rw [show drpF (fun R i => decide (R.1 w i = c)) R i = R from if_neg (by rw [decide_eq_true_eq, ew]; exact q), show gD w c v = some v from if_neg q]
      exact ⟨hP, h⟩) R.2.1.toNat R (R.2.1 - 1) [] (toL R) [] h (by rw [List.append_nil]; rfl) toL_len (by show R.2.1 - 1 = ((0 : Nat) : Int) + _ - 1; omega)
  rw [List.append_nil] at key
  exact key
theorem PpL.setl (h : PpL D) {acc : Bool} (hc : 0 ≤ c ∧ c < D.2.1.1) : PpL (setlD D c acc) ∧ toL (setlD D c acc).1 = jD c acc (toL D.1) := by
  have hn := h.nn
  have hk := h.2.2 c hc.1 hc.2
  have hP : PlR D.1 := h.2.1
  have main : PlR (setlR D.1 (D.2.1.2.1 c) c acc) ∧ toL (setlR D.1 (D.2.1.2.1 c) c acc) = jD c acc (toL D.1) := by
    unfold setlR
    rcases hk with hk | hk
    · rw [hk, if_pos rfl]
      have h3 : ∀ i, 0 ≤ i → i < D.1.2.1 → D.1.1 3 i ≠ c := fun i h0 h1 => h.1.1.no3 hc.1 (by omega) h0 (by omega)
      cases acc with
      | true =>
        rw [if_pos rfl]
        refine ⟨hP.rel (Or.inl rfl), (toL_rel2 h3).trans (jD_map _ (fun v hv q => ?_)).symm⟩
        obtain ⟨i, i0, i1, e⟩ := toL_mem hv
        have q2 : v.2.2 = c := of_decide_eq_true q
        rw [e] at q2
        exact h3 i i0 i1 q2
      | false =>
        rw [if_neg (by decide)]
        obtain ⟨p1, p2⟩ := toL_drpw (c := c) (w := 2) (Or.inl rfl) hP hn.1
        refine ⟨p1, p2.trans (jD_fm _ (fun v hv => ?_))⟩
        obtain ⟨i, i0, i1, e⟩ := toL_mem hv
        show (if v.2.1 = c then none else some v) = if decide (v.2.1 = c) = true then none else some (jV c v)
        by_cases q : v.2.1 = c
        · rw [if_pos q, if_pos (decide_eq_true q)]
        · rw [if_neg q, if_neg (by simpa using q), jV_id q (by rw [e]; exact h3 i i0 i1)]
    · rw [hk, if_neg (by decide), if_pos rfl]
      have h3 : ∀ i, 0 ≤ i → i < D.1.2.1 → D.1.1 2 i ≠ c := fun i h0 h1 => h.1.1.no2 hc.1 (by omega) h0 (by omega)
      cases acc with
      | true =>
        rw [if_pos rfl]
        obtain ⟨p1, p2⟩ := toL_drpw (c := c) (w := 3) (Or.inr rfl) hP hn.1
        refine ⟨p1, p2.trans (jD_fm _ (fun v hv => ?_))⟩
        obtain ⟨i, i0, i1, e⟩ := toL_mem hv
        show (if v.2.2 = c then none else some v) = if decide (v.2.2 = c) = true then none else some (jV c v)
        by_cases q : v.2.2 = c
        · rw [if_pos q, if_pos (decide_eq_true q)]
        · rw [if_neg q, if_neg (by simpa using q), jV_id (by rw [e]; exact h3 i i0 i1) q]
      | false =>
        rw [if_neg (by decide)]
        refine ⟨hP.rel (Or.inr rfl), (toL_rel3 h3).trans (jD_map _ (fun v hv q => ?_)).symm⟩
        obtain ⟨i, i0, i1, e⟩ := toL_mem hv
        have q2 : v.2.1 = c := of_decide_eq_true q
        rw [e] at q2
        exact h3 i i0 i1 q2
  exact ⟨⟨h.1.setl hc, main.1, h.2.2⟩, main.2⟩
theorem PpL.wr (h : PpL D) {i l : Int} {tr : Bool} (ha : 0 ≤ a ∧ a < 4) (hi : 0 ≤ i ∧ i ≤ D.1.2.1) (hn : D.1.2.1 < 200) (h60 : tr = true → chAhD D a i = -1 → D.2.1.1 < 60) (hl : l = 47 ∨ l = 32 ∨ (97 ≤ l ∧ l ≤ 122)) : PpL (wrD D tr a i l (-1)) := by
  refine ⟨h.1.wr (nf' := 0) ha hi hn (Int.le_refl _) h60 (Or.inl ⟨rfl, rfl, hl⟩), PlR.put h.2.1, fun c h0 h1 => ?_⟩
  unfold wrD at h1 ⊢
  by_cases q : tr = true ∧ chAhD D a i = -1
  · have e : (if tr = true ∧ chAhD D a i = -1 then enrL D.2.1 105 a else D.2.1) = enrL D.2.1 105 a := if_pos q
    show (if tr = true ∧ chAhD D a i = -1 then enrL D.2.1 105 a else D.2.1).2.1 c = 105 ∨ (if tr = true ∧ chAhD D a i = -1 then enrL D.2.1 105 a else D.2.1).2.1 c = 101
    have h2 : c < (if tr = true ∧ chAhD D a i = -1 then enrL D.2.1 105 a else D.2.1).1 := h1
    rw [e] at h2 ⊢
    have h3 : c < D.2.1.1 + 1 := h2
    show (if c = D.2.1.1 then (105 : Int) else D.2.1.2.1 c) = 105 ∨ (if c = D.2.1.1 then (105 : Int) else D.2.1.2.1 c) = 101
    by_cases q2 : c = D.2.1.1
    · rw [if_pos q2]; exact Or.inl rfl
    · rw [if_neg q2]; exact h.2.2 c h0 (by omega)
  · have e : (if tr = true ∧ chAhD D a i = -1 then enrL D.2.1 105 a else D.2.1) = D.2.1 := if_neg q
    show (if tr = true ∧ chAhD D a i = -1 then enrL D.2.1 105 a else D.2.1).2.1 c = 105 ∨ (if tr = true ∧ chAhD D a i = -1 then enrL D.2.1 105 a else D.2.1).2.1 c = 101
    have h2 : c < (if tr = true ∧ chAhD D a i = -1 then enrL D.2.1 105 a else D.2.1).1 := h1
    rw [e] at h2 ⊢
    exact h.2.2 c h0 h2
end ToN
