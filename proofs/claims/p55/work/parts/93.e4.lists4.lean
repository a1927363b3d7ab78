/-! What erasing does, on the list. -/
section ToO
variable {R : RowD} {D : PapD} {F : Int → Int → Int} {L : LogD} {au : Int → Int} {nf ns a c n : Int}
def gE (au : Int → Int) (a c : Int) (tr : Bool) (v : Un) : Option Un := if v.2.2 < 0 then (if tr = true ∧ ownV au a v = false then some (v.1, v.2.1, c) else none) else some v
theorem erL_fm {tr : Bool} : ∀ (l : List Un) (s : Nat), (s : Int) ≤ cntS l → (l.take (atL l s).toNat).filterMap (gE au a c tr) ++ l.drop (atL l s).toNat = erL au a c tr l s
  | [], s, hs => by
    rw [atL, erL]
    rfl
  | v :: t, s, hs => by
    have ht := atL_le t
    rw [cntS] at hs
    by_cases hv : v.2.2 < 0
    · rw [if_pos hv] at hs
      by_cases hk : s = 0
      · subst hk
        rw [show ((0 : Nat) : Int) = 0 from rfl, atL_s0 hv, erL_0]
        rfl
      · have ih := erL_fm (tr := tr) t (s - 1) (by omega)
        rw [show ((s - 1 : Nat) : Int) = (s : Int) - 1 by omega] at ih
        have h2 := (ht ((s : Int) - 1)).1
        rw [atL_s1 hv (by omega), show (1 + atL t ((s : Int) - 1)).toNat = (atL t ((s : Int) - 1)).toNat + 1 by omega, List.take_succ_cons, List.drop_succ_cons, List.filterMap_cons, erL, if_neg hk, if_pos hv]
        by_cases q : tr = true ∧ ownV au a v = false
        · rw [show gE au a c tr v = some (v.1, v.2.1, c) from (if_pos hv).trans (if_pos q), if_pos q, ← ih]
          rfl
        · rw [show gE au a c tr v = none from (if_pos hv).trans (if_neg q), if_neg q, ← ih]
    · rw [if_neg hv] at hs
      have ih := erL_fm (tr := tr) t s (by omega)
      have h2 := (ht (s : Int)).1
      rw [atL_u (by omega), show (1 + atL t (s : Int)).toNat = (atL t (s : Int)).toNat + 1 by omega, List.take_succ_cons, List.drop_succ_cons, List.filterMap_cons, show gE au a c tr v = some v from if_neg hv, erL]
      by_cases hk : s = 0
      · subst hk
        rw [if_pos rfl]
        rw [erL_0] at ih
        exact congrArg (v :: ·) ih
      · rw [if_neg hk, if_neg hv]
        exact congrArg (v :: ·) ih
theorem erL_c {c' : Int} : ∀ (l : List Un) (s : Nat), ndL au a l s = false → erL au a c true l s = erL au a c' true l s
  | [], s, _ => rfl
  | v :: t, s, h => by
    rw [ndL] at h
    rw [erL, erL]
    by_cases hk : s = 0
    · rw [if_pos hk, if_pos hk]
    · rw [if_neg hk] at h ⊢
      rw [if_neg hk]
      by_cases hv : v.2.2 < 0
      · rw [if_pos hv] at h ⊢
        rw [if_pos hv]
        rw [Bool.or_eq_false_iff] at h
        have q : ¬ (true = true ∧ ownV au a v = false) := fun z => by
          rw [z.2] at h
          exact absurd h.1 (by decide)
        rw [if_neg q, if_neg q]
        exact erL_c t (s - 1) h.2
      · rw [if_neg hv] at h ⊢
        rw [if_neg hv]
        exact congrArg (v :: ·) (erL_c t s h)
/-- units, as erasing meets them -/
def ErP (au : Int → Int) (L : LogD) (a : Int) (R : RowD) : Prop := PlR R ∧ ∀ i, 0 ≤ i → i < R.2.1 → waitsD L (R.1 2 i) a = decide (0 ≤ R.1 2 i ∧ au (R.1 2 i) = a) ∧ -1 ≤ R.1 3 i
theorem ErP.drp {i : Int} (h : ErP au L a R) (h0 : 0 ≤ i) (h1 : i < R.2.1) : ErP au L a (drpR R i) := ⟨h.1.drp, fun j j0 j1 => by
  have j2 : j < R.2.1 - 1 := j1
  rw [drp_at, drp_at]
  by_cases q : j < i
  · rw [if_pos q, if_pos q]; exact h.2 j j0 (by omega)
  · rw [if_neg q, if_neg q]; exact h.2 (j + 1) (by omega) (by omega)⟩
theorem ErP.set {i z : Int} (h : ErP au L a R) (hz : -1 ≤ z) : ErP au L a (setR R 3 i z) := ⟨h.1.set (Or.inr rfl), fun j j0 j1 => by
  rw [setR_at, setR_at, if_neg (by omega)]
  refine ⟨(h.2 j j0 j1).1, ?_⟩
  by_cases q : j = i
  · rw [if_pos ⟨rfl, q⟩]; exact hz
  · rw [if_neg (fun z => q z.2)]; exact (h.2 j j0 j1).2⟩
theorem stk_list {C : Int} (hC : -1 ≤ C) {pre mid post : List Un} (hE : ErP au L a R) (hl : toL R = pre ++ (mid ++ post)) {m : Nat} (hm : mid.length = m) {i : Int} (hi : i = pre.length + m - 1) : ErP au L a (dnX (stkF L a C) m i R) ∧ toL (dnX (stkF L a C) m i R) = pre ++ (mid.filterMap (gE au a C true) ++ post) := by
  refine dn_list (Pp := ErP au L a) (fun R i pre v post hP h hi => ?_) m R i pre mid post hE hl hm hi
  obtain ⟨e, h0, h1⟩ := toL_at h hi
  obtain ⟨hw, hg⟩ := hP.2 i h0 h1
  have e2 : v.2.2 = R.1 3 i := by rw [e]; rfl
  have e3 : ownV au a v = waitsD L (R.1 2 i) a := by rw [hw, e]; rfl
  unfold stkF gE
  by_cases q : R.1 3 i = -1
  · have hs : seenB R.1 R.2.1 i = true := decide_eq_true ⟨h0, by omega, q⟩
    rw [if_pos hs, if_pos (show v.2.2 < 0 by omega), e3]
    by_cases w : waitsD L (R.1 2 i) a = true
    · rw [if_pos w, if_neg (by rw [w]; decide)]
      exact ⟨hP.drp h0 h1, toL_dropM h hi⟩
    · rw [if_neg w, if_pos ⟨rfl, by simpa using w⟩]
      exact ⟨hP.set hC, toL_setM h hi⟩
  · have hs : ¬ seenB R.1 R.2.1 i = true := fun z => q (of_decide_eq_true z).2.2
    rw [if_neg hs, if_neg (show ¬ v.2.2 < 0 by omega)]
    exact ⟨hP, h⟩
theorem rub_list {pre mid post : List Un} (hE : ErP au L a R) (hl : toL R = pre ++ (mid ++ post)) {m : Nat} (hm : mid.length = m) {i : Int} (hi : i = pre.length + m - 1) : ErP au L a (dnX (drpF (fun R i => seenB R.1 R.2.1 i)) m i R) ∧ toL (dnX (drpF (fun R i => seenB R.1 R.2.1 i)) m i R) = pre ++ (mid.filterMap (gE au a c false) ++ post) := by
  refine dn_list (Pp := ErP au L a) (fun R i pre v post hP h hi => ?_) m R i pre mid post hE hl hm hi
  obtain ⟨e, h0, h1⟩ := toL_at h hi
  obtain ⟨hw, hg⟩ := hP.2 i h0 h1
  have e2 : v.2.2 = R.1 3 i := by rw [e]; rfl
  by_cases q : R.1 3 i = -1
  · have hs : seenB R.1 R.2.1 i = true := decide_eq_true ⟨h0, by omega, q⟩
    rw [show drpF (fun R i => seenB R.1 R.2.1 i) R i = drpR R i from if_pos hs, show gE au a c false v = none from (if_pos (show v.2.2 < 0 by omega)).trans (if_neg (fun z => absurd z.1 (by decide)))]
    exact ⟨hP.drp h0 h1, toL_dropM h hi⟩
  · have hs : ¬ seenB R.1 R.2.1 i = true := fun z => q (of_decide_eq_true z).2.2
    rw [show drpF (fun R i => seenB R.1 R.2.1 i) R i = R from if_neg hs, show gE au a c false v = some v from if_neg (show ¬ v.2.2 < 0 by omega)]
    exact ⟨hP, h⟩
theorem PpL.erp (h : PpL D) {L : LogD} (hL : ∀ m, mkOK D.2.1 105 m → waitsD L m a = waitsD D.2.1 m a) : ErP D.2.1.2.2.1 L a D.1 := ⟨h.2.1, fun i h0 h1 => by
  obtain ⟨u1, u2, -⟩ := h.u h0 (by omega)
  exact ⟨(hL _ u1).trans (h.own h0 (by omega)), u2.ge.1⟩⟩
theorem split3 {l : List Un} {x k : Nat} : l = l.take x ++ ((l.drop x).take k ++ (l.drop x).drop k) := by rw [List.take_append_drop, List.take_append_drop]
theorem PpL.strike (h : PpL D) (ha : 0 ≤ a ∧ a < 4) {x y : Int} {s : Nat} (h0 : 0 ≤ x) (h1 : x ≤ D.1.2.1) (hs : (s : Int) ≤ cntS ((toL D.1).drop x.toNat)) (hy : y = x + atL ((toL D.1).drop x.toNat) s) (h60 : D.2.1.1 < 60) : PpL (strikeD D a x y) ∧ toL (strikeD D a x y).1 = (toL D.1).take x.toNat ++ erL D.2.1.2.2.1 a D.2.1.1 true ((toL D.1).drop x.toNat) s := by
  have hn := h.nn
  have hnd := h.need (a := a) h0 h1 hs
  rw [← hy] at hnd
  have hat := atL_le ((toL D.1).drop x.toNat) s
  rw [List.length_drop, toL_len] at hat
  have hyn : y ≤ D.1.2.1 := by omega
  have hC : -1 ≤ stkC D a x y := by
    have := h.1.2.1.1.1
    unfold stkC
    split <;> omega
  obtain ⟨k1, k2⟩ := stk_list (R := D.1) (L := stkL D a x y) (au := D.2.1.2.2.1) hC (h.erp (fun m hm => stkL_w hm)) (split3 (x := x.toNat) (k := (y - x).toNat)) (m := (y - x).toNat) (i := y - 1) (by rw [List.length_take, List.length_drop, toL_len]; omega) (by rw [List.length_take, toL_len]; omega)
  rw [show (y - x).toNat = (atL ((toL D.1).drop x.toNat) s).toNat by omega, erL_fm _ _ hs] at k2
  rw [show (atL ((toL D.1).drop x.toNat) s).toNat = (y - x).toNat by omega] at k2
  refine ⟨⟨h.1.strike ha h0 hyn (by omega) (fun _ => h60), k1.1, fun c c0 c1 => ?_⟩, k2.trans (congrArg (List.take x.toNat (toL D.1) ++ ·) ?_)⟩
  · have c2 : c < (stkL D a x y).1 := c1
    show (stkL D a x y).2.1 c = 105 ∨ (stkL D a x y).2.1 c = 101
    unfold stkL at c2 ⊢
    by_cases q : needD D a x y = true
    · rw [if_pos q] at c2 ⊢
      have h3 : c < D.2.1.1 + 1 := c2
      show (if c = D.2.1.1 then (101 : Int) else D.2.1.2.1 c) = 105 ∨ (if c = D.2.1.1 then (101 : Int) else D.2.1.2.1 c) = 101
      by_cases q2 : c = D.2.1.1
      · rw [if_pos q2]; exact Or.inr rfl
      · rw [if_neg q2]; exact h.2.2 c c0 (by omega)
    · rw [if_neg q] at c2 ⊢
      exact h.2.2 c c0 c2
  · by_cases q : needD D a x y = true
    · rw [show stkC D a x y = D.2.1.1 from if_pos q]
    · rw [hnd] at q
      exact erL_c _ _ (by simpa using q)
theorem PpL.rub (h : PpL D) {x y : Int} {s : Nat} (h0 : 0 ≤ x) (h1 : x ≤ D.1.2.1) (hs : (s : Int) ≤ cntS ((toL D.1).drop x.toNat)) (hy : y = x + atL ((toL D.1).drop x.toNat) s) : PpL (dnX (drpF (fun R i => seenB R.1 R.2.1 i)) (y - x).toNat (y - 1) D.1, D.2) ∧ toL (dnX (drpF (fun R i => seenB R.1 R.2.1 i)) (y - x).toNat (y - 1) D.1) = (toL D.1).take x.toNat ++ erL D.2.1.2.2.1 a c false ((toL D.1).drop x.toNat) s := by
  have hn := h.nn
  have hat := atL_le ((toL D.1).drop x.toNat) s
  rw [List.length_drop, toL_len] at hat
  have hyn : y ≤ D.1.2.1 := by omega
  obtain ⟨k1, k2⟩ := rub_list (R := D.1) (c := c) (L := D.2.1) (a := a) (au := D.2.1.2.2.1) (h.erp (fun m hm => rfl)) (split3 (x := x.toNat) (k := (y - x).toNat)) (m := (y - x).toNat) (i := y - 1) (by rw [List.length_take, List.length_drop, toL_len]; omega) (by rw [List.length_take, toL_len]; omega)
  refine ⟨⟨h.1.drops h0 hyn (by omega), k1.1, h.2.2⟩, ?_⟩
  rw [← erL_fm _ _ hs, k2, show (y - x).toNat = (atL ((toL D.1).drop x.toNat) s).toNat by omega]
end ToO
