/-! What is written, erased, restyled: what is kept, and the two ways are one. -/
section Edm
variable {nf ns : Int} {L : LogD} {R : RowD} {D : PapD}
theorem put_at {i l fd c w j : Int} : (putR R i l fd c).1 w j = if j < i then R.1 w j else if j = i then (if w = 0 then l else if w = 1 then fd else if w = 2 then c else if w = 3 then -1 else if w = 4 then -1 else if w = 6 then 0 else if w = 9 then 0 else R.1 w (endFr R.1 R.2.1 i)) else R.1 w (j - 1) := rfl
theorem fcN_put {i l fd c : Int} (h0 : 0 ≤ i) (h1 : i ≤ R.2.1) : fcN (putR R i l fd c) = fcN R + (if fd ≠ -1 then 1 else 0) := by
  unfold fcN
  have e := sumF_ins (f := ind (fun j => decide (R.1 1 j ≠ -1))) (z := if fd ≠ -1 then 1 else 0) h0 (R.2.1 + 1).toNat (by omega)
  have e3 : (putR R i l fd c).2.1 + 1 = R.2.1 + 1 + 1 := rfl
  rw [e3, show (R.2.1 + 1 + 1).toNat = (R.2.1 + 1).toNat + 1 by omega, ← e]
  refine sumF_congr _ (fun j _ _ => ?_)
  by_cases c1 : j < i
  · rw [if_pos c1]; exact ind_ne (by rw [put_at, if_pos c1])
  · rw [if_neg c1]
    by_cases c2 : j = i
    · rw [if_pos c2]
      have e1 : (putR R i l fd c).1 1 j = fd := by rw [put_at, if_neg c1, if_pos c2, if_neg (by decide), if_pos rfl]
      by_cases c3 : fd = -1
      · rw [if_neg (fun z => z c3)]
        exact ind_f (by rw [decide_eq_true_eq, e1]; exact fun z => z c3)
      · rw [if_pos c3]
        exact ind_t (by rw [decide_eq_true_eq, e1]; exact c3)
    · rw [if_neg c2]; exact ind_ne (f := fun j => (putR R i l fd c).1 1 j) (g := fun j => R.1 1 j) (j := j) (k := j - 1) (by show (putR R i l fd c).1 1 j = _; rw [put_at, if_neg c1, if_neg c2])
theorem RwI.put {nf' i l fd c : Int} (h : RwI nf ns L R) (hi : 0 ≤ i ∧ i ≤ R.2.1) (hn : R.2.1 < 200) (h0 : 0 ≤ nf) (hl : (fd = -1 ∧ nf' = nf ∧ (l = 47 ∨ l = 32 ∨ (97 ≤ l ∧ l ≤ 122))) ∨ (fd = nf ∧ nf' = nf + 1 ∧ l = 64)) (hc : mkOK L 105 c) : RwI nf' ns L (putR R i l fd c) := by
  have hff := fcN_put (R := R) (l := l) (fd := fd) (c := c) hi.1 hi.2
  have hfn : nf ≤ nf' := by omega
  obtain ⟨hE, b, c', d, e, f⟩ := h
  obtain ⟨a1, a2, a3, a4⟩ := id hE
  obtain ⟨g1, g2, g3, g4⟩ := endFr_end hE hi.1 hi.2
  have hn1 : (putR R i l fd c).2.1 = R.2.1 + 1 := rfl
  have hlast : ∀ w, (putR R i l fd c).1 w (R.2.1 + 1) = R.1 w R.2.1 := fun w => by rw [put_at, if_neg (by omega), if_neg (by omega), show R.2.1 + 1 - 1 = R.2.1 by omega]
  refine ⟨⟨by omega, by omega, by rw [hn1, hlast]; exact a3, by rw [hn1, hlast]; exact a4⟩, b.rm hi hn, by rw [hn1, hlast]; exact c', fun j j0 j1 => ?_, fun j k j0 j1 k0 k1 q1 q2 => ?_, ?_⟩
  · rw [hn1] at j1
    by_cases c1 : j < i
    · exact UnI.of hfn (Int.le_refl _) (fun _ _ z => z) (fun w => by rw [put_at, if_pos c1]) (d j j0 (by omega))
    · by_cases c2 : j = i
      · have p : ∀ w, (putR R i l fd c).1 w j = (if w = 0 then l else if w = 1 then fd else if w = 2 then c else if w = 3 then -1 else if w = 4 then -1 else if w = 6 then 0 else if w = 9 then 0 else R.1 w (endFr R.1 R.2.1 i)) := fun w => by rw [put_at, if_neg c1, if_pos c2]
        obtain ⟨-, -, -, -, -, q6⟩ := d (endFr R.1 R.2.1 i) (by omega) g2
        have q7 := q6 g4
        unfold UnI
        have p0 := p 0
        have p1 := p 1
        have p2 := p 2
        have p3 := p 3
        have p4 := p 4
        have p5 := p 5
        have p7 := p 7
        have p8 := p 8
        have p9 := p 9
        simp (config := { decide := true }) only [if_true, if_false] at p0 p1 p2 p3 p4 p5 p7 p8 p9
        rw [p0, p1, p2, p3, p4, p5, p7, p8, p9]
        refine ⟨?_, hc, Or.inl rfl, Or.inl rfl, fun z => absurd rfl z, fun z => ⟨q7.1, q7.2.1, q7.2.2.1, by omega⟩⟩
        rcases hl with z | z
        · exact Or.inl ⟨z.1, z.2.2⟩
        · exact Or.inr (by omega)
      · exact UnI.of hfn (Int.le_refl _) (fun _ _ z => z) (fun w => by rw [put_at, if_neg c1, if_neg c2]) (d (j - 1) (by omega) (by omega))
  · rw [hn1] at j1 k1
    have p : ∀ j, (putR R i l fd c).1 4 j = if j < i then R.1 4 j else if j = i then -1 else R.1 4 (j - 1) := fun j => by rw [put_at]; rfl
    rw [p] at q1 q2
    rw [p] at q2
    by_cases c1 : j < i
    · rw [if_pos c1] at q1 q2
      by_cases c2 : k < i
      · rw [if_pos c2] at q2
        exact e j k j0 (by omega) k0 (by omega) q1 q2
      · rw [if_neg c2] at q2
        by_cases c3 : k = i
        · rw [if_pos c3] at q2; exact absurd q2 q1
        · rw [if_neg c3] at q2
          have := e j (k - 1) j0 (by omega) (by omega) (by omega) q1 q2
          omega
    · rw [if_neg c1] at q1 q2
      by_cases c4 : j = i
      · rw [if_pos c4] at q1; exact absurd rfl q1
      · rw [if_neg c4] at q1 q2
        by_cases c2 : k < i
        · rw [if_pos c2] at q2
          have := e (j - 1) k (by omega) (by omega) k0 (by omega) q1 q2
          omega
        · rw [if_neg c2] at q2
          by_cases c3 : k = i
          · rw [if_pos c3] at q2; exact absurd q2 q1
          · rw [if_neg c3] at q2
            have := e (j - 1) (k - 1) (by omega) (by omega) (by omega) (by omega) q1 q2
            omega
  · rw [hff]
    rcases hl with z | z
    · rw [if_neg (fun y => y z.1)]; omega
    · rw [if_pos (by omega)]; omega
theorem mk_enr {k a kd c : Int} (h : mkOK L kd c) : mkOK (enrL L k a) kd c := by
  rcases h with h | ⟨a1, b1, d1, e1⟩
  · exact Or.inl h
  · refine Or.inr ⟨a1, by show c < L.1 + 1; omega, ?_, ?_⟩
    · show (if c = L.1 then k else L.2.1 c) = kd
      rw [if_neg (by omega)]; exact d1
    · show (if c = L.1 then 119 else L.2.2.2 c) = 119
      rw [if_neg (by omega)]; exact e1
theorem mk_new {k a : Int} (h : 0 ≤ L.1) : mkOK (enrL L k a) k L.1 := by
  refine Or.inr ⟨h, by show L.1 < L.1 + 1; omega, ?_, ?_⟩
  · show (if L.1 = L.1 then k else _) = k
    rw [if_pos rfl]
  · show (if L.1 = L.1 then (119 : Int) else _) = 119
    rw [if_pos rfl]
theorem LgI.enr {k a : Int} (h : LgI L) (hl : L.1 < 60) (hk : k = 105 ∨ k = 101 ∨ k = 115) (ha : 0 ≤ a ∧ a < 4) : LgI (enrL L k a) := by
  refine ⟨⟨by show 0 ≤ L.1 + 1; have := h.1.1; omega, by show L.1 + 1 ≤ 60; omega⟩, fun c c0 c1 => ?_⟩
  have c2 : c < L.1 + 1 := c1
  show ((if c = L.1 then k else L.2.1 c) = 105 ∨ (if c = L.1 then k else L.2.1 c) = 101 ∨ (if c = L.1 then k else L.2.1 c) = 115) ∧ (0 ≤ (if c = L.1 then a else L.2.2.1 c) ∧ (if c = L.1 then a else L.2.2.1 c) < 4) ∧ ((if c = L.1 then (119 : Int) else L.2.2.2 c) = 119 ∨ (if c = L.1 then (119 : Int) else L.2.2.2 c) = 97 ∨ (if c = L.1 then (119 : Int) else L.2.2.2 c) = 114)
  by_cases e : c = L.1
  · rw [if_pos e, if_pos e, if_pos e]; exact ⟨hk, ha, Or.inl rfl⟩
  · rw [if_neg e, if_neg e, if_neg e]; exact h.2 c c0 (by omega)
theorem PpI.wr {nf' a i l fd : Int} {tr : Bool} (h : PpI nf ns D) (ha : 0 ≤ a ∧ a < 4) (hi : 0 ≤ i ∧ i ≤ D.1.2.1) (hn : D.1.2.1 < 200) (h0 : 0 ≤ nf) (h60 : tr = true → chAhD D a i = -1 → D.2.1.1 < 60) (hl : (fd = -1 ∧ nf' = nf ∧ (l = 47 ∨ l = 32 ∨ (97 ≤ l ∧ l ≤ 122))) ∨ (fd = nf ∧ nf' = nf + 1 ∧ l = 64)) : PpI nf' ns (wrD D tr a i l fd) := by
  obtain ⟨p1, p2, p3, p4⟩ := h
  have hq : ∀ f, nf' ≤ f → f < 20 → D.2.2 f = 0 := fun f f0 f1 => p4 f (by omega) f1
  have hch : mkOK D.2.1 105 (chAhD D a i) := by
    unfold chAhD
    by_cases q : 0 < i ∧ waitsD D.2.1 (D.1.1 2 (i - 1)) a = true
    · rw [if_pos q]; exact (p1.2.2.2.1 (i - 1) (by omega) (by omega)).2.1
    · rw [if_neg q]; exact Or.inl rfl
  unfold wrD wrC
  by_cases ht : tr = true
  · rw [if_pos ht]
    by_cases hc : chAhD D a i = -1
    · rw [if_pos hc, if_pos ⟨ht, hc⟩]
      exact ⟨(p1.log (Int.le_refl _) (Int.le_refl _) (fun _ _ z => mk_enr z)).put hi hn h0 hl (mk_new p2.1.1), p2.enr (h60 ht hc) (Or.inl rfl) ha, p3, hq⟩
    · rw [if_neg hc, if_neg (fun z => hc z.2)]
      exact ⟨p1.put hi hn h0 hl hch, p2, p3, hq⟩
  · rw [if_neg ht, if_neg (fun z => ht z.1)]
    exact ⟨p1.put hi hn h0 hl (Or.inl rfl), p2, p3, hq⟩
theorem PpI.mono {nf' ns' : Int} (h : PpI nf ns D) (hf : nf ≤ nf') (hs : ns ≤ ns') : PpI nf' ns' D :=
  ⟨h.1.log hf hs (fun _ _ z => z), h.2.1, h.2.2.1, fun f f0 f1 => h.2.2.2 f (Int.le_trans hf f0) f1⟩
theorem waits_enr {k b kd m a : Int} (h : mkOK L kd m) : waitsD (enrL L k b) m a = waitsD L m a := by
  unfold waitsD
  refine decide_eq_decide.mpr ?_
  show (0 ≤ m ∧ m < L.1 + 1 ∧ (if m = L.1 then (119 : Int) else L.2.2.2 m) = 119 ∧ (if m = L.1 then b else L.2.2.1 m) = a) ↔ _
  rcases h with h | ⟨a1, b1, d1, e1⟩
  · constructor <;> intro z <;> omega
  · rw [if_neg (by omega), if_neg (by omega)]
    constructor
    · intro z; exact ⟨z.1, b1, z.2.2⟩
    · intro z; exact ⟨z.1, by omega, z.2.2⟩
theorem RwI.er {m i : Int} (h : RwI nf ns L R) (hi : 0 ≤ i ∧ i < R.2.1) (hm : mkOK L 101 m) : RwI nf ns L (setR R 3 i m) := by
  have s : ∀ w j, w ≠ 3 → (setR R 3 i m).1 w j = R.1 w j := fun w j hw => setR_ne (fun z => hw z.1)
  refine h.gen rfl (by rw [s 0 _ (by decide)]; exact h.1.2.2.2) (fun j => s 1 j (by decide)) (by rw [s 2 _ (by decide)]; exact h.2.2.1) (by rw [setR_ne (by omega)]; exact h.1.2.2.1) (h.2.2.2.2.1.sub rfl (fun j => Or.inl (s 4 j (by decide)))) (fun j j0 j1 => ?_)
  obtain ⟨q1, q2, q3, q4, q5, q6⟩ := h.2.2.2.1 j j0 j1
  unfold UnI
  rw [s 0 _ (by decide), s 1 _ (by decide), s 2 _ (by decide), s 4 _ (by decide), s 5 _ (by decide), s 6 _ (by decide), s 7 _ (by decide), s 8 _ (by decide), s 9 _ (by decide)]
  refine ⟨q1, q2, ?_, q4, q5, q6⟩
  rw [setR_at]
  split
  · exact hm
  · exact q3
theorem stkL_w {a x y kd m : Int} (h : mkOK D.2.1 kd m) : waitsD (stkL D a x y) m a = waitsD D.2.1 m a := by
  unfold stkL
  split
  · exact waits_enr h
  · rfl
theorem PpI.strike {a x y : Int} (h : PpI nf ns D) (ha : 0 ≤ a ∧ a < 4) (hx : 0 ≤ x) (hy : y ≤ D.1.2.1) (hxy : x ≤ y) (h60 : needD D a x y = true → D.2.1.1 < 60) : PpI nf ns (strikeD D a x y) := by
  obtain ⟨p1, p2, p3, p4⟩ := h
  have hL : ∀ kd c, mkOK D.2.1 kd c → mkOK (stkL D a x y) kd c := by
    intro kd c z
    unfold stkL
    split
    · exact mk_enr z
    · exact z
  have hm : needD D a x y = true → mkOK (stkL D a x y) 101 (stkC D a x y) := by
    intro z
    unfold stkL stkC
    rw [if_pos z, if_pos z]
    exact mk_new p2.1.1
  refine ⟨?_, ?_, p3, p4⟩
  · show RwI nf ns (stkL D a x y) (dnX (stkF (stkL D a x y) a (stkC D a x y)) (y - x).toNat (y - 1) D.1)
    refine (dnX_congr (f := stkF (stkL D a x y) a (stkC D a x y)) (g := stkF (stkL D a x y) a (stkC D a x y)) (lo := x) (P := fun A i => i < A.2.1 ∧ i < y ∧ RwI nf ns (stkL D a x y) A ∧ ∀ w j, j ≤ i → A.1 w j = D.1.1 w j) (fun A i i0 hP => ⟨rfl, ?_⟩) (y - x).toNat (y - 1) D.1 (by omega) ⟨by omega, by omega, p1.log (Int.le_refl _) (Int.le_refl _) hL, fun _ _ _ => rfl⟩).2.2.2.1
    obtain ⟨q1, q2, q3, q4⟩ := hP
    have hk : mkOK D.2.1 105 (D.1.1 2 i) := (p1.2.2.2.1 i (by omega) (by omega)).2.1
    unfold stkF
    by_cases hs : seenB A.1 A.2.1 i = true
    · rw [if_pos hs]
      by_cases hw : waitsD (stkL D a x y) (A.1 2 i) a = true
      · rw [if_pos hw]
        refine ⟨by show i - 1 < A.2.1 - 1; omega, by omega, q3.drp (by omega) q1, fun w j j1 => ?_⟩
        rw [drp_at, if_pos (by omega)]
        exact q4 w j (by omega)
      · rw [if_neg hw]
        have hnd : needD D a x y = true := by
          unfold needD
          refine (anyF_iff _ _).mpr ⟨i, i0, by omega, ?_⟩
          unfold othD
          have s1 : seenB D.1.1 D.1.2.1 i = true := by
            rw [seen_iff (by omega) (by omega)] at hs
            rw [seen_iff (R := D.1) (by omega) (by omega), ← q4 3 i (Int.le_refl _)]
            exact hs
          rw [q4 2 i (Int.le_refl _), stkL_w hk] at hw
          rw [s1]
          simpa using hw
        refine ⟨by show i - 1 < A.2.1; omega, by omega, q3.er ⟨by omega, q1⟩ (hm hnd), fun w j j1 => ?_⟩
        rw [setR_ne (by omega)]
        exact q4 w j (by omega)
    · rw [if_neg hs]
      exact ⟨by omega, by omega, q3, fun w j j1 => q4 w j (by omega)⟩
  · show LgI (stkL D a x y)
    unfold stkL
    by_cases z : needD D a x y = true
    · rw [if_pos z]; exact p2.enr (h60 z) (Or.inr (Or.inl rfl)) ha
    · rw [if_neg z]; exact p2
theorem PpI.drops {p : RowD → Int → Bool} {x y : Int} (h : PpI nf ns D) (hx : 0 ≤ x) (hy : y ≤ D.1.2.1) (hxy : x ≤ y) : PpI nf ns (dnX (drpF p) (y - x).toNat (y - 1) D.1, D.2) :=
  ⟨drp_all _ _ _ h.1 (by omega) (by omega), h.2⟩
end Edm
