/-! What is written, erased, restyled: what is kept, and the two ways are one. -/
section Edm
variable {nf ns : Int} {L : LogD} {R : RowD} {D : PapD}
theorem put_at {i l fd c w j : Int} : (putR R i l fd c).1 w j = if j < i then R.1 w j else if j = i then (if w = 0 then l else if w = 1 then fd else if w = 2 then c else if w = 3 then -1 else if w = 4 then -1 else if w = 6 then 0 else if w = 9 then 0 else R.1 w (endFr R.1 R.2.1 i)) else R.1 w (j - 1) := rfl
theorem fcN_put {i l fd c : Int} (h0 : 0 ≤ i) (h1 : i ≤ R.2.1) : fcN (putR R i l fd c) = fcN R + (if fd ≠ -1 then 1 else 0) := by
  unfold fcN
  have e := sumF_ins (f := ind (fun j => decide (R.1 1 j ≠ -1))) (z := if fd ≠ -1 then 1 else 0) h0 (R.2.1 + 1).toNat (by omega)
  have e3 : (putR R i l fd c).2.1 + 1 = R.2.1 + 1 + 1 := rfl
  rw [e3, show (R.2.1 + 1 + 1).toNat = (R.2.1 + 1).toNat + 1 by omega, ← e]
  refine sumF_congr _ (fun j _ _ => ?_)
  by_cases c1 : j < i
  · rw [if_pos c1]; exact ind_ne (by rw [put_at, if_pos c1])
  · rw [if_neg c1]
    by_cases c2 : j = i
    · rw [if_pos c2]
      have e1 : (putR R i l fd c).1 1 j = fd := by rw [put_at, if_neg c1, if_pos c2, if_neg (by decide), if_pos rfl]
      by_cases c3 : fd = -1
      · rw [if_neg (fun z => z c3)]
        exact ind_f (by rw [decide_eq_true_eq, e1]; exact fun z => z c3)
      · rw [if_pos c3]
        exact ind_t (by rw [decide_eq_true_eq, e1]; exact c3)
    · rw [if_neg c2]; exact ind_ne (f := fun j => (putR R i l fd c).1 1 j) (g := fun j => R.1 1 j) (j := j) (k := j - 1) (by show (putR R i l fd c).1 1 j = _; rw [put_at, if_neg c1, if_neg c2])
theorem RwI.put {nf' i l fd c : Int} (h : RwI nf ns L R) (hi : 0 ≤ i ∧ i ≤ R.2.1) (hn : R.2.1 < 200) (h0 : 0 ≤ nf) (hl : (fd = -1 ∧ nf' = nf ∧ (l = 47 ∨ l = 32 ∨ (97 ≤ l ∧ l ≤ 122))) ∨ (fd = nf ∧ nf' = nf + 1 ∧ l = 64)) (hc : mkOK L 105 c) : RwI nf' ns L (putR R i l fd c) := by
  have hff := fcN_put (R := R) (l := l) (fd := fd) (c := c) hi.1 hi.2
  have hfn : nf ≤ nf' := by omega
  obtain ⟨hE, b, c', d, e, f⟩ := h
  obtain ⟨a1, a2, a3, a4⟩ := id hE
  obtain ⟨g1, g2, g3, g4⟩ := endFr_end hE hi.1 hi.2
  have hn1 : (putR R i l fd c).2.1 = R.2.1 + 1 := rfl
  have hlast : ∀ w, (putR R i l fd c).1 w (R.2.1 + 1) = R.1 w R.2.1 := fun w => by rw [put_at, if_neg (by omega), if_neg (by omega), show R.2.1 + 1 - 1 = R.2.1 by omega]
  refine ⟨⟨by omega, by omega, by rw [hn1, hlast]; exact a3, by rw [hn1, hlast]; exact a4⟩, b.rm hi hn, by rw [hn1, hlast]; exact c', fun j j0 j1 => ?_, fun j k j0 j1 k0 k1 q1 q2 => ?_, ?_⟩
  · rw [hn1] at j1
    by_cases c1 : j < i
    · exact UnI.of hfn (Int.le_refl _) (fun _ _ z => z) (fun w => by rw [put_at, if_pos c1]) (d j j0 (by omega))
    · by_cases c2 : j = i
      · have p : ∀ w, (putR R i l fd c).1 w j = (if w = 0 then l else if w = 1 then fd else if w = 2 then c else if w = 3 then -1 else if w = 4 then -1 else if w = 6 then 0 else if w = 9 then 0 else R.1 w (endFr R.1 R.2.1 i)) := fun w => by rw [put_at, if_neg c1, if_pos c2]
        obtain ⟨-, -, -, -, -, q6⟩ := d (endFr R.1 R.2.1 i) (by omega) g2
        have q7 := q6 g4
        unfold UnI
        have p0 := p 0
        have p1 := p 1
        have p2 := p 2
        have p3 := p 3
        have p4 := p 4
        have p5 := p 5
        have p7 := p 7
        have p8 := p 8
        have p9 := p 9
        simp (config := { decide := true }) only [if_true, if_false] at p0 p1 p2 p3 p4 p5 p7 p8 p9
        rw [p0, p1, p2, p3, p4, p5, p7, p8, p9]
        refine ⟨?_, hc, Or.inl rfl, Or.inl rfl, fun z => absurd rfl z, fun z => ⟨q7.1, q7.2.1, q7.2.2.1, by omega⟩⟩
        rcases hl with z | z
        · exact Or.inl ⟨z.1, z.2.2⟩
        · exact Or.inr (by omega)
      · exact UnI.of hfn (Int.le_refl _) (fun _ _ z => z) (fun w => by rw [put_at, if_neg c1, if_neg c2]) (d (j - 1) (by omega) (by omega))
  · rw [hn1] at j1 k1
    have p : ∀ j, (putR R i l fd c).1 4 j = if j < i then R.1 4 j else if j = i then -1 else R.1 4 (j - 1) := fun j => by rw [put_at]; rfl
    rw [p] at q1 q2
    rw [p] at q2
    by_cases c1 : j < i
    · rw [if_pos c1] at q1 q2
      by_cases c2 : k < i
      · rw [if_pos c2] at q2
        exact e j k j0 (by omega) k0 (by omega) q1 q2
      · rw [if_neg c2] at q2
        by_cases c3 : k = i
        · rw [if_pos c3] at q2; exact absurd q2 q1
        · rw [if_neg c3] at q2
          have := e j (k - 1) j0 (by omega) (by omega) (by omega) q1 q2
          omega
    · rw [if_neg c1] at q1 q2
      by_cases c4 : j = i
      · rw [if_pos c4] at q1; exact absurd rfl q1
      · rw [if_neg c4] at q1 q2
        by_cases c2 : k < i
        · rw [if_pos c2] at q2
          have := e (j - 1) k (by omega) (by omega) k0 (by omega) q1 q2
          omega
        · rw [if_neg c2] at q2
          by_cases c3 : k = i
          · rw [if_pos c3] at q2; exact absurd q2 q1
          · rw [if_neg c3] at q2
            have := e (j - 1) (k - 1) (by omega) (by omega) (by omega) (by omega) q1 q2
            omega
  · rw [hff]
    rcases hl with z | z
    · rw [if_neg (fun y => y z.1)]; omega
    · rw [if_pos (by omega)]; omega
theorem mk_enr {k a kd c : Int} (h : mkOK L kd c) : mkOK (enrL L k a) kd c := by
  rcases h with h | ⟨a1, b1, d1, e1⟩
  · exact Or.inl h
  · refine Or.inr ⟨a1, by show c < L.1 + 1; omega, ?_, ?_⟩
    · show (if c = L.1 then k else L.2.1 c) = kd
      rw [if_neg (by omega)]; exact d1
    · show (if c = L.1 then 119 else L.2.2.2 c) = 119
      rw [if_neg (by omega)]; exact e1
theorem mk_new {k a : Int} (h : 0 ≤ L.1) : mkOK (enrL L k a) k L.1 := by
  refine Or.inr ⟨h, by show L.1 < L.1 + 1; omega, ?_, ?_⟩
  · show (if L.1 = L.1 then k else _) = k
    rw [if_pos rfl]
  · show (if L.1 = L.1 then (119 : Int) else _) = 119
    rw [if_pos rfl]
theorem LgI.enr {k a : Int} (h : LgI L) (hl : L.1 < 60) (hk : k = 105 ∨ k = 101 ∨ k = 115) (ha : 0 ≤ a ∧ a < 4) : LgI (enrL L k a) := by
  refine ⟨⟨by show 0 ≤ L.1 + 1; have := h.1.1; omega, by show L.1 + 1 ≤ 60; omega⟩, fun c c0 c1 => ?_⟩
  have c2 : c < L.1 + 1 := c1
  show ((if c = L.1 then k else L.2.1 c) = 105 ∨ (if c = L.1 then k else L.2.1 c) = 101 ∨ (if c = L.1 then k else L.2.1 c) = 115) ∧ (0 ≤ (if c = L.1 then a else L.2.2.1 c) ∧ (if c = L.1 then a else L.2.2.1 c) < 4) ∧ ((if c = L.1 then (119 : Int) else L.2.2.2 c) = 119 ∨ (if c = L.1 then (119 : Int) else L.2.2.2 c) = 97 ∨ (if c = L.1 then (119 : Int) else L.2.2.2 c) = 114)
  by_cases e : c = L.1
  · rw [if_pos e, if_pos e, if_pos e]; exact ⟨hk, ha, Or.inl rfl⟩
  · rw [if_neg e, if_neg e, if_neg e]; exact h.2 c c0 (by omega)
theorem PpI.wr {nf' a i l fd : Int} {tr : Bool} (h : PpI nf ns D) (ha : 0 ≤ a ∧ a < 4) (hi : 0 ≤ i ∧ i ≤ D.1.2.1) (hn : D.1.2.1 < 200) (h0 : 0 ≤ nf) (h60 : tr = true → chAhD D a i = -1 → D.2.1.1 < 60) (hl : (fd = -1 ∧ nf' = nf ∧ (l = 47 ∨ l = 32 ∨ (97 ≤ l ∧ l ≤ 122))) ∨ (fd = nf ∧ nf' = nf + 1 ∧ l = 64)) : PpI nf' ns (wrD D tr a i l fd) := by
  obtain ⟨p1, p2, p3, p4⟩ := h
  have hq : ∀ f, nf' ≤ f → f < 20 → D.2.2 f = 0 := fun f f0 f1 => p4 f (by omega) f1
  have hch : mkOK D.2.1 105 (chAhD D a i) := by
    unfold chAhD
    by_cases q : 0 < i ∧ waitsD D.2.1 (D.1.1 2 (i - 1)) a = true
    · rw [if_pos q]; exact (p1.2.2.2.1 (i - 1) (by omega) (by omega)).2.1
    · rw [if_neg q]; exact Or.inl rfl
  unfold wrD wrC
  by_cases ht : tr = true
  · rw [if_pos ht]
    by_cases hc : chAhD D a i = -1
    · rw [if_pos hc, if_pos ⟨ht, hc⟩]
      exact ⟨(p1.log (Int.le_refl _) (Int.le_refl _) (fun _ _ z => mk_enr z)).put hi hn h0 hl (mk_new p2.1.1), p2.enr (h60 ht hc) (Or.inl rfl) ha, p3, hq⟩
    · rw [if_neg hc, if_neg (fun z => hc z.2)]
      exact ⟨p1.put hi hn h0 hl hch, p2, p3, hq⟩
  · rw [if_neg ht, if_neg (fun z => ht z.1)]
    exact ⟨p1.put hi hn h0 hl (Or.inl rfl), p2, p3, hq⟩
theorem PpI.mono {nf' ns' : Int} (h : PpI nf ns D) (hf : nf ≤ nf') (hs : ns ≤ ns') : PpI nf' ns' D :=
  ⟨h.1.log hf hs (fun _ _ z => z), h.2.1, h.2.2.1, fun f f0 f1 => h.2.2.2 f (Int.le_trans hf f0) f1⟩
theorem waits_enr {k b kd m a : Int} (h : mkOK L kd m) : waitsD (enrL L k b) m a = waitsD L m a := by
  unfold waitsD
  refine decide_eq_decide.mpr ?_
  show (0 ≤ m ∧ m < L.1 + 1 ∧ (if m = L.1 then (119 : Int) else L.2.2.2 m) = 119 ∧ (if m = L.1 then b else L.2.2.1 m) = a) ↔ _
  rcases h with h | ⟨a1, b1, d1, e1⟩
  · constructor <;> intro z <;> omega
  · rw [if_neg (by omega), if_neg (by omega)]
    constructor
    · intro z; exact ⟨z.1, b1, z.2.2⟩
    · intro z; exact ⟨z.1, by omega, z.2.2⟩
theorem RwI.er {m i : Int} (h : RwI nf ns L R) (hi : 0 ≤ i ∧ i < R.2.1) (hm : mkOK L 101 m) : RwI nf ns L (setR R 3 i m) := by
  have s : ∀ w j, w ≠ 3 → (setR R 3 i m).1 w j = R.1 w j := fun w j hw => setR_ne (fun z => hw z.1)
  refine h.gen rfl (by rw [s 0 _ (by decide)]; exact h.1.2.2.2) (fun j => s 1 j (by decide)) (by rw [s 2 _ (by decide)]; exact h.2.2.1) (by rw [setR_ne (by omega)]; exact h.1.2.2.1) (h.2.2.2.2.1.sub rfl (fun j => Or.inl (s 4 j (by decide)))) (fun j j0 j1 => ?_)
  obtain ⟨q1, q2, q3, q4, q5, q6⟩ := h.2.2.2.1 j j0 j1
  unfold UnI
  rw [s 0 _ (by decide), s 1 _ (by decide), s 2 _ (by decide), s 4 _ (by decide), s 5 _ (by decide), s 6 _ (by decide), s 7 _ (by decide), s 8 _ (by decide), s 9 _ (by decide)]
  refine ⟨q1, q2, ?_, q4, q5, q6⟩
  rw [setR_at]
  split
  · exact hm
  · exact q3
theorem stkL_w {a x y kd m : Int} (h : mkOK D.2.1 kd m) : waitsD (stkL D a x y) m a = waitsD D.2.1 m a := by
  unfold stkL
  split
  · exact waits_enr h
  · rfl
theorem PpI.strike {a x y : Int} (h : PpI nf ns D) (ha : 0 ≤ a ∧ a < 4) (hx : 0 ≤ x) (hy : y ≤ D.1.2.1) (hxy : x ≤ y) (h60 : needD D a x y = true → D.2.1.1 < 60) : PpI nf ns (strikeD D a x y) := by
  obtain ⟨p1, p2, p3, p4⟩ := h
  have hL : ∀ kd c, mkOK D.2.1 kd c → mkOK (stkL D a x y) kd c := by
    intro kd c z
    unfold stkL
    split
    · exact mk_enr z
    · exact z
  have hm : needD D a x y = true → mkOK (stkL D a x y) 101 (stkC D a x y) := by
    intro z
    unfold stkL stkC
    rw [if_pos z, if_pos z]
    exact mk_new p2.1.1
  refine ⟨?_, ?_, p3, p4⟩
  · show RwI nf ns (stkL D a x y) (dnX (stkF (stkL D a x y) a (stkC D a x y)) (y - x).toNat (y - 1) D.1)
    refine (dnX_congr (f := stkF (stkL D a x y) a (stkC D a x y)) (g := stkF (stkL D a x y) a (stkC D a x y)) (lo := x) (P := fun A i => i < A.2.1 ∧ i < y ∧ RwI nf ns (stkL D a x y) A ∧ ∀ w j, j ≤ i → A.1 w j = D.1.1 w j) (fun A i i0 hP => ⟨rfl, ?_⟩) (y - x).toNat (y - 1) D.1 (by omega) ⟨by omega, by omega, p1.log (Int.le_refl _) (Int.le_refl _) hL, fun _ _ _ => rfl⟩).2.2.2.1
    obtain ⟨q1, q2, q3, q4⟩ := hP
    have hk : mkOK D.2.1 105 (D.1.1 2 i) := (p1.2.2.2.1 i (by omega) (by omega)).2.1
    unfold stkF
    by_cases hs : seenB A.1 A.2.1 i = true
    · rw [if_pos hs]
      by_cases hw : waitsD (stkL D a x y) (A.1 2 i) a = true
      · rw [if_pos hw]
        refine ⟨by show i - 1 < A.2.1 - 1; omega, by omega, q3.drp (by omega) q1, fun w j j1 => ?_⟩
        rw [drp_at, if_pos (by omega)]
        exact q4 w j (by omega)
      · rw [if_neg hw]
        have hnd : needD D a x y = true := by
          unfold needD
          refine (anyF_iff _ _).mpr ⟨i, i0, by omega, ?_⟩
          unfold othD
          have s1 : seenB D.1.1 D.1.2.1 i = true := by
            rw [seen_iff (by omega) (by omega)] at hs
            rw [seen_iff (R := D.1) (by omega) (by omega), ← q4 3 i (Int.le_refl _)]
            exact hs
          rw [q4 2 i (Int.le_refl _), stkL_w hk] at hw
          rw [s1]
          simpa using hw
        refine ⟨by show i - 1 < A.2.1; omega, by omega, q3.er ⟨by omega, q1⟩ (hm hnd), fun w j j1 => ?_⟩
        rw [setR_ne (by omega)]
        exact q4 w j (by omega)
    · rw [if_neg hs]
      exact ⟨by omega, by omega, q3, fun w j j1 => q4 w j (by omega)⟩
  · show LgI (stkL D a x y)
    unfold stkL
    by_cases z : needD D a x y = true
    · rw [if_pos z]; exact p2.enr (h60 z) (Or.inr (Or.inl rfl)) ha
    · rw [if_neg z]; exact p2
theorem PpI.drops {p : RowD → Int → Bool} {x y : Int} (h : PpI nf ns D) (hx : 0 ≤ x) (hy : y ≤ D.1.2.1) (hxy : x ≤ y) : PpI nf ns (dnX (drpF p) (y - x).toNat (y - 1) D.1, D.2) :=
  ⟨drp_all _ _ _ h.1 (by omega) (by omega), h.2⟩
theorem dnX_skip {α : Type} {f : α → Int → α} {A : α} : ∀ (k m : Nat) (i : Int), (∀ j, i - k < j → j ≤ i → f A j = A) → dnX f (k + m) i A = dnX f m (i - k) A := by
  intro k
  induction k with
  | zero => intro m i _; rw [Nat.zero_add, show i - ((0 : Nat) : Int) = i by omega]
  | succ k ih =>
    intro m i h
    rw [show k + 1 + m = (k + m) + 1 by omega]
    show dnX f (k + m) (i - 1) (f A i) = _
    rw [h i (by omega) (Int.le_refl _), ih m (i - 1) (fun j j0 j1 => h j (by omega) (by omega)), show i - 1 - (k : Int) = i - ((k + 1 : Nat) : Int) by omega]
/-- the places of a part that is erased -/
theorem part_ix (hE : LastE R) {p z : Int} (hp : 0 ≤ p) (hpz : p < z) (hz : z ≤ plOf R.1 R.2.1 R.2.1) : 0 ≤ ixOf R.1 R.2.1 p ∧ ixOf R.1 R.2.1 p ≤ ixOf R.1 R.2.1 (z - 1) ∧ ixOf R.1 R.2.1 (z - 1) < ixOf R.1 R.2.1 z ∧ ixOf R.1 R.2.1 z ≤ R.2.1 ∧ ∀ j, ixOf R.1 R.2.1 (z - 1) < j → j < ixOf R.1 R.2.1 z → R.1 3 j ≠ -1 := by
  obtain ⟨a0, a1, a2, a3⟩ := place_ix hE hp (by omega)
  obtain ⟨b0, b1, b2, b3⟩ := place_ix hE (p := z - 1) (by omega) (by omega)
  obtain ⟨c0, c1, c2, c3⟩ := place_ix hE (p := z) (by omega) hz
  have s : ∀ u, 0 ≤ u → R.1 3 u = -1 → plN R (u + 1) = plN R u + 1 := fun u u0 u3 => by
    rw [plN_s u0, ind_t]
    unfold leftB
    exact decide_eq_true u3
  have s1 := s _ b0 b2
  refine ⟨a0, ?_, ?_, c1, fun j j0 j1 q => ?_⟩
  · by_cases q : ixOf R.1 R.2.1 p ≤ ixOf R.1 R.2.1 (z - 1)
    · exact q
    · have := plN_le (R := R) (i := ixOf R.1 R.2.1 (z - 1) + 1) (j := ixOf R.1 R.2.1 p) (by omega)
      omega
  · by_cases q : ixOf R.1 R.2.1 (z - 1) < ixOf R.1 R.2.1 z
    · exact q
    · have := plN_le (R := R) (i := ixOf R.1 R.2.1 z) (j := ixOf R.1 R.2.1 (z - 1)) (by omega)
      omega
  · have h1 := plN_le (R := R) (i := ixOf R.1 R.2.1 (z - 1) + 1) (j := j) (by omega)
    have h2 := plN_le (R := R) (i := j + 1) (j := ixOf R.1 R.2.1 z) (by omega)
    have h3 := s j (by omega) q
    omega
theorem need_eq {a x y y' : Int} (h : x ≤ y' + 1 ∧ y' < y ∧ y ≤ D.1.2.1 ∧ 0 ≤ y') (hu : ∀ j, y' < j → j < y → D.1.1 3 j ≠ -1) : ndM D a x y' = needD D a x y := by
  unfold ndM needD
  refine Bool.eq_iff_iff.mpr ?_
  rw [anyF_iff, anyF_iff]
  constructor
  · rintro ⟨j, j0, j1, j2⟩
    exact ⟨j, j0, by omega, j2⟩
  · rintro ⟨j, j0, j1, j2⟩
    refine ⟨j, j0, ?_, j2⟩
    by_cases q : j ≤ y'
    · omega
    · exfalso
      unfold othD at j2
      rw [Bool.and_eq_true, seen_iff (by omega) (by omega)] at j2
      exact hu j (by omega) (by omega) j2.1
theorem seen_no {A : RowD} {j : Int} (h : A.1 3 j ≠ -1) : ¬ seenB A.1 A.2.1 j = true := by
  unfold seenB
  rw [decide_eq_true_eq]
  exact fun z => h z.2.2
theorem erase_t {a x y y' : Int} (h : x ≤ y' + 1 ∧ y' < y ∧ y ≤ D.1.2.1 ∧ 0 ≤ y') (hu : ∀ j, y' < j → j < y → D.1.1 3 j ≠ -1) : erD D true (ndM D a x y' && true) a x y' = strikeD D a x y ∧ erC D (ndM D a x y' && true) = stkC D a x y := by
  rw [need_eq h hu, Bool.and_true]
  refine ⟨?_, rfl⟩
  unfold erD strikeD
  have e1 : erL D (needD D a x y) a = stkL D a x y := rfl
  have e2 : erC D (needD D a x y) = stkC D a x y := rfl
  rw [e1, e2]
  have e3 : erF true (stkL D a x y) a (stkC D a x y) = stkF (stkL D a x y) a (stkC D a x y) := by
    funext A u
    unfold erF stkF
    by_cases hs : seenB A.1 A.2.1 u = true
    · rw [if_pos hs, if_pos hs]
      by_cases hw : waitsD (stkL D a x y) (A.1 2 u) a = true
      · rw [if_pos hw, if_neg (fun z => z.2 hw)]
      · rw [if_neg hw, if_pos ⟨rfl, hw⟩]
    · rw [if_neg hs, if_neg hs]
  rw [e3]
  have k := dnX_skip (f := stkF (stkL D a x y) a (stkC D a x y)) (A := D.1) (y - 1 - y').toNat (y' + 1 - x).toNat (y - 1) (fun j j0 j1 => if_neg (seen_no (hu j (by omega) (by omega))))
  rw [show (y - x).toNat = (y - 1 - y').toNat + (y' + 1 - x).toNat by omega, k, show y - 1 - ((y - 1 - y').toNat : Int) = y' by omega]
theorem erase_f {a x y y' : Int} (h : x ≤ y' + 1 ∧ y' < y ∧ y ≤ D.1.2.1 ∧ 0 ≤ y') (hu : ∀ j, y' < j → j < y → D.1.1 3 j ≠ -1) : erD D false (ndM D a x y' && false) a x y' = (dnX (drpF (fun R i => seenB R.1 R.2.1 i)) (y - x).toNat (y - 1) D.1, D.2) ∧ erC D (ndM D a x y' && false) = -1 := by
  rw [Bool.and_false]
  refine ⟨?_, rfl⟩
  unfold erD
  have e3 : erF false (erL D false a) a (erC D false) = drpF (fun R i => seenB R.1 R.2.1 i) := by
    funext A u
    unfold erF drpF
    by_cases hs : seenB A.1 A.2.1 u = true
    · rw [if_pos hs, if_pos hs, if_neg (fun z => absurd z.1 (by decide))]
    · rw [if_neg hs, if_neg hs]
  rw [e3]
  have k := dnX_skip (f := drpF (fun R i => seenB R.1 R.2.1 i)) (A := D.1) (y - 1 - y').toNat (y' + 1 - x).toNat (y - 1) (fun j j0 j1 => if_neg (seen_no (hu j (by omega) (by omega))))
  rw [show (y - x).toNat = (y - 1 - y').toNat + (y' + 1 - x).toNat by omega, k, show y - 1 - ((y - 1 - y').toNat : Int) = y' by omega]
  rfl
/-- the guard of the paragraphs of a part: by units, or by paragraphs -/
theorem guard_eq (hE : LastE R) {y : Int} (hy : 0 ≤ y ∧ y ≤ R.2.1) : ∀ (m : Nat) (i : Int), 0 ≤ i → i + m = R.2.1 + 1 → (y ≤ i → enN R i = enN R y) → i ≤ endFr R.1 R.2.1 y → grdF R.1 R.2.1 y m i = brM R (enN R i) (enN R y) := by
  have hy1 := endFr_end hE hy.1 hy.2
  have hy2 := endFr_ix hE hy.1 hy.2
  intro m
  induction m with
  | zero => intro i h0 h1 h2 h3; omega
  | succ m ih =>
    intro i h0 h1 h2 h3
    have hle : enN R i ≤ enN R y := by
      by_cases q : y ≤ i
      · rw [h2 q]; exact Int.le_refl _
      · exact enN_le (by omega)
    unfold grdF
    by_cases hs : sendB R.1 R.2.1 i = true
    · rw [if_pos hs]
      have hi := ixEnd_enN h0 hs
      by_cases hg : R.1 10 i = 1
      · rw [if_pos hg]
        symm
        unfold brM
        rw [anyF_iff]
        exact ⟨enN R i, Int.le_refl _, by omega, by rw [decide_eq_true_eq, hi]; exact hg⟩
      · rw [if_neg hg]
        by_cases hl : y ≤ i
        · rw [if_pos hl]
          symm
          unfold brM
          rw [Bool.eq_false_iff]
          intro z
          rw [anyF_iff] at z
          obtain ⟨q, q0, q1, q2⟩ := z
          have e := h2 hl
          have : q = enN R i := by omega
          rw [this, decide_eq_true_eq, hi] at q2
          exact hg q2
        · rw [if_neg hl]
          have e1 : enN R (i + 1) = enN R i + 1 := by rw [enN_s h0, ind_t hs]
          have e2 : enN R (i + 1) ≤ enN R y := enN_le (by omega)
          rw [ih (i + 1) (by omega) (by omega) (fun z => by rw [show y = i + 1 by omega]) (by omega), e1]
          unfold brM
          refine Bool.eq_iff_iff.mpr ?_
          rw [anyF_iff, anyF_iff]
          constructor
          · rintro ⟨j, j0, j1, j2⟩
            exact ⟨j, by omega, by omega, j2⟩
          · rintro ⟨j, j0, j1, j2⟩
            refine ⟨j, ?_, by omega, j2⟩
            have : j ≠ enN R i := by
              intro z
              rw [z, decide_eq_true_eq, hi] at j2
              exact hg j2
            omega
    · rw [if_neg hs]
      have e1 : enN R (i + 1) = enN R i := by rw [enN_s h0, ind_f hs]; omega
      have hne : i ≠ endFr R.1 R.2.1 y := by
        intro z
        apply hs
        rw [z]
        exact (send_iff (by omega) hy1.2.1).mpr hy1.2.2
      rw [ih (i + 1) (by omega) (by omega) (fun z => ?_) (by omega), e1]
      rw [e1]
      by_cases q : y ≤ i
      · exact h2 q
      · rw [← e1, show y = i + 1 by omega]
theorem guard_part (hE : LastE R) {x y : Int} (hx : 0 ≤ x) (hxy : x ≤ y) (hy : y ≤ R.2.1) : grdF R.1 R.2.1 y (R.2.1 + 1 - x).toNat x = brM R (endsA R.1 R.2.1 x) (endsA R.1 R.2.1 y) := by
  rw [endsA_N (by omega), endsA_N hy]
  have := endFr_end hE (i := y) (by omega) hy
  exact guard_eq hE ⟨by omega, hy⟩ _ _ hx (by omega) (fun z => by rw [show x = y by omega]) (by omega)
theorem PpI.rsty {a e z : Int} (h : PpI nf ns D) (ha : 0 ≤ a ∧ a < 4) (he : 0 ≤ e ∧ e ≤ D.1.2.1 ∧ D.1.1 0 e = 47) (hz : 0 ≤ z ∧ z < ns) (h60 : D.1.1 4 e = -1 → D.2.1.1 < 60) : PpI nf ns (rstyD D a e z) := by
  obtain ⟨p1, p2, p3, p4⟩ := h
  unfold rstyD
  by_cases hb : D.1.1 4 e = -1
  · rw [if_pos hb]
    refine ⟨?_, p2.enr (h60 hb) (Or.inr (Or.inr rfl)) ha, p3, p4⟩
    have t : ∀ w j, (setR (setR (setR D.1 4 e D.2.1.1) 6 e (D.1.1 5 e)) 5 e z).1 w j = if w = 5 ∧ j = e then z else if w = 6 ∧ j = e then D.1.1 5 e else if w = 4 ∧ j = e then D.2.1.1 else D.1.1 w j := fun _ _ => rfl
    have s : ∀ w j, w ≠ 4 → w ≠ 5 → w ≠ 6 → (setR (setR (setR D.1 4 e D.2.1.1) 6 e (D.1.1 5 e)) 5 e z).1 w j = D.1.1 w j := fun w j w4 w5 w6 => by rw [t, if_neg (fun y => w5 y.1), if_neg (fun y => w6 y.1), if_neg (fun y => w4 y.1)]
    have t4 : ∀ j, (setR (setR (setR D.1 4 e D.2.1.1) 6 e (D.1.1 5 e)) 5 e z).1 4 j = if j = e then D.2.1.1 else D.1.1 4 j := fun j => by
      rw [t, if_neg (by omega), if_neg (by omega)]
      by_cases q : j = e
      · rw [if_pos ⟨rfl, q⟩, if_pos q]
      · rw [if_neg (fun y => q y.2), if_neg q]
    have hlt : ∀ j, 0 ≤ j → j ≤ D.1.2.1 → D.1.1 4 j < D.2.1.1 := fun j j0 j1 => by
      have h0 := p2.1.1
      rcases (p1.2.2.2.1 j j0 j1).2.2.2.1 with y | y
      · omega
      · exact y.2.1
    refine RwI.gen (L := enrL D.2.1 115 a) (p1.log (Int.le_refl _) (Int.le_refl _) (fun _ _ y => mk_enr y)) rfl (by rw [s 0 _ (by decide) (by decide) (by decide)]; exact p1.1.2.2.2) (fun j => s 1 j (by decide) (by decide) (by decide)) (by rw [s 2 _ (by decide) (by decide) (by decide)]; exact p1.2.2.1) (by rw [s 3 _ (by decide) (by decide) (by decide)]; exact p1.1.2.2.1) ?_ (fun j j0 j1 => ?_)
    · intro i j i0 i1 j0 j1 q1 q2
      rw [t4] at q1 q2
      rw [t4] at q2
      by_cases c1 : i = e <;> by_cases c2 : j = e
      · omega
      · rw [if_pos c1, if_neg c2] at q2
        have := hlt j j0 j1
        omega
      · rw [if_neg c1, if_pos c2] at q2
        have := hlt i i0 i1
        omega
      · rw [if_neg c1] at q1
        rw [if_neg c1, if_neg c2] at q2
        exact p1.2.2.2.2.1 i j i0 i1 j0 j1 q1 q2
    · obtain ⟨q1, q2, q3, q4, q5, q6⟩ := p1.2.2.2.1 j j0 j1
      unfold UnI
      rw [s 0 _ (by decide) (by decide) (by decide), s 1 _ (by decide) (by decide) (by decide), s 2 _ (by decide) (by decide) (by decide), s 3 _ (by decide) (by decide) (by decide), s 7 _ (by decide) (by decide) (by decide), s 8 _ (by decide) (by decide) (by decide), s 9 _ (by decide) (by decide) (by decide)]
      by_cases c1 : j = e
      · have h5 := (q6 (by rw [c1]; exact he.2.2)).1
        have f4 := t4 j
        have f5 := t 5 j
        have f6 := t 6 j
        rw [if_pos c1] at f4
        rw [if_pos ⟨rfl, c1⟩] at f5
        rw [if_neg (by omega), if_pos ⟨rfl, c1⟩] at f6
        rw [f4, f5, f6]
        refine ⟨q1, mk_enr q2, mk_enr q3, mk_new p2.1.1, fun _ => ⟨by rw [c1]; exact he.2.2, by rw [← c1]; exact h5.1, by rw [← c1]; exact h5.2⟩, fun y => ⟨hz, (q6 y).2⟩⟩
      · have f4 := t4 j
        have f5 := t 5 j
        have f6 := t 6 j
        rw [if_neg c1] at f4
        rw [if_neg (fun y => c1 y.2), if_neg (fun y => c1 y.2), if_neg (fun y => c1 y.2)] at f5 f6
        rw [f4, f5, f6]
        exact ⟨q1, mk_enr q2, mk_enr q3, mk_enr q4, q5, q6⟩
  · rw [if_neg hb]
    refine ⟨?_, p2, p3, p4⟩
    have s : ∀ w j, w ≠ 5 → (setR D.1 5 e z).1 w j = D.1.1 w j := fun w j hw => setR_ne (fun y => hw y.1)
    refine p1.gen rfl (by rw [s 0 _ (by decide)]; exact p1.1.2.2.2) (fun j => s 1 j (by decide)) (by rw [s 2 _ (by decide)]; exact p1.2.2.1) (by rw [s 3 _ (by decide)]; exact p1.1.2.2.1) (p1.2.2.2.2.1.sub rfl (fun j => Or.inl (s 4 j (by decide)))) (fun j j0 j1 => ?_)
    obtain ⟨q1, q2, q3, q4, q5, q6⟩ := p1.2.2.2.1 j j0 j1
    unfold UnI
    rw [s 0 _ (by decide), s 1 _ (by decide), s 2 _ (by decide), s 3 _ (by decide), s 4 _ (by decide), s 6 _ (by decide), s 7 _ (by decide), s 8 _ (by decide), s 9 _ (by decide), setR_at]
    refine ⟨q1, q2, q3, q4, q5, fun y => ⟨?_, (q6 y).2⟩⟩
    split
    · exact hz
    · exact (q6 y).1
/-- facts of an end that nothing else rests on -/
theorem PpI.fact {e w z : Int} (h : PpI nf ns D) (hw : (w = 5 ∧ 0 ≤ z ∧ z < ns) ∨ (w = 7 ∧ -1 ≤ z ∧ z ≤ 2) ∨ (w = 8 ∧ 0 ≤ z ∧ z ≤ 2) ∨ (w = 9 ∧ 0 ≤ z ∧ z ≤ 99) ∨ w = 10) : PpI nf ns (setR D.1 w e z, D.2) := by
  obtain ⟨p1, p2, p3, p4⟩ := h
  refine ⟨?_, p2, p3, p4⟩
  have s : ∀ w' j, w' ≠ w → (setR D.1 w e z).1 w' j = D.1.1 w' j := fun w' j hw' => setR_ne (fun y => hw' y.1)
  refine p1.gen rfl (by rw [s 0 _ (by omega)]; exact p1.1.2.2.2) (fun j => s 1 j (by omega)) (by rw [s 2 _ (by omega)]; exact p1.2.2.1) (by rw [s 3 _ (by omega)]; exact p1.1.2.2.1) (p1.2.2.2.2.1.sub rfl (fun j => Or.inl (s 4 j (by omega)))) (fun j j0 j1 => ?_)
  obtain ⟨q1, q2, q3, q4, q5, q6⟩ := p1.2.2.2.1 j j0 j1
  unfold UnI
  rw [s 0 _ (by omega), s 1 _ (by omega), s 2 _ (by omega), s 3 _ (by omega), s 4 _ (by omega), s 6 _ (by omega)]
  refine ⟨q1, q2, q3, q4, q5, fun y => ?_⟩
  obtain ⟨r5, r7, r8, r9⟩ := q6 y
  rw [setR_at, setR_at, setR_at, setR_at]
  refine ⟨?_, ?_, ?_, ?_⟩
  · by_cases q : 5 = w ∧ j = e
    · rw [if_pos q]; omega
    · rw [if_neg q]; exact r5
  · by_cases q : 7 = w ∧ j = e
    · rw [if_pos q]; omega
    · rw [if_neg q]; exact r7
  · by_cases q : 8 = w ∧ j = e
    · rw [if_pos q]; omega
    · rw [if_neg q]; exact r8
  · by_cases q : 9 = w ∧ j = e
    · rw [if_pos q]; omega
    · rw [if_neg q]; exact r9
theorem PpI.rsto {e z : Int} (h : PpI nf ns D) (he : 0 ≤ e ∧ e ≤ D.1.2.1) (hz : 0 ≤ z ∧ z < ns) : PpI nf ns (rstoD D e z) ∧ mstoD D e z = rstoD D e z := by
  unfold rstoD mstoD
  by_cases hb : D.1.1 4 e = -1
  · rw [if_pos hb, if_pos hb]
    exact ⟨h.fact (Or.inl ⟨rfl, hz⟩), rfl⟩
  · rw [if_neg hb, if_neg hb]
    have hm : 0 ≤ D.1.1 4 e ∧ D.1.1 4 e < D.2.1.1 ∧ D.2.1.2.1 (D.1.1 4 e) = 115 := by
      rcases (h.1.2.2.2.1 e he.1 he.2).2.2.2.1 with y | y
      · exact absurd y hb
      · exact ⟨y.1, y.2.1, y.2.2.1⟩
    refine ⟨(h.setl ⟨hm.1, hm.2.1⟩).fact (Or.inl ⟨rfl, hz⟩), ?_⟩
    unfold setlD
    rw [hm.2.2, if_pos rfl]
    have k : setlR D.1 115 (D.1.1 4 e) true = setR D.1 4 e (-1) := by
      unfold setlR
      rw [if_neg (by decide), if_neg (by decide), sty_at]
      refine Prod.ext (funext fun w => funext fun j => ?_) rfl
      show (if 0 ≤ j ∧ j < 0 + ((D.1.2.1 + 1).toNat : Int) ∧ D.1.1 4 j = D.1.1 4 e then (if w = 4 then (-1 : Int) else if w = 5 ∧ true = false then D.1.1 6 j else D.1.1 w j) else D.1.1 w j) = if w = 4 ∧ j = e then -1 else D.1.1 w j
      by_cases c1 : j = e
      · rw [c1, if_pos ⟨he.1, by omega, rfl⟩]
        by_cases c2 : w = 4
        · rw [if_pos c2, if_pos ⟨c2, rfl⟩]
        · rw [if_neg c2, if_neg (c := w = 5 ∧ true = false) (by simp), if_neg (c := w = 4 ∧ e = e) (fun y => c2 y.1)]
      · rw [if_neg (c := w = 4 ∧ j = e) (fun y => c1 y.2)]
        by_cases c3 : 0 ≤ j ∧ j < 0 + ((D.1.2.1 + 1).toNat : Int) ∧ D.1.1 4 j = D.1.1 4 e
        · exact absurd (h.1.2.2.2.2.1 e j he.1 he.2 c3.1 (by omega) hb c3.2.2.symm).symm c1
        · rw [if_neg c3]
    rw [k]
theorem PpI.bmk {b x y : Int} (h : PpI nf ns D) (hx : -1 ≤ x ∧ x ≤ D.1.2.1) (hy : -1 ≤ y ∧ y ≤ D.1.2.1) : PpI nf ns (bmkR D.1 b x y, D.2) := by
  obtain ⟨⟨a1, a2, a3, a4, a5, a6⟩, p2⟩ := h
  refine ⟨⟨a1, ⟨a2.1, a2.2.1, fun k k0 k1 => ?_⟩, a3, a4, a5, a6⟩, p2⟩
  have q := a2.2.2 k k0 k1
  show -1 ≤ (if k = b then x else D.1.2.2.1 k) ∧ (if k = b then x else D.1.2.2.1 k) ≤ D.1.2.1 ∧ -1 ≤ (if k = b then y else D.1.2.2.2 k) ∧ (if k = b then y else D.1.2.2.2 k) ≤ D.1.2.1
  by_cases e : k = b
  · rw [if_pos e, if_pos e]; exact ⟨hx.1, hx.2, hy.1, hy.2⟩
  · rw [if_neg e, if_neg e]; exact q
end Edm
