/-! A change is judged: what is kept, and the two ways are one. -/
section Setl
variable {nf ns : Int} {L : LogD} {R : RowD}
theorem upX_congr {α : Type} {f g : α → Int → α} {P : α → Int → Prop} {hi : Int} (hs : ∀ A i, 0 ≤ i → i < hi → P A i → f A i = g A i ∧ P (g A i) (i + 1)) : ∀ (m : Nat) (i : Int) (A : α), 0 ≤ i → i + m ≤ hi → P A i → upX f m i A = upX g m i A ∧ P (upX g m i A) (i + m) := by
  intro m
  induction m with
  | zero => intro i A _ _ h; exact ⟨rfl, by rw [show i + ((0 : Nat) : Int) = i by omega]; exact h⟩
  | succ m ih =>
    intro i A h0 h1 h
    obtain ⟨e, k⟩ := hs A i h0 (by omega) h
    have z := ih (i + 1) (g A i) (by omega) (by omega) k
    show upX f m (i + 1) (f A i) = upX g m (i + 1) (g A i) ∧ P (upX g m (i + 1) (g A i)) _
    rw [e]
    exact ⟨z.1, by rw [show i + ((m + 1 : Nat) : Int) = i + 1 + m by omega]; exact z.2⟩
theorem dnX_congr {α : Type} {f g : α → Int → α} {P : α → Int → Prop} {lo : Int} (hs : ∀ A i, lo ≤ i → P A i → f A i = g A i ∧ P (g A i) (i - 1)) : ∀ (m : Nat) (i : Int) (A : α), lo ≤ i - m + 1 → P A i → dnX f m i A = dnX g m i A ∧ P (dnX g m i A) (i - m) := by
  intro m
  induction m with
  | zero => intro i A _ h; exact ⟨rfl, by rw [show i - ((0 : Nat) : Int) = i by omega]; exact h⟩
  | succ m ih =>
    intro i A h0 h
    obtain ⟨e, k⟩ := hs A i (by omega) h
    have z := ih (i - 1) (g A i) (by omega) k
    show dnX f m (i - 1) (f A i) = dnX g m (i - 1) (g A i) ∧ P (dnX g m (i - 1) (g A i)) _
    rw [e]
    exact ⟨z.1, by rw [show i - ((m + 1 : Nat) : Int) = i - 1 - m by omega]; exact z.2⟩
theorem setR_self {w i : Int} : setR R w i (R.1 w i) = R := by
  refine Prod.ext (funext fun w' => funext fun j => ?_) rfl
  show (if w' = w ∧ j = i then R.1 w i else R.1 w' j) = R.1 w' j
  by_cases q : w' = w ∧ j = i
  · rw [if_pos q, q.1, q.2]
  · rw [if_neg q]
theorem setR_at {w i z w' j : Int} : (setR R w i z).1 w' j = if w' = w ∧ j = i then z else R.1 w' j := rfl
theorem mk_no {kd c m : Int} (hc : 0 ≤ c) (h : mkOK L kd m) (hk : L.2.1 c ≠ kd) : m ≠ c := by
  intro e
  subst e
  rcases h with h | ⟨_, _, h, _⟩
  · omega
  · exact hk h
theorem RwI.no2 (h : RwI nf ns L R) {c : Int} (hc : 0 ≤ c) (hk : L.2.1 c ≠ 105) {i : Int} (h0 : 0 ≤ i) (h1 : i ≤ R.2.1) : R.1 2 i ≠ c := mk_no hc (h.2.2.2.1 i h0 h1).2.1 hk
theorem RwI.no3 (h : RwI nf ns L R) {c : Int} (hc : 0 ≤ c) (hk : L.2.1 c ≠ 101) {i : Int} (h0 : 0 ≤ i) (h1 : i ≤ R.2.1) : R.1 3 i ≠ c := mk_no hc (h.2.2.2.1 i h0 h1).2.2.1 hk
theorem RwI.no4 (h : RwI nf ns L R) {c : Int} (hc : 0 ≤ c) (hk : L.2.1 c ≠ 115) {i : Int} (h0 : 0 ≤ i) (h1 : i ≤ R.2.1) : R.1 4 i ≠ c := mk_no hc (h.2.2.2.1 i h0 h1).2.2.2.1 hk
theorem rel_row {R' : RowD} (h : RwI nf ns L R) (hn : R'.2 = R.2) (hs : ∀ w j, w ≠ 2 → w ≠ 3 → R'.1 w j = R.1 w j) (h2 : ∀ j, R'.1 2 j = R.1 2 j ∨ R'.1 2 j = -1) (h3 : ∀ j, R'.1 3 j = R.1 3 j ∨ R'.1 3 j = -1) : RwI nf ns L R' := by
  refine h.gen hn (by rw [hs 0 _ (by decide) (by decide)]; exact h.1.2.2.2) (fun j => hs 1 j (by decide) (by decide)) ?_ ?_ (h.2.2.2.2.1.sub (by rw [hn]) (fun j => Or.inl (hs 4 j (by decide) (by decide)))) (fun i i0 i1 => ?_)
  · rcases h2 R.2.1 with q | q
    · rw [q]; exact h.2.2.1
    · exact q
  · rcases h3 R.2.1 with q | q
    · rw [q]; exact h.1.2.2.1
    · exact q
  · obtain ⟨q1, q2, q3, q4, q5, q6⟩ := h.2.2.2.1 i i0 i1
    unfold UnI
    rw [hs 0 _ (by decide) (by decide), hs 1 _ (by decide) (by decide), hs 4 _ (by decide) (by decide), hs 5 _ (by decide) (by decide), hs 6 _ (by decide) (by decide), hs 7 _ (by decide) (by decide), hs 8 _ (by decide) (by decide), hs 9 _ (by decide) (by decide)]
    refine ⟨q1, ?_, ?_, q4, q5, q6⟩
    · rcases h2 i with y | y
      · rw [y]; exact q2
      · exact Or.inl y
    · rcases h3 i with y | y
      · rw [y]; exact q3
      · exact Or.inl y
theorem rel_ne {w c w' j i : Int} {m : Nat} (h : w' ≠ w) : (upX (relF w c) m i R).1 w' j = R.1 w' j := by
  rw [rel_at]
  exact if_neg (fun z => h z.1)
theorem rel_2 {w c i : Int} {m : Nat} : (upX (relF w c) m i R).2 = R.2 := by rw [rel_at]
theorem rel_or {w c i j : Int} {m : Nat} : (upX (relF w c) m i R).1 w j = R.1 w j ∨ (upX (relF w c) m i R).1 w j = -1 := by
  rw [rel_at]
  show (if w = w ∧ i ≤ j ∧ j < i + m ∧ R.1 w j = c then (-1 : Int) else R.1 w j) = R.1 w j ∨ (if w = w ∧ i ≤ j ∧ j < i + m ∧ R.1 w j = c then (-1 : Int) else R.1 w j) = -1
  by_cases y : w = w ∧ i ≤ j ∧ j < i + m ∧ R.1 w j = c
  · rw [if_pos y]; exact Or.inr rfl
  · rw [if_neg y]; exact Or.inl rfl
theorem sty_row {c lo hi : Int} {acc : Bool} (h : RwI nf ns L R) (hc : 0 ≤ c) : RwI nf ns L (styG c acc R lo hi) := by
  have a : ∀ w j, (styG c acc R lo hi).1 w j = if lo ≤ j ∧ j < hi ∧ R.1 4 j = c then (if w = 4 then -1 else if w = 5 ∧ acc = false then R.1 6 j else R.1 w j) else R.1 w j := fun _ _ => rfl
  have s : ∀ w j, w ≠ 4 → w ≠ 5 → (styG c acc R lo hi).1 w j = R.1 w j := fun w j w4 w5 => by
    rw [a]
    by_cases y : lo ≤ j ∧ j < hi ∧ R.1 4 j = c
    · rw [if_pos y, if_neg w4, if_neg (fun z => w5 z.1)]
    · rw [if_neg y]
  have s4 : ∀ j, (styG c acc R lo hi).1 4 j = R.1 4 j ∨ (styG c acc R lo hi).1 4 j = -1 := fun j => by
    rw [a]
    by_cases y : lo ≤ j ∧ j < hi ∧ R.1 4 j = c
    · rw [if_pos y, if_pos rfl]; exact Or.inr rfl
    · rw [if_neg y]; exact Or.inl rfl
  refine h.gen rfl (by rw [s 0 _ (by decide) (by decide)]; exact h.1.2.2.2) (fun j => s 1 j (by decide) (by decide)) (by rw [s 2 _ (by decide) (by decide)]; exact h.2.2.1) (by rw [s 3 _ (by decide) (by decide)]; exact h.1.2.2.1) (h.2.2.2.2.1.sub rfl s4) (fun i i0 i1 => ?_)
  obtain ⟨q1, q2, q3, q4, q5, q6⟩ := h.2.2.2.1 i i0 i1
  unfold UnI
  rw [s 0 _ (by decide) (by decide), s 1 _ (by decide) (by decide), s 2 _ (by decide) (by decide), s 3 _ (by decide) (by decide), s 6 _ (by decide) (by decide), s 7 _ (by decide) (by decide), s 8 _ (by decide) (by decide), s 9 _ (by decide) (by decide)]
  refine ⟨q1, q2, q3, ?_, fun z => ?_, fun z => ⟨?_, (q6 z).2⟩⟩
  · rcases s4 i with y | y
    · rw [y]; exact q4
    · exact Or.inl y
  · rcases s4 i with y | y
    · rw [y] at z; exact q5 z
    · exact absurd y z
  · rw [a]
    by_cases y : lo ≤ i ∧ i < hi ∧ R.1 4 i = c
    · rw [if_pos y, if_neg (show ¬ (5 : Int) = 4 by decide)]
      by_cases y2 : (5 : Int) = 5 ∧ acc = false
      · rw [if_pos y2]; exact (q5 (by rw [y.2.2]; omega)).2
      · rw [if_neg y2]; exact (q6 z).1
    · rw [if_neg y]; exact (q6 z).1
theorem styF_ne {c i w j : Int} {acc : Bool} (w4 : w ≠ 4) (w5 : w ≠ 5) : (styF c acc R i).1 w j = R.1 w j := by
  rw [styF_at]
  by_cases e : j = i ∧ R.1 4 i = c
  · rw [if_pos e, if_neg w4, if_neg (fun z => w5 z.1), e.1]
  · rw [if_neg e]
theorem setl_row {c : Int} {acc : Bool} (h : RwI nf ns L R) (hc : 0 ≤ c) (hk : L.2.1 c = 105 ∨ L.2.1 c = 101 ∨ L.2.1 c = 115) : RwI nf ns L (setlR R (L.2.1 c) c acc) ∧ ∀ i, 0 ≤ i → i ≤ (setlR R (L.2.1 c) c acc).2.1 → (setlR R (L.2.1 c) c acc).1 2 i ≠ c ∧ (setlR R (L.2.1 c) c acc).1 3 i ≠ c ∧ (setlR R (L.2.1 c) c acc).1 4 i ≠ c := by
  have hn := h.1.1
  have fin : ∀ {R' : RowD}, RwI nf ns L R' → (L.2.1 c = 105 → ∀ i, 0 ≤ i → i ≤ R'.2.1 → R'.1 2 i ≠ c) → (L.2.1 c = 101 → ∀ i, 0 ≤ i → i ≤ R'.2.1 → R'.1 3 i ≠ c) → (L.2.1 c = 115 → ∀ i, 0 ≤ i → i ≤ R'.2.1 → R'.1 4 i ≠ c) → RwI nf ns L R' ∧ ∀ i, 0 ≤ i → i ≤ R'.2.1 → R'.1 2 i ≠ c ∧ R'.1 3 i ≠ c ∧ R'.1 4 i ≠ c := by
    intro R' k k2 k3 k4
    refine ⟨k, fun i i0 i1 => ⟨?_, ?_, ?_⟩⟩
    · by_cases q : L.2.1 c = 105
      · exact k2 q i i0 i1
      · exact k.no2 hc q i0 i1
    · by_cases q : L.2.1 c = 101
      · exact k3 q i i0 i1
      · exact k.no3 hc q i0 i1
    · by_cases q : L.2.1 c = 115
      · exact k4 q i i0 i1
      · exact k.no4 hc q i0 i1
  rcases hk with q | q | q
  · rw [q]
    unfold setlR
    rw [if_pos rfl]
    cases acc with
    | true =>
      rw [if_pos rfl]
      refine fin (rel_row h rel_2 (fun w j w2 _ => rel_ne w2) (fun j => rel_or) (fun j => Or.inl (rel_ne (by decide)))) (fun _ i i0 i1 => ?_) (fun z => absurd (q.symm.trans z) (by decide)) (fun z => absurd (q.symm.trans z) (by decide))
      · rw [rel_at] at i1 ⊢
        show (if (2 : Int) = 2 ∧ 0 ≤ i ∧ i < 0 + (R.2.1.toNat : Int) ∧ R.1 2 i = c then (-1 : Int) else R.1 2 i) ≠ c
        have i2 : i ≤ R.2.1 := i1
        by_cases e : R.1 2 i = c
        · by_cases e2 : i < R.2.1
          · rw [if_pos ⟨rfl, i0, by omega, e⟩]; omega
          · exfalso
            have e3 : i = R.2.1 := by omega
            rw [e3, h.2.2.1] at e
            omega
        · rw [if_neg (fun z => e z.2.2.2)]; exact e
    | false =>
      rw [if_neg (by decide)]
      refine fin (drp_all _ _ _ h (by omega) (by omega)) (fun _ i i0 i1 => ?_) (fun z => absurd (q.symm.trans z) (by decide)) (fun z => absurd (q.symm.trans z) (by decide))
      have k := drp_all (p := fun R i => decide (R.1 2 i = c)) R.2.1.toNat R (R.2.1 - 1) h (by omega) (by omega)
      by_cases e : i < (dnX (drpF (fun R i => decide (R.1 2 i = c))) R.2.1.toNat (R.2.1 - 1) R).2.1
      · exact drp_no _ _ _ (by omega) (by omega) (fun j j0 j1 => by omega) i i0 e
      · rw [show i = (dnX (drpF (fun R i => decide (R.1 2 i = c))) R.2.1.toNat (R.2.1 - 1) R).2.1 by omega, k.2.2.1]; omega
  · rw [q]
    unfold setlR
    rw [if_neg (by decide), if_pos rfl]
    cases acc with
    | true =>
      rw [if_pos rfl]
      refine fin (drp_all _ _ _ h (by omega) (by omega)) (fun z => absurd (q.symm.trans z) (by decide)) (fun _ i i0 i1 => ?_) (fun z => absurd (q.symm.trans z) (by decide))
      have k := drp_all (p := fun R i => decide (R.1 3 i = c)) R.2.1.toNat R (R.2.1 - 1) h (by omega) (by omega)
      by_cases e : i < (dnX (drpF (fun R i => decide (R.1 3 i = c))) R.2.1.toNat (R.2.1 - 1) R).2.1
      · exact drp_no _ _ _ (by omega) (by omega) (fun j j0 j1 => by omega) i i0 e
      · rw [show i = (dnX (drpF (fun R i => decide (R.1 3 i = c))) R.2.1.toNat (R.2.1 - 1) R).2.1 by omega, k.1.2.2.1]; omega
    | false =>
      rw [if_neg (by decide)]
      refine fin (rel_row h rel_2 (fun w j _ w3 => rel_ne w3) (fun j => Or.inl (rel_ne (by decide))) (fun j => rel_or)) (fun z => absurd (q.symm.trans z) (by decide)) (fun _ i i0 i1 => ?_) (fun z => absurd (q.symm.trans z) (by decide))
      · rw [rel_at] at i1 ⊢
        show (if (3 : Int) = 3 ∧ 0 ≤ i ∧ i < 0 + (R.2.1.toNat : Int) ∧ R.1 3 i = c then (-1 : Int) else R.1 3 i) ≠ c
        have i2 : i ≤ R.2.1 := i1
        by_cases e : R.1 3 i = c
        · by_cases e2 : i < R.2.1
          · rw [if_pos ⟨rfl, i0, by omega, e⟩]; omega
          · exfalso
            have e3 : i = R.2.1 := by omega
            rw [e3, h.1.2.2.1] at e
            omega
        · rw [if_neg (fun z => e z.2.2.2)]; exact e
  · rw [q]
    unfold setlR
    rw [if_neg (by decide), if_neg (by decide), sty_at]
    refine fin (sty_row h hc) (fun z => absurd (q.symm.trans z) (by decide)) (fun z => absurd (q.symm.trans z) (by decide)) (fun _ i i0 i1 => ?_)
    have i2 : i ≤ R.2.1 := i1
    show (if 0 ≤ i ∧ i < 0 + ((R.2.1 + 1).toNat : Int) ∧ R.1 4 i = c then (if (4 : Int) = 4 then (-1 : Int) else if (4 : Int) = 5 ∧ acc = false then R.1 6 i else R.1 4 i) else R.1 4 i) ≠ c
    by_cases e : R.1 4 i = c
    · rw [if_pos ⟨i0, by omega, e⟩, if_pos rfl]; omega
    · rw [if_neg (fun z => e z.2.2)]; exact e
theorem LgI.sst {c z : Int} (h : LgI L) (hz : z = 97 ∨ z = 114) : LgI (sstL L c z) := by
  refine ⟨h.1, fun k k0 k1 => ⟨(h.2 k k0 k1).1, (h.2 k k0 k1).2.1, ?_⟩⟩
  show (if k = c then z else L.2.2.2 k) = 119 ∨ (if k = c then z else L.2.2.2 k) = 97 ∨ (if k = c then z else L.2.2.2 k) = 114
  by_cases e : k = c
  · rw [if_pos e]; exact Or.inr hz
  · rw [if_neg e]; exact (h.2 k k0 k1).2.2
theorem PpI.setl {D : PapD} {c : Int} {acc : Bool} (h : PpI nf ns D) (hc : 0 ≤ c ∧ c < D.2.1.1) : PpI nf ns (setlD D c acc) := by
  obtain ⟨a, b, d, e⟩ := h
  have k := setl_row (acc := acc) a hc.1 (b.2 c hc.1 hc.2).1
  exact ⟨k.1.sst hc.1 k.2, b.sst (by cases acc <;> decide), d, e⟩
/-- the reference's way to judge is the office's -/
theorem jdg_eq {c : Int} {acc : Bool} (h : RwI nf ns L R) (hc : 0 ≤ c) (hk : L.2.1 c = 105 ∨ L.2.1 c = 101 ∨ L.2.1 c = 115) : jdgR R c acc = setlR R (L.2.1 c) c acc := by
  have hn := h.1.1
  have hS : ∀ (A : RowD) (i : Int), A.1 4 i ≠ c → jdgS c acc A i = A := fun A i z => if_neg z
  have hrel : ∀ (w : Int), (w = 2 ∨ w = 3) → ∀ (m : Nat) (A : RowD), dnX (relF w c) m (R.2.1) A = dnX (relF w c) m (R.2.1) A := fun _ _ _ _ => rfl
  unfold jdgR
  rcases hk with q | q | q
  · rw [q]
    unfold setlR
    rw [if_pos rfl]
    cases acc with
    | true =>
      rw [if_pos rfl, rel_at]
      have z := (dnX_congr (f := jdgF c true) (g := relF 2 c) (lo := 0) (P := fun A i => i ≤ R.2.1 ∧ ∀ j, 0 ≤ j → j ≤ R.2.1 → A.1 3 j ≠ c ∧ A.1 4 j ≠ c) (fun A i i0 hP => ?_) (R.2.1 + 1).toNat R.2.1 R (by omega) ⟨Int.le_refl _, fun j j0 j1 => ⟨h.no3 hc (by rw [q]; decide) j0 j1, h.no4 hc (by rw [q]; decide) j0 j1⟩⟩).1
      · rw [z, reld_at]
        refine Prod.ext (funext fun w' => funext fun j => ?_) rfl
        show (if w' = 2 ∧ R.2.1 - ((R.2.1 + 1).toNat : Int) < j ∧ j ≤ R.2.1 ∧ R.1 2 j = c then (-1 : Int) else R.1 w' j) = if w' = 2 ∧ 0 ≤ j ∧ j < 0 + (R.2.1.toNat : Int) ∧ R.1 2 j = c then -1 else R.1 w' j
        by_cases e : w' = 2 ∧ 0 ≤ j ∧ j < R.2.1 ∧ R.1 2 j = c
        · rw [if_pos ⟨e.1, by omega, by omega, e.2.2.2⟩, if_pos ⟨e.1, by omega, by omega, e.2.2.2⟩]
        · rw [if_neg (fun y => e ⟨y.1, by omega, by
            have e3 : j ≠ R.2.1 := fun x => by have y2 := y.2.2.2; rw [x, h.2.2.1] at y2; omega
            omega, y.2.2.2⟩), if_neg (fun y => e ⟨y.1, by omega, by omega, y.2.2.2⟩)]
      · obtain ⟨p1, p2⟩ := hP
        have p3 := p2 i i0 p1
        refine ⟨?_, by omega, fun j j0 j1 => ?_⟩
        · unfold jdgF
          rw [if_neg (fun y => by rcases y with y | y; exact absurd y.2 (by decide); exact p3.1 y.1), hS A i p3.2, if_neg p3.1]
          unfold relF
          by_cases e : A.1 2 i = c
          · rw [if_pos e, if_pos e, show A.1 3 i = (setR A 2 i (-1)).1 3 i from (setR_ne (by omega)).symm, setR_self]
          · rw [if_neg e, if_neg e, setR_self, setR_self]
        · unfold relF
          by_cases e : A.1 2 i = c
          · rw [if_pos e, setR_ne (by omega), setR_ne (by omega)]; exact p2 j j0 j1
          · rw [if_neg e]; exact p2 j j0 j1
    | false =>
      rw [if_neg (by decide)]
      have z := (dnX_congr (f := jdgF c false) (g := drpF (fun R i => decide (R.1 2 i = c))) (lo := 0) (P := fun A i => i ≤ A.2.1 ∧ RwI nf ns L A) (fun A i i0 hP => ?_) (R.2.1 + 1).toNat R.2.1 R (by omega) ⟨Int.le_refl _, h⟩).1
      · rw [z, show (R.2.1 + 1).toNat = R.2.1.toNat + 1 by omega]
        show dnX _ R.2.1.toNat (R.2.1 - 1) (drpF (fun R i => decide (R.1 2 i = c)) R R.2.1) = _
        rw [show drpF (fun R i => decide (R.1 2 i = c)) R R.2.1 = R from if_neg (by rw [decide_eq_true_eq, h.2.2.1]; omega)]
      · obtain ⟨p1, p2⟩ := hP
        have p3 := p2.no3 hc (by rw [q]; decide) i0 p1
        have p4 := p2.no4 hc (by rw [q]; decide) i0 p1
        have dT : A.1 2 i = c → drpF (fun R i => decide (R.1 2 i = c)) A i = drpR A i := fun z => if_pos (decide_eq_true z)
        have dF : ¬ A.1 2 i = c → drpF (fun R i => decide (R.1 2 i = c)) A i = A := fun z => if_neg (by simpa using z)
        unfold jdgF
        by_cases e : A.1 2 i = c
        · have e2 : i < A.2.1 := by
            have : i ≠ A.2.1 := fun x => by rw [x, p2.2.2.1] at e; omega
            omega
          rw [if_pos (Or.inl ⟨e, rfl⟩), dT e, hS A i p4]
          exact ⟨rfl, by show i - 1 ≤ A.2.1 - 1; omega, p2.drp i0 e2⟩
        · rw [if_neg (fun y => by rcases y with y | y; exact e y.1; exact p3 y.1), dF e, hS A i p4, if_neg e, if_neg p3, setR_self, setR_self]
          exact ⟨rfl, by omega, p2⟩
  · rw [q]
    unfold setlR
    rw [if_neg (by decide), if_pos rfl]
    cases acc with
    | true =>
      rw [if_pos rfl]
      have z := (dnX_congr (f := jdgF c true) (g := drpF (fun R i => decide (R.1 3 i = c))) (lo := 0) (P := fun A i => i ≤ A.2.1 ∧ RwI nf ns L A) (fun A i i0 hP => ?_) (R.2.1 + 1).toNat R.2.1 R (by omega) ⟨Int.le_refl _, h⟩).1
      · rw [z, show (R.2.1 + 1).toNat = R.2.1.toNat + 1 by omega]
        show dnX _ R.2.1.toNat (R.2.1 - 1) (drpF (fun R i => decide (R.1 3 i = c)) R R.2.1) = _
        rw [show drpF (fun R i => decide (R.1 3 i = c)) R R.2.1 = R from if_neg (by rw [decide_eq_true_eq, h.1.2.2.1]; omega)]
      · obtain ⟨p1, p2⟩ := hP
        have p3 := p2.no2 hc (by rw [q]; decide) i0 p1
        have p4 := p2.no4 hc (by rw [q]; decide) i0 p1
        have dT : A.1 3 i = c → drpF (fun R i => decide (R.1 3 i = c)) A i = drpR A i := fun z => if_pos (decide_eq_true z)
        have dF : ¬ A.1 3 i = c → drpF (fun R i => decide (R.1 3 i = c)) A i = A := fun z => if_neg (by simpa using z)
        unfold jdgF
        by_cases e : A.1 3 i = c
        · have e2 : i < A.2.1 := by
            have : i ≠ A.2.1 := fun x => by rw [x, p2.1.2.2.1] at e; omega
            omega
          rw [if_pos (Or.inr ⟨e, rfl⟩), dT e, hS A i p4]
          exact ⟨rfl, by show i - 1 ≤ A.2.1 - 1; omega, p2.drp i0 e2⟩
        · rw [if_neg (fun y => by rcases y with y | y; exact p3 y.1; exact e y.1), dF e, hS A i p4, if_neg e, if_neg p3, setR_self, setR_self]
          exact ⟨rfl, by omega, p2⟩
    | false =>
      rw [if_neg (by decide), rel_at]
      have z := (dnX_congr (f := jdgF c false) (g := relF 3 c) (lo := 0) (P := fun A i => i ≤ R.2.1 ∧ ∀ j, 0 ≤ j → j ≤ R.2.1 → A.1 2 j ≠ c ∧ A.1 4 j ≠ c) (fun A i i0 hP => ?_) (R.2.1 + 1).toNat R.2.1 R (by omega) ⟨Int.le_refl _, fun j j0 j1 => ⟨h.no2 hc (by rw [q]; decide) j0 j1, h.no4 hc (by rw [q]; decide) j0 j1⟩⟩).1
      · rw [z, reld_at]
        refine Prod.ext (funext fun w' => funext fun j => ?_) rfl
        show (if w' = 3 ∧ R.2.1 - ((R.2.1 + 1).toNat : Int) < j ∧ j ≤ R.2.1 ∧ R.1 3 j = c then (-1 : Int) else R.1 w' j) = if w' = 3 ∧ 0 ≤ j ∧ j < 0 + (R.2.1.toNat : Int) ∧ R.1 3 j = c then -1 else R.1 w' j
        by_cases e : w' = 3 ∧ 0 ≤ j ∧ j < R.2.1 ∧ R.1 3 j = c
        · rw [if_pos ⟨e.1, by omega, by omega, e.2.2.2⟩, if_pos ⟨e.1, by omega, by omega, e.2.2.2⟩]
        · rw [if_neg (fun y => e ⟨y.1, by omega, by
            have e3 : j ≠ R.2.1 := fun x => by have y2 := y.2.2.2; rw [x, h.1.2.2.1] at y2; omega
            omega, y.2.2.2⟩), if_neg (fun y => e ⟨y.1, by omega, by omega, y.2.2.2⟩)]
      · obtain ⟨p1, p2⟩ := hP
        have p3 := p2 i i0 p1
        refine ⟨?_, by omega, fun j j0 j1 => ?_⟩
        · unfold jdgF
          rw [if_neg (fun y => by rcases y with y | y; exact p3.1 y.1; exact absurd y.2 (by decide)), hS A i p3.2, if_neg p3.1, setR_self]
          unfold relF
          by_cases e : A.1 3 i = c
          · rw [if_pos e, if_pos e]
          · rw [if_neg e, if_neg e, setR_self]
        · unfold relF
          by_cases e : A.1 3 i = c
          · rw [if_pos e, setR_ne (by omega), setR_ne (by omega)]; exact p2 j j0 j1
          · rw [if_neg e]; exact p2 j j0 j1
  · rw [q]
    unfold setlR
    rw [if_neg (by decide), if_neg (by decide), sty_at]
    have z := (dnX_congr (f := jdgF c acc) (g := styF c acc) (lo := 0) (P := fun A i => i ≤ R.2.1 ∧ ∀ j, 0 ≤ j → j ≤ R.2.1 → A.1 2 j ≠ c ∧ A.1 3 j ≠ c) (fun A i i0 hP => ?_) (R.2.1 + 1).toNat R.2.1 R (by omega) ⟨Int.le_refl _, fun j j0 j1 => ⟨h.no2 hc (by rw [q]; decide) j0 j1, h.no3 hc (by rw [q]; decide) j0 j1⟩⟩).1
    · rw [z, styd_at, show R.2.1 - ((R.2.1 + 1).toNat : Int) + 1 = 0 by omega, show (0 : Int) + ((R.2.1 + 1).toNat : Int) = R.2.1 + 1 by omega]
    · obtain ⟨p1, p2⟩ := hP
      have p3 := p2 i i0 p1
      refine ⟨?_, by omega, fun j j0 j1 => by rw [styF_ne (by decide) (by decide), styF_ne (by decide) (by decide)]; exact p2 j j0 j1⟩
      unfold jdgF
      rw [if_neg (fun y => by rcases y with y | y; exact p3.1 y.1; exact p3.2 y.1), if_neg p3.1, if_neg p3.2, show A.1 2 i = (jdgS c acc A i).1 2 i from (jdgS_ne (by omega)).symm, setR_self, show A.1 3 i = (jdgS c acc A i).1 3 i from (jdgS_ne (by omega)).symm, setR_self]
      unfold jdgS styF
      by_cases e : A.1 4 i = c
      · rw [if_pos e, if_pos e]
        cases acc with
        | true => rw [if_pos rfl, if_pos rfl, setR_self]
        | false => rw [if_neg (by decide), if_neg (by decide), setR_comm (by decide)]
      · rw [if_neg e, if_neg e]
theorem jdgD_eq {D : PapD} {c : Int} {acc : Bool} (h : PpI nf ns D) (hc : 0 ≤ c ∧ c < D.2.1.1) : jdgD D c acc = setlD D c acc := by
  unfold jdgD setlD
  rw [jdg_eq h.1 hc.1 (h.2.1.2 c hc.1 hc.2).1]
theorem stl_all {D : PapD} {a : Int} {acc : Bool} (h : PpI nf ns D) : jalAll D a acc = stlAll D a acc ∧ PpI nf ns (stlAll D a acc).1 := by
  have hl := h.2.1.1
  have z := upX_congr (f := jalF a acc) (g := stlF a acc) (hi := D.2.1.1) (P := fun E _ => PpI nf ns E.1 ∧ E.1.2.1.1 = D.2.1.1) (fun E i i0 i1 hP => ?_) D.2.1.1.toNat 0 (D, 0) (by omega) (by omega) ⟨h, rfl⟩
  · exact ⟨z.1, z.2.1⟩
  · unfold jalF stlF
    by_cases e : E.1.2.1.2.2.2 i = 119 ∧ (a = -1 ∨ E.1.2.1.2.2.1 i = a)
    · rw [if_pos e, if_pos e, jdgD_eq hP.1 ⟨i0, by rw [hP.2]; exact i1⟩]
      exact ⟨rfl, hP.1.setl ⟨i0, by rw [hP.2]; exact i1⟩, hP.2⟩
    · rw [if_neg e, if_neg e]
      exact ⟨rfl, hP⟩
end Setl
