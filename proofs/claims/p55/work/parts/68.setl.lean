/-! A change is judged: what is kept, and the two ways are one. -/
section Setl
variable {nf ns : Int} {L : LogD} {R : RowD}
theorem upX_congr {α : Type} {f g : α → Int → α} {P : α → Int → Prop} {hi : Int} (hs : ∀ A i, 0 ≤ i → i < hi → P A i → f A i = g A i ∧ P (g A i) (i + 1)) : ∀ (m : Nat) (i : Int) (A : α), 0 ≤ i → i + m ≤ hi → P A i → upX f m i A = upX g m i A ∧ P (upX g m i A) (i + m) := by
  intro m
  induction m with
  | zero => intro i A _ _ h; exact ⟨rfl, by rw [show i + ((0 : Nat) : Int) = i by omega]; exact h⟩
  | succ m ih =>
    intro i A h0 h1 h
    obtain ⟨e, k⟩ := hs A i h0 (by omega) h
    have z := ih (i + 1) (g A i) (by omega) (by omega) k
    show upX f m (i + 1) (f A i) = upX g m (i + 1) (g A i) ∧ P (upX g m (i + 1) (g A i)) _
    rw [e]
    exact ⟨z.1, by rw [show i + ((m + 1 : Nat) : Int) = i + 1 + m by omega]; exact z.2⟩
theorem dnX_congr {α : Type} {f g : α → Int → α} {P : α → Int → Prop} {lo : Int} (hs : ∀ A i, lo ≤ i → P A i → f A i = g A i ∧ P (g A i) (i - 1)) : ∀ (m : Nat) (i : Int) (A : α), lo ≤ i - m + 1 → P A i → dnX f m i A = dnX g m i A ∧ P (dnX g m i A) (i - m) := by
  intro m
  induction m with
  | zero => intro i A _ h; exact ⟨rfl, by rw [show i - ((0 : Nat) : Int) = i by omega]; exact h⟩
  | succ m ih =>
    intro i A h0 h
    obtain ⟨e, k⟩ := hs A i (by omega) h
    have z := ih (i - 1) (g A i) (by omega) k
    show dnX f m (i - 1) (f A i) = dnX g m (i - 1) (g A i) ∧ P (dnX g m (i - 1) (g A i)) _
    rw [e]
    exact ⟨z.1, by rw [show i - ((m + 1 : Nat) : Int) = i - 1 - m by omega]; exact z.2⟩
theorem setR_at {w i z w' j : Int} : (setR R w i z).1 w' j = if w' = w ∧ j = i then z else R.1 w' j := rfl
theorem mk_no {kd c m : Int} (hc : 0 ≤ c) (h : mkOK L kd m) (hk : L.2.1 c ≠ kd) : m ≠ c := by
  intro e
  subst e
  rcases h with h | ⟨_, _, h, _⟩
  · omega
  · exact hk h
theorem RwI.no2 (h : RwI nf ns L R) {c : Int} (hc : 0 ≤ c) (hk : L.2.1 c ≠ 105) {i : Int} (h0 : 0 ≤ i) (h1 : i ≤ R.2.1) : R.1 2 i ≠ c := mk_no hc (h.2.2.2.1 i h0 h1).2.1 hk
theorem RwI.no3 (h : RwI nf ns L R) {c : Int} (hc : 0 ≤ c) (hk : L.2.1 c ≠ 101) {i : Int} (h0 : 0 ≤ i) (h1 : i ≤ R.2.1) : R.1 3 i ≠ c := mk_no hc (h.2.2.2.1 i h0 h1).2.2.1 hk
theorem RwI.no4 (h : RwI nf ns L R) {c : Int} (hc : 0 ≤ c) (hk : L.2.1 c ≠ 115) {i : Int} (h0 : 0 ≤ i) (h1 : i ≤ R.2.1) : R.1 4 i ≠ c := mk_no hc (h.2.2.2.1 i h0 h1).2.2.2.1 hk
theorem rel_row {R' : RowD} (h : RwI nf ns L R) (hn : R'.2 = R.2) (hs : ∀ w j, w ≠ 2 → w ≠ 3 → R'.1 w j = R.1 w j) (h2 : ∀ j, R'.1 2 j = R.1 2 j ∨ R'.1 2 j = -1) (h3 : ∀ j, R'.1 3 j = R.1 3 j ∨ R'.1 3 j = -1) : RwI nf ns L R' := by
  refine h.gen hn (by rw [hs 0 _ (by decide) (by decide)]; exact h.1.2.2.2) (fun j => hs 1 j (by decide) (by decide)) ?_ ?_ (h.2.2.2.2.1.sub (by rw [hn]) (fun j => Or.inl (hs 4 j (by decide) (by decide)))) (fun i i0 i1 => ?_)
  · rcases h2 R.2.1 with q | q
    · rw [q]; exact h.2.2.1
    · exact q
  · rcases h3 R.2.1 with q | q
    · rw [q]; exact h.1.2.2.1
    · exact q
  · obtain ⟨q1, q2, q3, q4, q5, q6⟩ := h.2.2.2.1 i i0 i1
    unfold UnI
    rw [hs 0 _ (by decide) (by decide), hs 1 _ (by decide) (by decide), hs 4 _ (by decide) (by decide), hs 5 _ (by decide) (by decide), hs 6 _ (by decide) (by decide), hs 7 _ (by decide) (by decide), hs 8 _ (by decide) (by decide), hs 9 _ (by decide) (by decide)]
    refine ⟨q1, ?_, ?_, q4, q5, q6⟩
    · rcases h2 i with y | y
      · rw [y]; exact q2
      · exact Or.inl y
    · rcases h3 i with y | y
      · rw [y]; exact q3
      · exact Or.inl y
theorem rel_ne {w c w' j i : Int} {m : Nat} (h : w' ≠ w) : (upX (relF w c) m i R).1 w' j = R.1 w' j := by
  rw [rel_at]
  exact if_neg (fun z => h z.1)
theorem rel_2 {w c i : Int} {m : Nat} : (upX (relF w c) m i R).2 = R.2 := by rw [rel_at]
theorem rel_or {w c i j : Int} {m : Nat} : (upX (relF w c) m i R).1 w j = R.1 w j ∨ (upX (relF w c) m i R).1 w j = -1 := by
  rw [rel_at]
  show (if w = w ∧ i ≤ j ∧ j < i + m ∧ R.1 w j = c then (-1 : Int) else R.1 w j) = R.1 w j ∨ (if w = w ∧ i ≤ j ∧ j < i + m ∧ R.1 w j = c then (-1 : Int) else R.1 w j) = -1
  by_cases y : w = w ∧ i ≤ j ∧ j < i + m ∧ R.1 w j = c
  · rw [if_pos y]; exact Or.inr rfl
  · rw [if_neg y]; exact Or.inl rfl
theorem sty_row {c lo hi : Int} {acc : Bool} (h : RwI nf ns L R) (hc : 0 ≤ c) : RwI nf ns L (styG c acc R lo hi) := by
  have a : ∀ w j, (styG c acc R lo hi).1 w j = if lo ≤ j ∧ j < hi ∧ R.1 4 j = c then (if w = 4 then -1 else if w = 5 ∧ acc = false then R.1 6 j else R.1 w j) else R.1 w j := fun _ _ => rfl
  have s : ∀ w j, w ≠ 4 → w ≠ 5 → (styG c acc R lo hi).1 w j = R.1 w j := fun w j w4 w5 => by
    rw [a]
    by_cases y : lo ≤ j ∧ j < hi ∧ R.1 4 j = c
    · rw [if_pos y, if_neg w4, if_neg (fun z => w5 z.1)]
    · rw [if_neg y]
  have s4 : ∀ j, (styG c acc R lo hi).1 4 j = R.1 4 j ∨ (styG c acc R lo hi).1 4 j = -1 := fun j => by
    rw [a]
    by_cases y : lo ≤ j ∧ j < hi ∧ R.1 4 j = c
    · rw [if_pos y, if_pos rfl]; exact Or.inr rfl
    · rw [if_neg y]; exact Or.inl rfl
  refine h.gen rfl (by rw [s 0 _ (by decide) (by decide)]; exact h.1.2.2.2) (fun j => s 1 j (by decide) (by decide)) (by rw [s 2 _ (by decide) (by decide)]; exact h.2.2.1) (by rw [s 3 _ (by decide) (by decide)]; exact h.1.2.2.1) (h.2.2.2.2.1.sub rfl s4) (fun i i0 i1 => ?_)
  obtain ⟨q1, q2, q3, q4, q5, q6⟩ := h.2.2.2.1 i i0 i1
  unfold UnI
  rw [s 0 _ (by decide) (by decide), s 1 _ (by decide) (by decide), s 2 _ (by decide) (by decide), s 3 _ (by decide) (by decide), s 6 _ (by decide) (by decide), s 7 _ (by decide) (by decide), s 8 _ (by decide) (by decide), s 9 _ (by decide) (by decide)]
  refine ⟨q1, q2, q3, ?_, fun z => ?_, fun z => ⟨?_, (q6 z).2⟩⟩
  · rcases s4 i with y | y
    · rw [y]; exact q4
    · exact Or.inl y
  · rcases s4 i with y | y
    · rw [y] at z; exact q5 z
    · exact absurd y z
  · rw [a]
    by_cases y : lo ≤ i ∧ i < hi ∧ R.1 4 i = c
    · rw [if_pos y, if_neg (show ¬ (5 : Int) = 4 by decide)]
      by_cases y2 : (5 : Int) = 5 ∧ acc = false
      · rw [if_pos y2]; exact (q5 (by rw [y.2.2]; omega)).2
      · rw [if_neg y2]; exact (q6 z).1
    · rw [if_neg y]; exact (q6 z).1
theorem setl_row {c : Int} {acc : Bool} (h : RwI nf ns L R) (hc : 0 ≤ c) (hk : L.2.1 c = 105 ∨ L.2.1 c = 101 ∨ L.2.1 c = 115) : RwI nf ns L (setlR R (L.2.1 c) c acc) ∧ ∀ i, 0 ≤ i → i ≤ (setlR R (L.2.1 c) c acc).2.1 → (setlR R (L.2.1 c) c acc).1 2 i ≠ c ∧ (setlR R (L.2.1 c) c acc).1 3 i ≠ c ∧ (setlR R (L.2.1 c) c acc).1 4 i ≠ c := by
  have hn := h.1.1
  have fin : ∀ {R' : RowD}, RwI nf ns L R' → (L.2.1 c = 105 → ∀ i, 0 ≤ i → i ≤ R'.2.1 → R'.1 2 i ≠ c) → (L.2.1 c = 101 → ∀ i, 0 ≤ i → i ≤ R'.2.1 → R'.1 3 i ≠ c) → (L.2.1 c = 115 → ∀ i, 0 ≤ i → i ≤ R'.2.1 → R'.1 4 i ≠ c) → RwI nf ns L R' ∧ ∀ i, 0 ≤ i → i ≤ R'.2.1 → R'.1 2 i ≠ c ∧ R'.1 3 i ≠ c ∧ R'.1 4 i ≠ c := by
    intro R' k k2 k3 k4
    refine ⟨k, fun i i0 i1 => ⟨?_, ?_, ?_⟩⟩
    · by_cases q : L.2.1 c = 105
      · exact k2 q i i0 i1
      · exact k.no2 hc q i0 i1
    · by_cases q : L.2.1 c = 101
      · exact k3 q i i0 i1
      · exact k.no3 hc q i0 i1
    · by_cases q : L.2.1 c = 115
      · exact k4 q i i0 i1
      · exact k.no4 hc q i0 i1
  rcases hk with q | q | q
  · rw [q]
    unfold setlR
    rw [if_pos rfl]
    cases acc with
    | true =>
      rw [if_pos rfl]
      refine fin (rel_row h rel_2 (fun w j w2 _ => rel_ne w2) (fun j => rel_or) (fun j => Or.inl (rel_ne (by decide)))) (fun _ i i0 i1 => ?_) (fun z => absurd (q.symm.trans z) (by decide)) (fun z => absurd (q.symm.trans z) (by decide))
      · rw [rel_at] at i1 ⊢
        show (if (2 : Int) = 2 ∧ 0 ≤ i ∧ i < 0 + (R.2.1.toNat : Int) ∧ R.1 2 i = c then (-1 : Int) else R.1 2 i) ≠ c
        have i2 : i ≤ R.2.1 := i1
        by_cases e : R.1 2 i = c
        · by_cases e2 : i < R.2.1
          · rw [if_pos ⟨rfl, i0, by omega, e⟩]; omega
          · exfalso
            have e3 : i = R.2.1 := by omega
            rw [e3, h.2.2.1] at e
            omega
        · rw [if_neg (fun z => e z.2.2.2)]; exact e
    | false =>
      rw [if_neg (by decide)]
      refine fin (drp_all _ _ _ h (by omega) (by omega)) (fun _ i i0 i1 => ?_) (fun z => absurd (q.symm.trans z) (by decide)) (fun z => absurd (q.symm.trans z) (by decide))
      have k := drp_all (p := fun R i => decide (R.1 2 i = c)) R.2.1.toNat R (R.2.1 - 1) h (by omega) (by omega)
      by_cases e : i < (dnX (drpF (fun R i => decide (R.1 2 i = c))) R.2.1.toNat (R.2.1 - 1) R).2.1
      · exact drp_no _ _ _ (by omega) (by omega) (fun j j0 j1 => by omega) i i0 e
      · rw [show i = (dnX (drpF (fun R i => decide (R.1 2 i = c))) R.2.1.toNat (R.2.1 - 1) R).2.1 by omega, k.2.2.1]; omega
  · rw [q]
    unfold setlR
    rw [if_neg (by decide), if_pos rfl]
    cases acc with
    | true =>
      rw [if_pos rfl]
      refine fin (drp_all _ _ _ h (by omega) (by omega)) (fun z => absurd (q.symm.trans z) (by decide)) (fun _ i i0 i1 => ?_) (fun z => absurd (q.symm.trans z) (by decide))
      have k := drp_all (p := fun R i => decide (R.1 3 i = c)) R.2.1.toNat R (R.2.1 - 1) h (by omega) (by omega)
      by_cases e : i < (dnX (drpF (fun R i => decide (R.1 3 i = c))) R.2.1.toNat (R.2.1 - 1) R).2.1
      · exact drp_no _ _ _ (by omega) (by omega) (fun j j0 j1 => by omega) i i0 e
      · rw [show i = (dnX (drpF (fun R i => decide (R.1 3 i = c))) R.2.1.toNat (R.2.1 - 1) R).2.1 by omega, k.1.2.2.1]; omega
    | false =>
      rw [if_neg (by decide)]
      refine fin (rel_row h rel_2 (fun w j _ w3 => rel_ne w3) (fun j => Or.inl (rel_ne (by decide))) (fun j => rel_or)) (fun z => absurd (q.symm.trans z) (by decide)) (fun _ i i0 i1 => ?_) (fun z => absurd (q.symm.trans z) (by decide))
      · rw [rel_at] at i1 ⊢
        show (if (3 : Int) = 3 ∧ 0 ≤ i ∧ i < 0 + (R.2.1.toNat : Int) ∧ R.1 3 i = c then (-1 : Int) else R.1 3 i) ≠ c
        have i2 : i ≤ R.2.1 := i1
        by_cases e : R.1 3 i = c
        · by_cases e2 : i < R.2.1
          · rw [if_pos ⟨rfl, i0, by omega, e⟩]; omega
          · exfalso
            have e3 : i = R.2.1 := by omega
            rw [e3, h.1.2.2.1] at e
            omega
        · rw [if_neg (fun z => e z.2.2.2)]; exact e
  · rw [q]
    unfold setlR
    rw [if_neg (by decide), if_neg (by decide), sty_at]
    refine fin (sty_row h hc) (fun z => absurd (q.symm.trans z) (by decide)) (fun z => absurd (q.symm.trans z) (by decide)) (fun _ i i0 i1 => ?_)
    have i2 : i ≤ R.2.1 := i1
    show (if 0 ≤ i ∧ i < 0 + ((R.2.1 + 1).toNat : Int) ∧ R.1 4 i = c then (if (4 : Int) = 4 then (-1 : Int) else if (4 : Int) = 5 ∧ acc = false then R.1 6 i else R.1 4 i) else R.1 4 i) ≠ c
    by_cases e : R.1 4 i = c
    · rw [if_pos ⟨i0, by omega, e⟩, if_pos rfl]; omega
    · rw [if_neg (fun z => e z.2.2)]; exact e
theorem LgI.sst {c z : Int} (h : LgI L) (hz : z = 97 ∨ z = 114) : LgI (sstL L c z) := by
  refine ⟨h.1, fun k k0 k1 => ⟨(h.2 k k0 k1).1, (h.2 k k0 k1).2.1, ?_⟩⟩
  show (if k = c then z else L.2.2.2 k) = 119 ∨ (if k = c then z else L.2.2.2 k) = 97 ∨ (if k = c then z else L.2.2.2 k) = 114
  by_cases e : k = c
  · rw [if_pos e]; exact Or.inr hz
  · rw [if_neg e]; exact (h.2 k k0 k1).2.2
theorem PpI.setl {D : PapD} {c : Int} {acc : Bool} (h : PpI nf ns D) (hc : 0 ≤ c ∧ c < D.2.1.1) : PpI nf ns (setlD D c acc) := by
  obtain ⟨a, b, d, e⟩ := h
  have k := setl_row (acc := acc) a hc.1 (b.2 c hc.1 hc.2).1
  exact ⟨k.1.sst hc.1 k.2, b.sst (by cases acc <;> decide), d, e⟩
end Setl
