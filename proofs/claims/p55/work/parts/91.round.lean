/-! What the two divisions give: numbers with all digits, so that their bits are counted rightly. -/
section Bits2
theorem fq_exact {f : FP.Core.Fmt} (hp : 1 ≤ f.p) {s : Bool} {A m C u v : Nat} {e Q : Int} (h1 : 2 ^ (f.p - 1) ≤ C) (h2 : C < 2 ^ f.p) (q1 : f.qmin ≤ Q) (q2 : Q ≤ f.qmax) (hv : A * 2 ^ u = C * 2 ^ v) (hq : (u : Int) - (v : Int) = e - (m : Int) - Q) : FP.Core.roundRatio f s A (2 ^ m) e = .fin s C Q := by
  have hA : A ≠ 0 := by
    intro z
    rw [z, Nat.zero_mul] at hv
    have := Nat.mul_pos (Nat.lt_of_lt_of_le (Nat.two_pow_pos (f.p - 1)) h1) (Nat.two_pow_pos v)
    omega
  obtain ⟨l, hl⟩ : ∃ l, A.log2 = l := ⟨_, rfl⟩
  have a1 : 2 ^ l ≤ A := hl ▸ Nat.log2_self_le hA
  have a2 : A < 2 ^ (l + 1) := hl ▸ Nat.lt_log2_self
  have e1 : l + u + 1 = f.p + v := by
    have b1 : 2 ^ (l + u) < 2 ^ (f.p + v) := by
      rw [Nat.pow_add, Nat.pow_add]
      exact Nat.lt_of_le_of_lt (Nat.mul_le_mul_right _ a1) (hv ▸ Nat.mul_lt_mul_of_pos_right h2 (Nat.two_pow_pos v))
    have b2 : 2 ^ (f.p - 1 + v) < 2 ^ (l + 1 + u) := by
      rw [Nat.pow_add, Nat.pow_add 2 (l + 1) u]
      exact Nat.lt_of_le_of_lt (Nat.mul_le_mul_right _ h1) (hv ▸ Nat.mul_lt_mul_of_pos_right a2 (Nat.two_pow_pos u))
    have c1 := (Nat.pow_lt_pow_iff_right (by decide : 1 < 2)).mp b1
    have c2 := (Nat.pow_lt_pow_iff_right (by decide : 1 < 2)).mp b2
    omega
  have hlead : FP.Core.leading A (2 ^ m) = (l : Int) - (m : Int) := by
    show (if 2 ^ m * 2 ^ ((A.log2 : Int) - ((2 ^ m).log2 : Int)).toNat ≤ A * 2 ^ (-((A.log2 : Int) - ((2 ^ m).log2 : Int))).toNat then (A.log2 : Int) - ((2 ^ m).log2 : Int) else (A.log2 : Int) - ((2 ^ m).log2 : Int) - 1) = _
    rw [hl, Nat.log2_two_pow, if_pos]
    rcases Nat.le_total m l with h | h
    · rw [show ((l : Int) - (m : Int)).toNat = l - m by omega, show (-((l : Int) - (m : Int))).toNat = 0 by omega, ← Nat.pow_add, show m + (l - m) = l by omega, Nat.pow_zero, Nat.mul_one]
      exact a1
    · rw [show ((l : Int) - (m : Int)).toNat = 0 by omega, show (-((l : Int) - (m : Int))).toNat = m - l by omega, Nat.pow_zero, Nat.mul_one]
      have e2 : 2 ^ m = 2 ^ l * 2 ^ (m - l) := by rw [← Nat.pow_add]; congr 1; omega
      rw [e2]
      exact Nat.mul_le_mul_right _ a1
  have hquan : FP.Core.quantum f A (2 ^ m) e = Q := by
    show max f.qmin (FP.Core.leading A (2 ^ m) + e - ((f.p : Int) - 1)) = Q
    rw [hlead]
    omega
  have hu : FP.Core.unitsNum A e Q = C * FP.Core.unitsDen (2 ^ m) e Q := by
    show A * 2 ^ (e - Q).toNat = C * (2 ^ m * 2 ^ (Q - e).toNat)
    refine Nat.eq_of_mul_eq_mul_right (Nat.two_pow_pos v) ?_
    have e3 : (e - Q).toNat + v = u + (m + (Q - e).toNat) := by omega
    rw [Nat.mul_assoc, ← Nat.pow_add, e3, Nat.pow_add, ← Nat.mul_assoc, hv, Nat.pow_add, Nat.mul_right_comm]
  have hD : 0 < FP.Core.unitsDen (2 ^ m) e Q := Nat.mul_pos (Nat.two_pow_pos _) (Nat.two_pow_pos _)
  show (if A = 0 then _ else FP.Core.roundAt f s A (2 ^ m) e (FP.Core.quantum f A (2 ^ m) e)) = _
  rw [if_neg hA, hquan]
  show FP.Core.settle f s (FP.Core.nearest (FP.Core.unitsNum A e Q) (FP.Core.unitsDen (2 ^ m) e Q)) Q = _
  rw [hu]
  generalize FP.Core.unitsDen (2 ^ m) e Q = D at hD ⊢
  have hN : FP.Core.nearest (C * D) D = C := by
    unfold FP.Core.nearest
    rw [Nat.mul_mod_left, if_pos (by omega), Nat.mul_div_cancel _ hD]
  rw [hN]
  unfold FP.Core.settle FP.Core.bound
  rw [if_pos h2, if_pos q2]
theorem fq_near {A B t : Nat} (hB : 0 < B) (h1 : t * B ≤ A) (h2 : A < 2 * t * B) : t ≤ FP.Core.nearest A B ∧ FP.Core.nearest A B ≤ 2 * t := by
  have d1 : t ≤ A / B := (Nat.le_div_iff_mul_le hB).mpr h1
  have d2 : A / B < 2 * t := (Nat.div_lt_iff_lt_mul hB).mpr h2
  unfold FP.Core.nearest
  split
  · omega
  · split
    · omega
    · omega
theorem fq_settle {f : FP.Core.Fmt} (hp : 1 ≤ f.p) {t c : Nat} {Q : Int} (ht : 2 ^ (f.p - 1) = t) (h1 : t ≤ c) (h2 : c ≤ 2 * t) (hQ : Q + 1 ≤ f.qmax) : ∃ (C : Nat) (Q' : Int), FP.Core.settle f false c Q = .fin false C Q' ∧ t ≤ C ∧ C < 2 * t ∧ Q ≤ Q' ∧ Q' ≤ Q + 1 := by
  have hp2 : 2 ^ f.p = 2 * t := by rw [← ht, ← Nat.pow_succ']; congr 1; omega
  have ht0 : 0 < t := by rw [← ht]; exact Nat.two_pow_pos _
  unfold FP.Core.settle FP.Core.bound
  rw [hp2]
  by_cases h : c < 2 * t
  · exact ⟨c, Q, by rw [if_pos h, if_pos (by omega)], h1, h, by omega, by omega⟩
  · exact ⟨t, Q + 1, by rw [if_neg h, if_pos hQ]; show FP.Core.Datum.fin false (2 ^ (f.p - 1)) _ = _; rw [ht], Nat.le_refl _, by omega, by omega, by omega⟩
theorem fq_log {p C : Nat} (h1 : 2 ^ (p - 1) ≤ C) (h2 : C < 2 ^ p) (hp : 1 ≤ p) : C.log2 = p - 1 := by
  have hC : C ≠ 0 := by have := Nat.two_pow_pos (p - 1); omega
  have a1 := (Nat.le_log2 (k := p - 1) hC).mpr h1
  have a2 := (Nat.log2_lt (k := p) hC).mpr h2
  omega
theorem fq_quot {f : FP.Core.Fmt} (hp : 1 ≤ f.p) {t C1 C2 : Nat} {q1 q2 : Int} (ht : 2 ^ (f.p - 1) = t) (a1 : t ≤ C1) (a2 : C1 < 2 * t) (b1 : t ≤ C2) (b2 : C2 < 2 * t) (hr1 : f.qmin ≤ q1 - q2 - f.p) (hr2 : q1 - q2 - f.p + 2 ≤ f.qmax) :
    ∃ (C : Nat) (Q : Int), FP.Core.quotient f (.fin false C1 q1) (.fin false C2 q2) = .fin false C Q ∧ t ≤ C ∧ C < 2 * t ∧ q1 - q2 - f.p ≤ Q ∧ (C2 < C1 → Q ≤ q1 - q2 - f.p + 2) ∧ (C1 ≤ C2 → Q ≤ q1 - q2 - f.p + 1) := by
  have hp2 : 2 ^ f.p = 2 * t := by rw [← ht, ← Nat.pow_succ']; congr 1; omega
  have ht0 : 0 < t := by rw [← ht]; exact Nat.two_pow_pos _
  have l1 : C1.log2 = f.p - 1 := fq_log (by rw [ht]; exact a1) (by rw [hp2]; exact a2) hp
  have l2 : C2.log2 = f.p - 1 := fq_log (by rw [ht]; exact b1) (by rw [hp2]; exact b2) hp
  have hlead : FP.Core.leading C1 C2 = if C2 ≤ C1 then 0 else -1 := by
    show (if C2 * 2 ^ ((C1.log2 : Int) - (C2.log2 : Int)).toNat ≤ C1 * 2 ^ (-((C1.log2 : Int) - (C2.log2 : Int))).toNat then (C1.log2 : Int) - (C2.log2 : Int) else (C1.log2 : Int) - (C2.log2 : Int) - 1) = _
    rw [l1, l2, show ((f.p - 1 : Nat) : Int) - ((f.p - 1 : Nat) : Int) = 0 by omega]
    show (if C2 * 1 ≤ C1 * 1 then (0 : Int) else 0 - 1) = _
    rw [Nat.mul_one, Nat.mul_one]
    rfl
  have hq0 : FP.Core.quotient f (.fin false C1 q1) (.fin false C2 q2) = FP.Core.roundRatio f false C1 C2 (q1 - q2) := by
    show (if C2 = 0 then _ else FP.Core.roundRatio f false C1 C2 (q1 - q2)) = _
    rw [if_neg (by omega)]
  have hr0 : ∀ Q : Int, FP.Core.quantum f C1 C2 (q1 - q2) = Q → FP.Core.roundRatio f false C1 C2 (q1 - q2) = FP.Core.settle f false (FP.Core.nearest (C1 * 2 ^ (q1 - q2 - Q).toNat) (C2 * 2 ^ (Q - (q1 - q2)).toNat)) Q := fun Q hQ => by
    show (if C1 = 0 then _ else FP.Core.roundAt f false C1 C2 (q1 - q2) (FP.Core.quantum f C1 C2 (q1 - q2))) = _
    rw [if_neg (by omega), hQ]
    rfl
  by_cases h : C2 ≤ C1
  · have hQ : FP.Core.quantum f C1 C2 (q1 - q2) = q1 - q2 - f.p + 1 := by
      show max f.qmin (FP.Core.leading C1 C2 + (q1 - q2) - ((f.p : Int) - 1)) = _
      rw [hlead, if_pos h]
      omega
    rw [hq0, hr0 _ hQ, show (q1 - q2 - (q1 - q2 - (f.p : Int) + 1)).toNat = f.p - 1 by omega, show (q1 - q2 - (f.p : Int) + 1 - (q1 - q2)).toNat = 0 by omega, ht, Nat.pow_zero, Nat.mul_one]
    by_cases hE : C1 ≤ C2
    · have e : C1 = C2 := Nat.le_antisymm hE h
      subst e
      have hN : FP.Core.nearest (C1 * t) C1 = t := by
        unfold FP.Core.nearest
        rw [Nat.mul_mod_right, if_pos (by omega), Nat.mul_div_cancel_left _ (by omega)]
      rw [hN]
      refine ⟨t, q1 - q2 - f.p + 1, ?_, Nat.le_refl _, by omega, by omega, fun z => by omega, fun _ => by omega⟩
      unfold FP.Core.settle FP.Core.bound
      rw [if_pos (by rw [hp2]; omega), if_pos (by omega)]
    · have hn := fq_near (A := C1 * t) (B := C2) (t := t) (by omega) (by rw [Nat.mul_comm]; exact Nat.mul_le_mul_right _ h) (by
        refine Nat.lt_of_lt_of_le (Nat.mul_lt_mul_of_pos_right a2 ht0) ?_
        exact Nat.mul_le_mul_left (2 * t) b1)
      obtain ⟨C, Q', k1, k2, k3, k4, k5⟩ := fq_settle hp ht hn.1 hn.2 (Q := q1 - q2 - f.p + 1) (by omega)
      exact ⟨C, Q', k1, k2, k3, by omega, fun _ => by omega, fun z => absurd z hE⟩
  · have hQ : FP.Core.quantum f C1 C2 (q1 - q2) = q1 - q2 - f.p := by
      show max f.qmin (FP.Core.leading C1 C2 + (q1 - q2) - ((f.p : Int) - 1)) = _
      rw [hlead, if_neg h]
      omega
    rw [hq0, hr0 _ hQ, show (q1 - q2 - (q1 - q2 - (f.p : Int))).toNat = f.p by omega, show (q1 - q2 - (f.p : Int) - (q1 - q2)).toNat = 0 by omega, hp2, Nat.pow_zero, Nat.mul_one]
    have hn := fq_near (A := C1 * (2 * t)) (B := C2) (t := t) (by omega) (by
        rw [Nat.mul_comm]
        refine Nat.le_trans (Nat.mul_le_mul_right t (Nat.le_of_lt b2)) ?_
        rw [Nat.mul_comm]
        exact Nat.mul_le_mul_right (2 * t) a1) (by
        rw [Nat.mul_comm]
        exact Nat.mul_lt_mul_of_pos_left (by omega) (by omega))
    obtain ⟨C, Q', k1, k2, k3, k4, k5⟩ := fq_settle hp ht hn.1 hn.2 (Q := q1 - q2 - f.p) (by omega)
    exact ⟨C, Q', k1, k2, k3, by omega, fun z => by omega, fun _ => by omega⟩
end Bits2
