/-! Numbers with all digits. -/
section Digits
theorem fq_cmp (a b : Int) : compare a b = if a < b then .lt else if a = b then .eq else .gt := rfl
theorem fq_le {C D : Nat} {Q R : Int} (h : Q ≤ R) : FP.Core.order (.fin false C Q) (.fin false D R) = some (compare ((C : Nat) : Int) ((D * 2 ^ (R - Q).toNat : Nat) : Int)) := by
  show some (compare ((FP.Core.inUnits C Q (min Q R) : Nat) : Int) ((FP.Core.inUnits D R (min Q R) : Nat) : Int)) = _
  rw [Int.min_eq_left h]
  unfold FP.Core.inUnits
  rw [Int.sub_self]
  show some (compare ((C * 1 : Nat) : Int) _) = _
  rw [Nat.mul_one]
theorem fq_ge {C D : Nat} {Q R : Int} (h : R ≤ Q) : FP.Core.order (.fin false C Q) (.fin false D R) = some (compare ((C * 2 ^ (Q - R).toNat : Nat) : Int) ((D : Nat) : Int)) := by
  show some (compare ((FP.Core.inUnits C Q (min Q R) : Nat) : Int) ((FP.Core.inUnits D R (min Q R) : Nat) : Int)) = _
  rw [Int.min_eq_right h]
  unfold FP.Core.inUnits
  rw [Int.sub_self]
  show some (compare _ ((D * 1 : Nat) : Int)) = _
  rw [Nat.mul_one]
theorem fqT3 : 2 ^ (FP.Core.b32.p - 1) = 8388608 := by decide
theorem fqP3 : 2 ^ FP.Core.b32.p = 16777216 := by decide
def NF3 (x : UInt32) (C : Nat) (Q : Int) : Prop := (8388608 ≤ C ∧ C < 16777216 ∧ -149 ≤ Q ∧ Q ≤ 104) ∧ FP.Core.decode FP.Core.b32 x.toNat = .fin false C Q ∧ x.toNat = (Q + 150).toNat * 8388608 + (C - 8388608)
theorem nf3_mk {C : Nat} {Q : Int} (h1 : 8388608 ≤ C) (h2 : C < 16777216) (q1 : -149 ≤ Q) (q2 : Q ≤ 104) : NF3 (UInt32.ofNat (FP.Core.encode FP.Core.b32 (.fin false C Q))) C Q := by
  have he : FP.Core.encode FP.Core.b32 (.fin false C Q) = (Q + 150).toNat * 8388608 + (C - 8388608) := by
    show (if C < 8388608 then _ else (0 * 256 + ((Q - (-149)).toNat + 1)) * 8388608 + (C - 8388608)) = _
    rw [if_neg (by omega)]
    have e : 0 * 256 + ((Q - (-149)).toNat + 1) = (Q + 150).toNat := by omega
    rw [e]
  obtain ⟨E, hE⟩ : ∃ E, (Q + 150).toNat = E := ⟨_, rfl⟩
  obtain ⟨t, ht⟩ : ∃ t, C - 8388608 = t := ⟨_, rfl⟩
  obtain ⟨N, hN⟩ : ∃ N, E * 8388608 + t = N := ⟨_, rfl⟩
  have hb : N < 4294967296 := by omega
  have hn : (UInt32.ofNat (FP.Core.encode FP.Core.b32 (.fin false C Q))).toNat = N := by
    rw [he, hE, ht, hN]
    exact (show (UInt32.ofNat N).toNat = N % 4294967296 from rfl).trans (Nat.mod_eq_of_lt hb)
  refine ⟨⟨h1, h2, q1, q2⟩, ?_, ?_⟩
  · rw [hn]
    show (if N / 8388608 % 256 = 256 - 1 then _ else if N / 8388608 % 256 = 0 then _ else FP.Core.Datum.fin (N / 8388608 / 256 % 2 == 1) (8388608 + N % 8388608) (-149 + (((N / 8388608 % 256 : Nat) : Int) - 1))) = _
    have f1 : N / 8388608 = E := by omega
    have f2 : N % 8388608 = t := by omega
    rw [f1, f2, Nat.mod_eq_of_lt (show E < 256 by omega), Nat.div_eq_of_lt (show E < 256 by omega), if_neg (by omega), if_neg (by omega)]
    have f3 : 8388608 + t = C := by omega
    have f4 : (-149 : Int) + ((E : Int) - 1) = Q := by omega
    rw [f3, f4]
    rfl
  · rw [hn, hE, ht, hN]
theorem nf3_nn {x : UInt32} {C : Nat} {Q : Int} (h : NF3 x C Q) : nn32 x = true := by
  obtain ⟨⟨a1, a2, a3, a4⟩, hd, hn⟩ := h
  unfold nn32
  refine decide_eq_true ?_
  rw [UInt32.le_iff_toNat_le, UInt32.toNat_and]
  refine Nat.le_trans Nat.and_le_left ?_
  show x.toNat ≤ 2139095040
  omega
theorem nf3_ex {s : Bool} {A u v C : Nat} {e Q : Int} (h1 : 8388608 ≤ C) (h2 : C < 16777216) (q1 : -149 ≤ Q) (q2 : Q ≤ 104) (hv : A * 2 ^ u = C * 2 ^ v) (hq : (u : Int) - (v : Int) = e - Q) : FP.Core.roundRatio FP.Core.b32 s A 1 e = .fin s C Q :=
  fq_exact (m := 0) (by decide) (by rw [fqT3]; exact h1) (by rw [fqP3]; exact h2) q1 q2 hv (by omega)
theorem nf3_mulc {x k : UInt32} {C : Nat} {Q r : Int} (h : NF3 x C Q) (hk : FP.Core.decode FP.Core.b32 k.toNat = .fin false 8388608 r) (q1 : -149 ≤ Q + r + 23) (q2 : Q + r + 23 ≤ 104) : NF3 (FP.fmul x k) C (Q + r + 23) := by
  obtain ⟨⟨a1, a2, a3, a4⟩, hd, hn⟩ := h
  have e : FP.fmul x k = UInt32.ofNat (FP.Core.encode FP.Core.b32 (.fin false C (Q + r + 23))) := by
    show UInt32.ofNat (FP.Core.encode FP.Core.b32 (FP.Core.round FP.Core.b32 (FP.Core.exactProduct (FP.Core.decode FP.Core.b32 x.toNat) (FP.Core.decode FP.Core.b32 k.toNat)))) = _
    rw [hd, hk]
    show UInt32.ofNat (FP.Core.encode FP.Core.b32 (FP.Core.roundRatio FP.Core.b32 false (C * 8388608) 1 (Q + r))) = _
    rw [nf3_ex (u := 0) (v := 23) a1 a2 q1 q2 (show C * 8388608 * 2 ^ 0 = C * 2 ^ 23 from Nat.mul_one _) (by omega)]
  rw [e]
  exact nf3_mk a1 a2 q1 q2
theorem nf3_log {T l : Nat} (h0 : 1 ≤ T) (hT : T < 8388608) (hl : T.log2 = l) : l ≤ 23 - 1 ∧ 8388608 ≤ T * 2 ^ (23 - l) ∧ T * 2 ^ (23 - l) < 16777216 := by
  have hne : T ≠ 0 := by omega
  have l1 : 2 ^ l ≤ T := hl ▸ Nat.log2_self_le hne
  have l2 : T < 2 ^ (l + 1) := hl ▸ Nat.lt_log2_self
  have l3 : l < 23 := hl ▸ (Nat.log2_lt hne).mpr hT
  have e1 : 2 ^ l * 2 ^ (23 - l) = 8388608 := by rw [← Nat.pow_add, show l + (23 - l) = 23 by omega]
  have e2 : 2 ^ (l + 1) * 2 ^ (23 - l) = 16777216 := by rw [← Nat.pow_add, show l + 1 + (23 - l) = 24 by omega]
  refine ⟨by omega, ?_, ?_⟩
  · rw [← e1]; exact Nat.mul_le_mul_right _ l1
  · rw [← e2]; exact Nat.mul_lt_mul_of_pos_right l2 (Nat.two_pow_pos _)
theorem nf3_one : FP.Core.decode FP.Core.b32 (FP.fconst1 : UInt32).toNat = .fin false 8388608 (-23) := by decide +kernel
theorem nf3_sub1 {x : UInt32} {C l : Nat} (h : NF3 x C (-23)) (hT : 8388608 < C) (hl : (C - 8388608).log2 = l) : NF3 (FP.fsub x FP.fconst1) ((C - 8388608) * 2 ^ (23 - l)) ((l : Int) - 46) := by
  obtain ⟨⟨a1, a2, a3, a4⟩, hd, hn⟩ := h
  obtain ⟨k1, k2, k3⟩ := nf3_log (T := C - 8388608) (by omega) (by omega) hl
  have e : FP.fsub x FP.fconst1 = UInt32.ofNat (FP.Core.encode FP.Core.b32 (.fin false ((C - 8388608) * 2 ^ (23 - l)) ((l : Int) - 46))) := by
    show UInt32.ofNat (FP.Core.encode FP.Core.b32 (FP.Core.round FP.Core.b32 (FP.Core.exactSum (FP.Core.decode FP.Core.b32 x.toNat) (FP.Core.negate (FP.Core.decode FP.Core.b32 (FP.fconst1 : UInt32).toNat))))) = _
    rw [hd, nf3_one]
    have hV : FP.Core.sumUnits false C (-23) true 8388608 (-23) (min (-23) (-23)) = ((C - 8388608 : Nat) : Int) := by
      show ((C * 1 : Nat) : Int) + -((8388608 * 1 : Nat) : Int) = _
      omega
    show UInt32.ofNat (FP.Core.encode FP.Core.b32 (FP.Core.roundRatio FP.Core.b32 (FP.Core.sumSign false true (FP.Core.sumUnits false C (-23) true 8388608 (-23) (min (-23) (-23)))) (FP.Core.sumUnits false C (-23) true 8388608 (-23) (min (-23) (-23))).natAbs 1 (-23))) = _
    have hs : FP.Core.sumSign false true ((C - 8388608 : Nat) : Int) = false := by
      unfold FP.Core.sumSign
      rw [if_neg (by omega)]
      exact decide_eq_false (by omega)
    rw [hV, hs, Int.natAbs_natCast, nf3_ex (u := 23 - l) (v := 0) (Q := (l : Int) - 46) k2 k3 (by omega) (by omega) (by rw [Nat.pow_zero, Nat.mul_one]) (by omega)]
  rw [e]
  exact nf3_mk k2 k3 (by omega) (by omega)
theorem nf3_toI {y : UInt32} {T j : Nat} (h : NF3 y (T * 2 ^ j) (-(j : Int))) (hT : T < 8388608) : (FP.f2i y).toInt = (T : Int) := by
  obtain ⟨-, hd, -⟩ := h
  have e : FP.f2i y = Int32.ofInt (max (-2147483648) (min (2147483648 - 1) (FP.Core.truncate false (T * 2 ^ j) (-(j : Int))))) := by
    show Int32.ofInt (FP.Core.toInt (-2 ^ 31) (2 ^ 31 - 1) (FP.Core.decode FP.Core.b32 y.toNat)) = _
    rw [hd]
    rfl
  have ht : FP.Core.truncate false (T * 2 ^ j) (-(j : Int)) = (T : Int) := by
    show ((T * 2 ^ j * 2 ^ (-(j : Int)).toNat / 2 ^ (-(-(j : Int))).toNat : Nat) : Int) = _
    rw [show (-(j : Int)).toNat = 0 by omega, show (-(-(j : Int))).toNat = j by omega, Nat.pow_zero, Nat.mul_one, Nat.mul_div_cancel _ (Nat.two_pow_pos j)]
  rw [e, ht, show max (-2147483648) (min (2147483648 - 1) (T : Int)) = (T : Int) by omega]
  exact in32_ext (by unfold in32; omega)
theorem fqT6 : 2 ^ (FP.Core.b64.p - 1) = 4503599627370496 := by decide
theorem fqP6 : 2 ^ FP.Core.b64.p = 9007199254740992 := by decide
def NF6 (x : UInt64) (C : Nat) (Q : Int) : Prop := (4503599627370496 ≤ C ∧ C < 9007199254740992 ∧ -1074 ≤ Q ∧ Q ≤ 971) ∧ FP.Core.decode FP.Core.b64 x.toNat = .fin false C Q ∧ x.toNat = (Q + 1075).toNat * 4503599627370496 + (C - 4503599627370496)
theorem nf6_mk {C : Nat} {Q : Int} (h1 : 4503599627370496 ≤ C) (h2 : C < 9007199254740992) (q1 : -1074 ≤ Q) (q2 : Q ≤ 971) : NF6 (UInt64.ofNat (FP.Core.encode FP.Core.b64 (.fin false C Q))) C Q := by
  have he : FP.Core.encode FP.Core.b64 (.fin false C Q) = (Q + 1075).toNat * 4503599627370496 + (C - 4503599627370496) := by
    show (if C < 4503599627370496 then _ else (0 * 2048 + ((Q - (-1074)).toNat + 1)) * 4503599627370496 + (C - 4503599627370496)) = _
    rw [if_neg (by omega)]
    have e : 0 * 2048 + ((Q - (-1074)).toNat + 1) = (Q + 1075).toNat := by omega
    rw [e]
  obtain ⟨E, hE⟩ : ∃ E, (Q + 1075).toNat = E := ⟨_, rfl⟩
  obtain ⟨t, ht⟩ : ∃ t, C - 4503599627370496 = t := ⟨_, rfl⟩
  obtain ⟨N, hN⟩ : ∃ N, E * 4503599627370496 + t = N := ⟨_, rfl⟩
  have hb : N < 18446744073709551616 := by omega
  have hn : (UInt64.ofNat (FP.Core.encode FP.Core.b64 (.fin false C Q))).toNat = N := by
    rw [he, hE, ht, hN]
    exact (show (UInt64.ofNat N).toNat = N % 18446744073709551616 from rfl).trans (Nat.mod_eq_of_lt hb)
  refine ⟨⟨h1, h2, q1, q2⟩, ?_, ?_⟩
  · rw [hn]
    show (if N / 4503599627370496 % 2048 = 2048 - 1 then _ else if N / 4503599627370496 % 2048 = 0 then _ else FP.Core.Datum.fin (N / 4503599627370496 / 2048 % 2 == 1) (4503599627370496 + N % 4503599627370496) (-1074 + (((N / 4503599627370496 % 2048 : Nat) : Int) - 1))) = _
    have f1 : N / 4503599627370496 = E := by omega
    have f2 : N % 4503599627370496 = t := by omega
    rw [f1, f2, Nat.mod_eq_of_lt (show E < 2048 by omega), Nat.div_eq_of_lt (show E < 2048 by omega), if_neg (by omega), if_neg (by omega)]
    have f3 : 4503599627370496 + t = C := by omega
    have f4 : (-1074 : Int) + ((E : Int) - 1) = Q := by omega
    rw [f3, f4]
    rfl
  · rw [hn, hE, ht, hN]
theorem nf6_nn {x : UInt64} {C : Nat} {Q : Int} (h : NF6 x C Q) : nn64 x = true := by
  obtain ⟨⟨a1, a2, a3, a4⟩, hd, hn⟩ := h
  unfold nn64
  refine decide_eq_true ?_
  rw [UInt64.le_iff_toNat_le, UInt64.toNat_and]
  refine Nat.le_trans Nat.and_le_left ?_
  show x.toNat ≤ 9218868437227405312
  omega
theorem nf6_ex {s : Bool} {A u v C : Nat} {e Q : Int} (h1 : 4503599627370496 ≤ C) (h2 : C < 9007199254740992) (q1 : -1074 ≤ Q) (q2 : Q ≤ 971) (hv : A * 2 ^ u = C * 2 ^ v) (hq : (u : Int) - (v : Int) = e - Q) : FP.Core.roundRatio FP.Core.b64 s A 1 e = .fin s C Q :=
  fq_exact (m := 0) (by decide) (by rw [fqT6]; exact h1) (by rw [fqP6]; exact h2) q1 q2 hv (by omega)
end Digits
