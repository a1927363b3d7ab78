/-! What the loops count; the two tables. -/
section Loops2
theorem nf3_self {x : UInt32} {C : Nat} {Q : Int} (h : NF3 x C Q) : (Op.cmpValue (FP.fcmp x x) .l).toInt = 0 := by
  obtain ⟨-, hd, -⟩ := h
  have e : FP.fcmp x x = some .eq := by
    show FP.Core.order (FP.Core.decode FP.Core.b32 x.toNat) (FP.Core.decode FP.Core.b32 x.toNat) = _
    rw [hd, fq_le (Int.le_refl Q), Int.sub_self]
    show some (compare ((C : Nat) : Int) ((C * 1 : Nat) : Int)) = _
    rw [Nat.mul_one, fq_cmp, if_neg (by omega), if_pos rfl]
  rw [e]
  decide
theorem nf3_ge1 {x : UInt32} {C : Nat} {Q : Int} (h : NF3 x C Q) (hQ : -23 ≤ Q) : 0 ≤ (Op.cmpValue (FP.fcmp x FP.fconst1) .g).toInt := by
  obtain ⟨⟨a1, a2, a3, a4⟩, hd, -⟩ := h
  have e : FP.fcmp x FP.fconst1 = some (compare ((C * 2 ^ (Q - (-23)).toNat : Nat) : Int) ((8388608 : Nat) : Int)) := by
    show FP.Core.order (FP.Core.decode FP.Core.b32 x.toNat) (FP.Core.decode FP.Core.b32 (FP.fconst1 : UInt32).toNat) = _
    rw [hd, nf3_one, fq_ge hQ]
  have hm : C ≤ C * 2 ^ (Q - (-23)).toNat := Nat.le_mul_of_pos_right C (Nat.two_pow_pos _)
  rw [e, fq_cmp, if_neg (by omega)]
  split
  · decide
  · decide
theorem nf3_lt1 {x : UInt32} {C : Nat} {Q : Int} (h : NF3 x C Q) (hQ : Q < -23) : ¬ 0 ≤ (Op.cmpValue (FP.fcmp x FP.fconst1) .g).toInt := by
  obtain ⟨⟨a1, a2, a3, a4⟩, hd, -⟩ := h
  have e : FP.fcmp x FP.fconst1 = some (compare ((C : Nat) : Int) ((8388608 * 2 ^ (-23 - Q).toNat : Nat) : Int)) := by
    show FP.Core.order (FP.Core.decode FP.Core.b32 x.toNat) (FP.Core.decode FP.Core.b32 (FP.fconst1 : UInt32).toNat) = _
    rw [hd, nf3_one, fq_le (by omega)]
  have hm : 8388608 * 2 ≤ 8388608 * 2 ^ (-23 - Q).toNat := by
    refine Nat.mul_le_mul_left _ ?_
    have e2 : (-23 - Q).toNat = ((-23 - Q).toNat - 1) + 1 := by omega
    rw [e2, Nat.pow_succ]
    exact Nat.le_mul_of_pos_left 2 (Nat.two_pow_pos _)
  rw [e, fq_cmp, if_pos (by omega)]
  decide
theorem nf3_gt0 {x : UInt32} {C : Nat} {Q : Int} (h : NF3 x C Q) : ¬ (Op.cmpValue (FP.fcmp x FP.fconst0) .g).toInt ≤ 0 := by
  obtain ⟨⟨a1, a2, a3, a4⟩, hd, -⟩ := h
  have e : FP.fcmp x FP.fconst0 = some (compare ((C * 2 ^ (Q - (-149)).toNat : Nat) : Int) ((0 : Nat) : Int)) := by
    show FP.Core.order (FP.Core.decode FP.Core.b32 x.toNat) (FP.Core.decode FP.Core.b32 (FP.fconst0 : UInt32).toNat) = _
    rw [hd, show FP.Core.decode FP.Core.b32 (FP.fconst0 : UInt32).toNat = .fin false 0 (-149) by decide +kernel, fq_ge a3]
  have hm : C ≤ C * 2 ^ (Q - (-149)).toNat := Nat.le_mul_of_pos_right C (Nat.two_pow_pos _)
  rw [e, fq_cmp, if_neg (by omega), if_neg (by omega)]
  decide
theorem nf3_int {c l : Nat} (h1 : 1 ≤ c) (h2 : c ≤ 201) (hl : c.log2 = l) : NF3 (FP.i2f (Int32.ofInt (c : Int))) (c * 2 ^ (23 - l)) ((l : Int) - 23) := by
  obtain ⟨k1, k2, k3⟩ := nf3_log (T := c) h1 (by omega) hl
  have e : FP.i2f (Int32.ofInt (c : Int)) = UInt32.ofNat (FP.Core.encode FP.Core.b32 (.fin false (c * 2 ^ (23 - l)) ((l : Int) - 23))) := by
    show UInt32.ofNat (FP.Core.encode FP.Core.b32 (FP.Core.round FP.Core.b32 (FP.Core.ofInt (Int32.ofInt (c : Int)).toInt))) = _
    rw [in32_ext (by unfold in32; omega)]
    show UInt32.ofNat (FP.Core.encode FP.Core.b32 (FP.Core.roundRatio FP.Core.b32 (decide ((c : Int) < 0)) ((c : Int).natAbs) 1 0)) = _
    rw [decide_eq_false (by omega), Int.natAbs_natCast, nf3_ex (u := 23 - l) (v := 0) (Q := (l : Int) - 23) k2 k3 (by omega) (by omega) (by rw [Nat.pow_zero, Nat.mul_one]) (by omega)]
  rw [e]
  exact nf3_mk k2 k3 (by omega) (by omega)
theorem nf3_div {x y : UInt32} {C1 C2 : Nat} {q1 q2 : Int} (hx : NF3 x C1 q1) (hy : NF3 y C2 q2) (hr : -100 ≤ q1 - q2 ∧ q1 - q2 ≤ 100) : ∃ (C : Nat) (Q : Int), NF3 (FP.fdiv x y) C Q ∧ q1 - q2 - 24 ≤ Q ∧ (C2 < C1 → Q ≤ q1 - q2 - 24 + 2) ∧ (C1 ≤ C2 → Q ≤ q1 - q2 - 24 + 1) := by
  obtain ⟨⟨a1, a2, a3, a4⟩, hd, -⟩ := hx
  obtain ⟨⟨b1, b2, b3, b4⟩, hf, -⟩ := hy
  obtain ⟨C, Q, k1, k2, k3, k4, k5, k6⟩ := fq_quot (f := FP.Core.b32) (t := 8388608) (q1 := q1) (q2 := q2) (by decide) fqT3 a1 a2 b1 b2 (by show (-149 : Int) ≤ q1 - q2 - (24 : Int); omega) (by show q1 - q2 - (24 : Int) + 2 ≤ (104 : Int); omega)
  have k4 : q1 - q2 - (24 : Int) ≤ Q := k4
  have k5 : C2 < C1 → Q ≤ q1 - q2 - (24 : Int) + 2 := k5
  have k6 : C1 ≤ C2 → Q ≤ q1 - q2 - (24 : Int) + 1 := k6
  have hQ : Q ≤ q1 - q2 - (24 : Int) + 2 := by
    by_cases h : C2 < C1
    · exact k5 h
    · have := k6 (by omega); omega
  have e : FP.fdiv x y = UInt32.ofNat (FP.Core.encode FP.Core.b32 (.fin false C Q)) := by
    show UInt32.ofNat (FP.Core.encode FP.Core.b32 (FP.Core.quotient FP.Core.b32 (FP.Core.decode FP.Core.b32 x.toNat) (FP.Core.decode FP.Core.b32 y.toNat))) = _
    rw [hd, hf, k1]
  refine ⟨C, Q, ?_, k4, k5, k6⟩
  rw [e]
  exact nf3_mk k2 k3 (by omega) (by omega)
theorem nf3_bits {x : UInt32} {C : Nat} {Q : Int} (h : NF3 x C Q) : x.toInt32.toInt = (x.toNat : Int) := by
  obtain ⟨⟨a1, a2, a3, a4⟩, -, hn⟩ := h
  have e : 2 * x.toNat < 4294967296 := by omega
  exact BitVec.toInt_eq_toNat_of_lt (x := x.toBitVec) e
theorem nf3_E {y : UInt32} {C : Nat} {e : Int} (h : NF3 y C (-23)) : shE y e = some ((Int32.ofInt e <<< (Int32.ofInt 23 &&& 31)).toInt + ((C - 8388608 : Nat) : Int)) := by
  by_cases hT : C = 8388608
  · have hy : y = FP.fconst1 := by
      refine UInt32.toNat_inj.mp ?_
      rw [h.2.2, hT]
      decide +kernel
    rw [hy]
    unfold shE
    rw [if_pos ⟨by decide +kernel, by decide +kernel⟩, hT, show (FP.f2i (FP.fmul (FP.fsub FP.fconst1 FP.fconst1) 1258291200)).toInt = 0 by decide +kernel]
    rfl
  · have h1 := h.1.1
    have h2 := h.1.2.1
    obtain ⟨l, hl⟩ : ∃ l, (C - 8388608).log2 = l := ⟨_, rfl⟩
    obtain ⟨k1, -, -⟩ := nf3_log (T := C - 8388608) (by omega) (by omega) hl
    have a := nf3_sub1 h (by omega) hl
    have b := nf3_mulc (k := 1258291200) (r := 0) a (by decide +kernel) (by omega) (by omega)
    have e : ((l : Int) - 46 + 0 + 23) = -((23 - l : Nat) : Int) := by omega
    rw [e] at b
    unfold shE
    rw [if_pos ⟨nf3_nn a, nf3_nn b⟩, nf3_toI b (by omega)]
theorem nf6_self {x : UInt64} {C : Nat} {Q : Int} (h : NF6 x C Q) : (Op.cmpValue (FP.dcmp x x) .l).toInt = 0 := by
  obtain ⟨-, hd, -⟩ := h
  have e : FP.dcmp x x = some .eq := by
    show FP.Core.order (FP.Core.decode FP.Core.b64 x.toNat) (FP.Core.decode FP.Core.b64 x.toNat) = _
    rw [hd, fq_le (Int.le_refl Q), Int.sub_self]
    show some (compare ((C : Nat) : Int) ((C * 1 : Nat) : Int)) = _
    rw [Nat.mul_one, fq_cmp, if_neg (by omega), if_pos rfl]
  rw [e]
  decide
end Loops2
