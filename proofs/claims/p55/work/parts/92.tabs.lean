/-! The two tables. -/
section Tabs
theorem sh_L : ∀ (k m : Nat) (y : UInt32) (C : Nat) (e : Int), NF3 y C (-23 - (k : Int)) → k ≤ 100 → shL (k + 1 + m) y e = some ((Int32.ofInt (e - (k : Int)) <<< (Int32.ofInt 23 &&& 31)).toInt + ((C - 8388608 : Nat) : Int)) := by
  intro k
  induction k with
  | zero =>
    intro m y C e h _
    rw [show 0 + 1 + m = m + 1 by omega]
    have h : NF3 y C (-23) := h
    unfold shL
    rw [if_pos (nf3_ge1 h (by omega)), nf3_E h, show e - ((0 : Nat) : Int) = e by omega]
  | succ k ih =>
    intro m y C e h hk
    rw [show k + 1 + 1 + m = (k + 1 + m) + 1 by omega]
    have h2 := nf3_mulc (k := FP.fconst2) (r := -22) h (by decide +kernel) (by omega) (by omega)
    rw [show -23 - ((k + 1 : Nat) : Int) + -22 + 23 = -23 - (k : Int) by omega] at h2
    unfold shL
    rw [if_neg (nf3_lt1 h (by omega)), if_pos (nf3_nn h2), ih m _ C (e - 1) h2 (by omega), show e - 1 - (k : Int) = e - ((k + 1 : Nat) : Int) by omega]
theorem sh_B {x : UInt32} {C k : Nat} (h : NF3 x C (-23 - (k : Int))) (hk : k ≤ 8) : shB x = some x.toInt32.toInt := by
  have h1 := sh_L k (11 - k) x C 127 h (by omega)
  rw [show k + 1 + (11 - k) = 12 by omega] at h1
  unfold shB
  rw [if_neg (nf3_gt0 h), h1, nf3_bits h, h.2.2]
  have hC := h.1.1
  rcases (show k = 0 ∨ k = 1 ∨ k = 2 ∨ k = 3 ∨ k = 4 ∨ k = 5 ∨ k = 6 ∨ k = 7 ∨ k = 8 by omega) with rfl | rfl | rfl | rfl | rfl | rfl | rfl | rfl | rfl
  · rw [show (Int32.ofInt (127 - ((0 : Nat) : Int)) <<< (Int32.ofInt 23 &&& 31)).toInt = 1065353216 by decide +kernel, show (-23 - ((0 : Nat) : Int) + 150).toNat = 127 by decide]; congr 1
  · rw [show (Int32.ofInt (127 - ((1 : Nat) : Int)) <<< (Int32.ofInt 23 &&& 31)).toInt = 1056964608 by decide +kernel, show (-23 - ((1 : Nat) : Int) + 150).toNat = 126 by decide]; congr 1
  · rw [show (Int32.ofInt (127 - ((2 : Nat) : Int)) <<< (Int32.ofInt 23 &&& 31)).toInt = 1048576000 by decide +kernel, show (-23 - ((2 : Nat) : Int) + 150).toNat = 125 by decide]; congr 1
  · rw [show (Int32.ofInt (127 - ((3 : Nat) : Int)) <<< (Int32.ofInt 23 &&& 31)).toInt = 1040187392 by decide +kernel, show (-23 - ((3 : Nat) : Int) + 150).toNat = 124 by decide]; congr 1
  · rw [show (Int32.ofInt (127 - ((4 : Nat) : Int)) <<< (Int32.ofInt 23 &&& 31)).toInt = 1031798784 by decide +kernel, show (-23 - ((4 : Nat) : Int) + 150).toNat = 123 by decide]; congr 1
  · rw [show (Int32.ofInt (127 - ((5 : Nat) : Int)) <<< (Int32.ofInt 23 &&& 31)).toInt = 1023410176 by decide +kernel, show (-23 - ((5 : Nat) : Int) + 150).toNat = 122 by decide]; congr 1
  · rw [show (Int32.ofInt (127 - ((6 : Nat) : Int)) <<< (Int32.ofInt 23 &&& 31)).toInt = 1015021568 by decide +kernel, show (-23 - ((6 : Nat) : Int) + 150).toNat = 121 by decide]; congr 1
  · rw [show (Int32.ofInt (127 - ((7 : Nat) : Int)) <<< (Int32.ofInt 23 &&& 31)).toInt = 1006632960 by decide +kernel, show (-23 - ((7 : Nat) : Int) + 150).toNat = 120 by decide]; congr 1
  · rw [show (Int32.ofInt (127 - ((8 : Nat) : Int)) <<< (Int32.ofInt 23 &&& 31)).toInt = 998244352 by decide +kernel, show (-23 - ((8 : Nat) : Int) + 150).toNat = 119 by decide]; congr 1
theorem sh_X {x : UInt32} {C k : Nat} (h : NF3 x C (-23 - (k : Int))) (hk : k ≤ 8) : shX x = true := by
  have hd := h.2.1
  have hC := h.1
  have g : NF6 (FP.f2d x) (C * 536870912) (-52 - (k : Int)) := by
    have e : FP.f2d x = UInt64.ofNat (FP.Core.encode FP.Core.b64 (.fin false (C * 536870912) (-52 - (k : Int)))) := by
      have hn : ¬ (FP.Core.fIsNaN x = true) := by
        show ¬ (decide (FP.Core.decode FP.Core.b32 x.toNat = .nan) = true)
        rw [hd]
        exact fun z => by have := of_decide_eq_true z; cases this
      unfold FP.f2d
      rw [if_neg hn]
      show UInt64.ofNat (FP.Core.encode FP.Core.b64 (FP.Core.round FP.Core.b64 (FP.Core.decode FP.Core.b32 x.toNat))) = _
      rw [hd]
      show UInt64.ofNat (FP.Core.encode FP.Core.b64 (FP.Core.roundRatio FP.Core.b64 false C 1 (-23 - (k : Int)))) = _
      rw [nf6_ex (u := 29) (v := 0) (C := C * 536870912) (Q := -52 - (k : Int)) (by omega) (by omega) (by omega) (by omega) (show C * 2 ^ 29 = C * 536870912 * 2 ^ 0 from (Nat.mul_one _).symm) (by omega)]
    rw [e]
    exact nf6_mk (by omega) (by omega) (by omega) (by omega)
  unfold shX
  rw [nf3_nn h, nf6_nn g, decide_eq_true (nf3_self h), decide_eq_true (nf6_self g), decide_eq_true (sh_B h hk)]
  rfl
theorem sh_0 {n : Nat} (h1 : 1 ≤ n) (h2 : n ≤ 200) : shX (shN 0 n) = true := by
  obtain ⟨l, hl⟩ : ∃ l, n.log2 = l := ⟨_, rfl⟩
  have h := nf3_int h1 (by omega) hl
  have e : shN 0 n = 0 := by
    show UInt32.ofNat (FP.Core.encode FP.Core.b32 (FP.Core.quotient FP.Core.b32 (FP.Core.decode FP.Core.b32 (FP.i2f (Int32.ofInt ((0 : Nat) : Int))).toNat) (FP.Core.decode FP.Core.b32 (FP.i2f (Int32.ofInt (n : Int))).toNat))) = _
    rw [h.2.1, show FP.Core.decode FP.Core.b32 (FP.i2f (Int32.ofInt ((0 : Nat) : Int))).toNat = .fin false 0 (-149) by decide +kernel]
    have hne : n * 2 ^ (23 - l) ≠ 0 := by have := h.1.1; omega
    have e2 : FP.Core.quotient FP.Core.b32 (.fin false 0 (-149)) (.fin false (n * 2 ^ (23 - l)) ((l : Int) - 23)) = .fin false 0 (-149) := by
      show (if n * 2 ^ (23 - l) = 0 then _ else FP.Core.roundRatio FP.Core.b32 false 0 (n * 2 ^ (23 - l)) (-149 - ((l : Int) - 23))) = _
      rw [if_neg hne]
      rfl
    rw [e2]
    decide +kernel
  rw [e]
  decide +kernel
def ShTab : Prop := ∀ c n : Nat, 1 ≤ n → n ≤ 200 → c ≤ n → shX (shN c n) = true
theorem shTab : ShTab := by
  intro c n h1 h2 hc
  by_cases h0 : c = 0
  · rw [h0]; exact sh_0 h1 h2
  obtain ⟨lc, hlc⟩ : ∃ l, c.log2 = l := ⟨_, rfl⟩
  obtain ⟨ln, hln⟩ : ∃ l, n.log2 = l := ⟨_, rfl⟩
  have hx := nf3_int (by omega) (by omega) hlc
  have hy := nf3_int h1 (by omega) hln
  have b1 : ln < 8 := hln ▸ (Nat.log2_lt (k := 8) (by omega)).mpr (by omega)
  have b2 : lc < 8 := hlc ▸ (Nat.log2_lt (k := 8) (by omega)).mpr (by omega)
  have b3 : lc ≤ ln := hln ▸ (Nat.le_log2 (by omega)).mpr (Nat.le_trans (hlc ▸ Nat.log2_self_le h0) hc)
  obtain ⟨C, Q, g, g1, g2, g3⟩ := nf3_div hx hy (by omega)
  have hQ : Q ≤ -23 := by
    by_cases q : lc = ln
    · subst q
      have := g3 (Nat.mul_le_mul_right _ hc)
      omega
    · by_cases q2 : n * 2 ^ (23 - ln) < c * 2 ^ (23 - lc)
      · have := g2 q2; omega
      · have := g3 (by omega); omega
  obtain ⟨k, hk⟩ : ∃ k : Nat, Q = -23 - (k : Int) := ⟨(-23 - Q).toNat, by omega⟩
  subst hk
  exact sh_X g (by omega)
end Tabs
