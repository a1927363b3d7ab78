/-! The two tables. -/
section Tabs
theorem sh_L : ∀ (k m : Nat) (y : UInt32) (C : Nat) (e : Int), NF3 y C (-23 - (k : Int)) → k ≤ 100 → shL (k + 1 + m) y e = some ((Int32.ofInt (e - (k : Int)) <<< (Int32.ofInt 23 &&& 31)).toInt + ((C - 8388608 : Nat) : Int)) := by
  intro k
  induction k with
  | zero =>
    intro m y C e h _
    rw [show 0 + 1 + m = m + 1 by omega]
    have h : NF3 y C (-23) := h
    unfold shL
    rw [if_pos (nf3_ge1 h (by omega)), nf3_E h, show e - ((0 : Nat) : Int) = e by omega]
  | succ k ih =>
    intro m y C e h hk
    rw [show k + 1 + 1 + m = (k + 1 + m) + 1 by omega]
    have h2 := nf3_mulc (k := FP.fconst2) (r := -22) h (by decide +kernel) (by omega) (by omega)
    rw [show -23 - ((k + 1 : Nat) : Int) + -22 + 23 = -23 - (k : Int) by omega] at h2
    unfold shL
    rw [if_neg (nf3_lt1 h (by omega)), if_pos (nf3_nn h2), ih m _ C (e - 1) h2 (by omega), show e - 1 - (k : Int) = e - ((k + 1 : Nat) : Int) by omega]
theorem sh_B {x : UInt32} {C k : Nat} (h : NF3 x C (-23 - (k : Int))) (hk : k ≤ 8) : shB x = some x.toInt32.toInt := by
  have h1 := sh_L k (11 - k) x C 127 h (by omega)
  rw [show k + 1 + (11 - k) = 12 by omega] at h1
  unfold shB
  rw [if_neg (nf3_gt0 h), h1, nf3_bits h, h.2.2]
  have hC := h.1.1
  rcases (show k = 0 ∨ k = 1 ∨ k = 2 ∨ k = 3 ∨ k = 4 ∨ k = 5 ∨ k = 6 ∨ k = 7 ∨ k = 8 by omega) with rfl | rfl | rfl | rfl | rfl | rfl | rfl | rfl | rfl
  · rw [show (Int32.ofInt (127 - ((0 : Nat) : Int)) <<< (Int32.ofInt 23 &&& 31)).toInt = 1065353216 by decide +kernel, show (-23 - ((0 : Nat) : Int) + 150).toNat = 127 by decide]; congr 1
  · rw [show (Int32.ofInt (127 - ((1 : Nat) : Int)) <<< (Int32.ofInt 23 &&& 31)).toInt = 1056964608 by decide +kernel, show (-23 - ((1 : Nat) : Int) + 150).toNat = 126 by decide]; congr 1
  · rw [show (Int32.ofInt (127 - ((2 : Nat) : Int)) <<< (Int32.ofInt 23 &&& 31)).toInt = 1048576000 by decide +kernel, show (-23 - ((2 : Nat) : Int) + 150).toNat = 125 by decide]; congr 1
  · rw [show (Int32.ofInt (127 - ((3 : Nat) : Int)) <<< (Int32.ofInt 23 &&& 31)).toInt = 1040187392 by decide +kernel, show (-23 - ((3 : Nat) : Int) + 150).toNat = 124 by decide]; congr 1
  · rw [show (Int32.ofInt (127 - ((4 : Nat) : Int)) <<< (Int32.ofInt 23 &&& 31)).toInt = 1031798784 by decide +kernel, show (-23 - ((4 : Nat) : Int) + 150).toNat = 123 by decide]; congr 1
  · rw [show (Int32.ofInt (127 - ((5 : Nat) : Int)) <<< (Int32.ofInt 23 &&& 31)).toInt = 1023410176 by decide +kernel, show (-23 - ((5 : Nat) : Int) + 150).toNat = 122 by decide]; congr 1
  · rw [show (Int32.ofInt (127 - ((6 : Nat) : Int)) <<< (Int32.ofInt 23 &&& 31)).toInt = 1015021568 by decide +kernel, show (-23 - ((6 : Nat) : Int) + 150).toNat = 121 by decide]; congr 1
  · rw [show (Int32.ofInt (127 - ((7 : Nat) : Int)) <<< (Int32.ofInt 23 &&& 31)).toInt = 1006632960 by decide +kernel, show (-23 - ((7 : Nat) : Int) + 150).toNat = 120 by decide]; congr 1
  · rw [show (Int32.ofInt (127 - ((8 : Nat) : Int)) <<< (Int32.ofInt 23 &&& 31)).toInt = 998244352 by decide +kernel, show (-23 - ((8 : Nat) : Int) + 150).toNat = 119 by decide]; congr 1
theorem sh_X {x : UInt32} {C k : Nat} (h : NF3 x C (-23 - (k : Int))) (hk : k ≤ 8) : shX x = true := by
  have hd := h.2.1
  have hC := h.1
  have g : NF6 (FP.f2d x) (C * 536870912) (-52 - (k : Int)) := by
    have e : FP.f2d x = UInt64.ofNat (FP.Core.encode FP.Core.b64 (.fin false (C * 536870912) (-52 - (k : Int)))) := by
      have hn : ¬ (FP.Core.fIsNaN x = true) := by
        show ¬ (decide (FP.Core.decode FP.Core.b32 x.toNat = .nan) = true)
        rw [hd]
        exact fun z => by have := of_decide_eq_true z; cases this
      unfold FP.f2d
      rw [if_neg hn]
      show UInt64.ofNat (FP.Core.encode FP.Core.b64 (FP.Core.round FP.Core.b64 (FP.Core.decode FP.Core.b32 x.toNat))) = _
      rw [hd]
      show UInt64.ofNat (FP.Core.encode FP.Core.b64 (FP.Core.roundRatio FP.Core.b64 false C 1 (-23 - (k : Int)))) = _
      rw [nf6_ex (u := 29) (v := 0) (C := C * 536870912) (Q := -52 - (k : Int)) (by omega) (by omega) (by omega) (by omega) (show C * 2 ^ 29 = C * 536870912 * 2 ^ 0 from (Nat.mul_one _).symm) (by omega)]
    rw [e]
    exact nf6_mk (by omega) (by omega) (by omega) (by omega)
  unfold shX
  rw [nf3_nn h, nf6_nn g, decide_eq_true (nf3_self h), decide_eq_true (nf6_self g), decide_eq_true (sh_B h hk)]
  rfl
theorem sh_0 {n : Nat} (h1 : 1 ≤ n) (h2 : n ≤ 200) : shX (shN 0 n) = true := by
  obtain ⟨l, hl⟩ : ∃ l, n.log2 = l := ⟨_, rfl⟩
  have h := nf3_int h1 (by omega) hl
  have e : shN 0 n = 0 := by
    show UInt32.ofNat (FP.Core.encode FP.Core.b32 (FP.Core.quotient FP.Core.b32 (FP.Core.decode FP.Core.b32 (FP.i2f (Int32.ofInt ((0 : Nat) : Int))).toNat) (FP.Core.decode FP.Core.b32 (FP.i2f (Int32.ofInt (n : Int))).toNat))) = _
    rw [h.2.1, show FP.Core.decode FP.Core.b32 (FP.i2f (Int32.ofInt ((0 : Nat) : Int))).toNat = .fin false 0 (-149) by decide +kernel]
    have hne : n * 2 ^ (23 - l) ≠ 0 := by have := h.1.1; omega
    have e2 : FP.Core.quotient FP.Core.b32 (.fin false 0 (-149)) (.fin false (n * 2 ^ (23 - l)) ((l : Int) - 23)) = .fin false 0 (-149) := by
      show (if n * 2 ^ (23 - l) = 0 then _ else FP.Core.roundRatio FP.Core.b32 false 0 (n * 2 ^ (23 - l)) (-149 - ((l : Int) - 23))) = _
      rw [if_neg hne]
      rfl
    rw [e2]
    decide +kernel
  rw [e]
  decide +kernel
theorem shTab : ShTab := by
  intro c n h1 h2 hc
  by_cases h0 : c = 0
  · rw [h0]; exact sh_0 h1 h2
  obtain ⟨lc, hlc⟩ : ∃ l, c.log2 = l := ⟨_, rfl⟩
  obtain ⟨ln, hln⟩ : ∃ l, n.log2 = l := ⟨_, rfl⟩
  have hx := nf3_int (by omega) (by omega) hlc
  have hy := nf3_int h1 (by omega) hln
  have b1 : ln < 8 := hln ▸ (Nat.log2_lt (k := 8) (by omega)).mpr (by omega)
  have b2 : lc < 8 := hlc ▸ (Nat.log2_lt (k := 8) (by omega)).mpr (by omega)
  have b3 : lc ≤ ln := hln ▸ (Nat.le_log2 (by omega)).mpr (Nat.le_trans (hlc ▸ Nat.log2_self_le h0) hc)
  obtain ⟨C, Q, g, g1, g2, g3⟩ := nf3_div hx hy (by omega)
  have hQ : Q ≤ -23 := by
    by_cases q : lc = ln
    · subst q
      have := g3 (Nat.mul_le_mul_right _ hc)
      omega
    · by_cases q2 : n * 2 ^ (23 - ln) < c * 2 ^ (23 - lc)
      · have := g2 q2; omega
      · have := g3 (by omega); omega
  obtain ⟨k, hk⟩ : ∃ k : Nat, Q = -23 - (k : Int) := ⟨(-23 - Q).toNat, by omega⟩
  subst hk
  exact sh_X g (by omega)
theorem mn_two : FP.Core.decode FP.Core.b64 (4611686018427387904 : UInt64).toNat = .fin false 4503599627370496 (-51) := by decide +kernel
theorem fq_q {f : FP.Core.Fmt} {C D : Nat} {q r : Int} (hD : D ≠ 0) : FP.Core.quotient f (.fin false C q) (.fin false D r) = FP.Core.roundRatio f false C D (q - r) := by
  show (if D = 0 then _ else FP.Core.roundRatio f false C D (q - r)) = _
  rw [if_neg hD]
theorem mn_p52 : (2 : Nat) ^ 52 = 4503599627370496 := by decide
theorem mn_half {x : UInt64} {C : Nat} {Q : Int} (h : NF6 x C Q) (hQ : -100 ≤ Q) : NF6 (FP.ddiv x 4611686018427387904) C (Q - 1) := by
  obtain ⟨⟨a1, a2, a3, a4⟩, hd, hn⟩ := h
  have e : FP.ddiv x 4611686018427387904 = UInt64.ofNat (FP.Core.encode FP.Core.b64 (.fin false C (Q - 1))) := by
    show UInt64.ofNat (FP.Core.encode FP.Core.b64 (FP.Core.quotient FP.Core.b64 (FP.Core.decode FP.Core.b64 x.toNat) (FP.Core.decode FP.Core.b64 (4611686018427387904 : UInt64).toNat))) = _
    rw [hd, mn_two]
    have h5 := fq_exact (f := FP.Core.b64) (s := false) (A := C) (e := Q - (-51)) (m := 52) (u := 0) (v := 0) (C := C) (Q := Q - 1) (by decide) (by rw [fqT6]; exact a1) (by rw [fqP6]; exact a2) (by show (-1074 : Int) ≤ Q - 1; omega) (by show Q - 1 ≤ (971 : Int); omega) rfl (by omega)
    rw [mn_p52] at h5
    rw [fq_q (by omega), h5]
  rw [e]
  exact nf6_mk a1 a2 (by omega) (by omega)
theorem mn_lt2 {x : UInt64} {C : Nat} (h : NF6 x C (-52)) : (Op.cmpValue (FP.dcmp x 4611686018427387904) .l).toInt < 0 := by
  obtain ⟨⟨a1, a2, a3, a4⟩, hd, -⟩ := h
  have e : FP.dcmp x 4611686018427387904 = some (compare ((C : Nat) : Int) ((4503599627370496 * 2 : Nat) : Int)) := by
    show FP.Core.order (FP.Core.decode FP.Core.b64 x.toNat) (FP.Core.decode FP.Core.b64 (4611686018427387904 : UInt64).toNat) = _
    rw [hd, mn_two, fq_le (by omega)]
    rfl
  rw [e, fq_cmp, if_pos (by omega)]
  decide
theorem mn_ge2 {x : UInt64} {C : Nat} {Q : Int} (h : NF6 x C Q) (hQ : -51 ≤ Q) : ¬ (Op.cmpValue (FP.dcmp x 4611686018427387904) .l).toInt < 0 := by
  obtain ⟨⟨a1, a2, a3, a4⟩, hd, -⟩ := h
  have e : FP.dcmp x 4611686018427387904 = some (compare ((C * 2 ^ (Q - (-51)).toNat : Nat) : Int) ((4503599627370496 : Nat) : Int)) := by
    show FP.Core.order (FP.Core.decode FP.Core.b64 x.toNat) (FP.Core.decode FP.Core.b64 (4611686018427387904 : UInt64).toNat) = _
    rw [hd, mn_two, fq_ge hQ]
  have hm : C ≤ C * 2 ^ (Q - (-51)).toNat := Nat.le_mul_of_pos_right C (Nat.two_pow_pos _)
  rw [e, fq_cmp, if_neg (by omega)]
  split
  · decide
  · decide
theorem mn_H : ∀ (k m : Nat) (y : UInt64) (C : Nat) (e : Int), NF6 y C (-52 + (k : Int)) → k ≤ 100 → mnH (k + 1 + m) y e = some ((Int64.ofInt (e + (k : Int)) <<< ((Int32.ofInt 52).toInt64 &&& 63)).toInt + ((C - 4503599627370496 : Nat) : Int)) := by
  intro k
  induction k with
  | zero =>
    intro m y C e h _
    rw [show 0 + 1 + m = m + 1 by omega]
    have h : NF6 y C (-52) := h
    unfold mnH
    rw [if_pos (mn_lt2 h), nf6_E h, show e + ((0 : Nat) : Int) = e by omega]
  | succ k ih =>
    intro m y C e h hk
    rw [show k + 1 + 1 + m = (k + 1 + m) + 1 by omega]
    have h2 := mn_half h (by omega)
    rw [show -52 + ((k + 1 : Nat) : Int) - 1 = -52 + (k : Int) by omega] at h2
    unfold mnH
    rw [if_neg (mn_ge2 h (by omega)), if_pos (nf6_nn h2), ih m _ C (e + 1) h2 (by omega), show e + 1 + (k : Int) = e + ((k + 1 : Nat) : Int) by omega]
theorem mn_L : ∀ (k m : Nat) (y : UInt64) (C : Nat) (e : Int), NF6 y C (-52 - (k : Int)) → k ≤ 100 → mnL (k + 1 + m) y e = some ((Int64.ofInt (e - (k : Int)) <<< ((Int32.ofInt 52).toInt64 &&& 63)).toInt + ((C - 4503599627370496 : Nat) : Int)) := by
  intro k
  induction k with
  | zero =>
    intro m y C e h _
    rw [show 0 + 1 + m = m + 1 by omega]
    have h : NF6 y C (-52) := h
    unfold mnL
    rw [if_pos (nf6_ge1 h (by omega))]
    have h3 := mn_H 0 11 y C e h (by omega)
    rw [show e + ((0 : Nat) : Int) = e - ((0 : Nat) : Int) by omega] at h3
    exact h3
  | succ k ih =>
    intro m y C e h hk
    rw [show k + 1 + 1 + m = (k + 1 + m) + 1 by omega]
    have h2 := nf6_mulc (k := 4611686018427387904) (r := -51) h mn_two (by omega) (by omega)
    rw [show -52 - ((k + 1 : Nat) : Int) + -51 + 52 = -52 - (k : Int) by omega] at h2
    unfold mnL
    rw [if_neg (nf6_lt1 h (by omega)), if_pos (nf6_nn h2), ih m _ C (e - 1) h2 (by omega), show e - 1 - (k : Int) = e - ((k + 1 : Nat) : Int) by omega]
theorem mn_val {x : UInt64} {C : Nat} {Q : Int} (h : NF6 x C Q) (q1 : -60 ≤ Q) (q2 : Q ≤ -44) : mnL 12 x 1023 = some ((Int64.ofInt (Q + 1075) <<< ((Int32.ofInt 52).toInt64 &&& 63)).toInt + ((C - 4503599627370496 : Nat) : Int)) := by
  by_cases q : Q ≤ -52
  · obtain ⟨k, hk⟩ : ∃ k : Nat, Q = -52 - (k : Int) := ⟨(-52 - Q).toNat, by omega⟩
    subst hk
    have h1 := mn_L k (11 - k) x C 1023 h (by omega)
    rw [show k + 1 + (11 - k) = 12 by omega, show (1023 : Int) - (k : Int) = -52 - (k : Int) + 1075 by omega] at h1
    exact h1
  · obtain ⟨k, hk⟩ : ∃ k : Nat, Q = -52 + (k : Int) := ⟨(Q + 52).toNat, by omega⟩
    subst hk
    have h1 := mn_H k (11 - k) x C 1023 h (by omega)
    rw [show k + 1 + (11 - k) = 12 by omega, show (1023 : Int) + (k : Int) = -52 + (k : Int) + 1075 by omega] at h1
    unfold mnL
    rw [if_pos (nf6_ge1 h (by omega))]
    exact h1
theorem mn_B {x : UInt64} {C : Nat} {Q : Int} (h : NF6 x C Q) (q1 : -60 ≤ Q) (q2 : Q ≤ -44) : mnB x = some x.toInt64.toInt := by
  unfold mnB
  rw [if_neg (nf6_gt0 h), mn_val h q1 q2, nf6_bits h, h.2.2]
  have hC := h.1.1
  rcases (show Q = -60 ∨ Q = -59 ∨ Q = -58 ∨ Q = -57 ∨ Q = -56 ∨ Q = -55 ∨ Q = -54 ∨ Q = -53 ∨ Q = -52 ∨ Q = -51 ∨ Q = -50 ∨ Q = -49 ∨ Q = -48 ∨ Q = -47 ∨ Q = -46 ∨ Q = -45 ∨ Q = -44 by omega) with rfl | rfl | rfl | rfl | rfl | rfl | rfl | rfl | rfl | rfl | rfl | rfl | rfl | rfl | rfl | rfl | rfl
  · rw [show (Int64.ofInt ((-60 : Int) + 1075) <<< ((Int32.ofInt 52).toInt64 &&& 63)).toInt = 4571153621781053440 by decide +kernel, show ((-60 : Int) + 1075).toNat = 1015 by decide]; congr 1
  · rw [show (Int64.ofInt ((-59 : Int) + 1075) <<< ((Int32.ofInt 52).toInt64 &&& 63)).toInt = 4575657221408423936 by decide +kernel, show ((-59 : Int) + 1075).toNat = 1016 by decide]; congr 1
  · rw [show (Int64.ofInt ((-58 : Int) + 1075) <<< ((Int32.ofInt 52).toInt64 &&& 63)).toInt = 4580160821035794432 by decide +kernel, show ((-58 : Int) + 1075).toNat = 1017 by decide]; congr 1
  · rw [show (Int64.ofInt ((-57 : Int) + 1075) <<< ((Int32.ofInt 52).toInt64 &&& 63)).toInt = 4584664420663164928 by decide +kernel, show ((-57 : Int) + 1075).toNat = 1018 by decide]; congr 1
  · rw [show (Int64.ofInt ((-56 : Int) + 1075) <<< ((Int32.ofInt 52).toInt64 &&& 63)).toInt = 4589168020290535424 by decide +kernel, show ((-56 : Int) + 1075).toNat = 1019 by decide]; congr 1
  · rw [show (Int64.ofInt ((-55 : Int) + 1075) <<< ((Int32.ofInt 52).toInt64 &&& 63)).toInt = 4593671619917905920 by decide +kernel, show ((-55 : Int) + 1075).toNat = 1020 by decide]; congr 1
  · rw [show (Int64.ofInt ((-54 : Int) + 1075) <<< ((Int32.ofInt 52).toInt64 &&& 63)).toInt = 4598175219545276416 by decide +kernel, show ((-54 : Int) + 1075).toNat = 1021 by decide]; congr 1
  · rw [show (Int64.ofInt ((-53 : Int) + 1075) <<< ((Int32.ofInt 52).toInt64 &&& 63)).toInt = 4602678819172646912 by decide +kernel, show ((-53 : Int) + 1075).toNat = 1022 by decide]; congr 1
  · rw [show (Int64.ofInt ((-52 : Int) + 1075) <<< ((Int32.ofInt 52).toInt64 &&& 63)).toInt = 4607182418800017408 by decide +kernel, show ((-52 : Int) + 1075).toNat = 1023 by decide]; congr 1
  · rw [show (Int64.ofInt ((-51 : Int) + 1075) <<< ((Int32.ofInt 52).toInt64 &&& 63)).toInt = 4611686018427387904 by decide +kernel, show ((-51 : Int) + 1075).toNat = 1024 by decide]; congr 1
  · rw [show (Int64.ofInt ((-50 : Int) + 1075) <<< ((Int32.ofInt 52).toInt64 &&& 63)).toInt = 4616189618054758400 by decide +kernel, show ((-50 : Int) + 1075).toNat = 1025 by decide]; congr 1
  · rw [show (Int64.ofInt ((-49 : Int) + 1075) <<< ((Int32.ofInt 52).toInt64 &&& 63)).toInt = 4620693217682128896 by decide +kernel, show ((-49 : Int) + 1075).toNat = 1026 by decide]; congr 1
  · rw [show (Int64.ofInt ((-48 : Int) + 1075) <<< ((Int32.ofInt 52).toInt64 &&& 63)).toInt = 4625196817309499392 by decide +kernel, show ((-48 : Int) + 1075).toNat = 1027 by decide]; congr 1
  · rw [show (Int64.ofInt ((-47 : Int) + 1075) <<< ((Int32.ofInt 52).toInt64 &&& 63)).toInt = 4629700416936869888 by decide +kernel, show ((-47 : Int) + 1075).toNat = 1028 by decide]; congr 1
  · rw [show (Int64.ofInt ((-46 : Int) + 1075) <<< ((Int32.ofInt 52).toInt64 &&& 63)).toInt = 4634204016564240384 by decide +kernel, show ((-46 : Int) + 1075).toNat = 1029 by decide]; congr 1
  · rw [show (Int64.ofInt ((-45 : Int) + 1075) <<< ((Int32.ofInt 52).toInt64 &&& 63)).toInt = 4638707616191610880 by decide +kernel, show ((-45 : Int) + 1075).toNat = 1030 by decide]; congr 1
  · rw [show (Int64.ofInt ((-44 : Int) + 1075) <<< ((Int32.ofInt 52).toInt64 &&& 63)).toInt = 4643211215818981376 by decide +kernel, show ((-44 : Int) + 1075).toNat = 1031 by decide]; congr 1
theorem mn_X {x : UInt64} {C : Nat} {Q : Int} (h : NF6 x C Q) (q1 : -60 ≤ Q) (q2 : Q ≤ -44) : mnX x = true := by
  unfold mnX
  rw [nf6_nn h, decide_eq_true (nf6_self h), decide_eq_true (mn_B h q1 q2)]
  rfl
theorem mn_0 {n : Nat} (h1 : 1 ≤ n) (h2 : n ≤ 201) : mnX (mnN 0 n) = true := by
  obtain ⟨l, hl⟩ : ∃ l, n.log2 = l := ⟨_, rfl⟩
  have h := nf6_int h1 h2 hl
  have e : mnN 0 n = 0 := by
    show UInt64.ofNat (FP.Core.encode FP.Core.b64 (FP.Core.quotient FP.Core.b64 (FP.Core.decode FP.Core.b64 (FP.i2d (Int32.ofInt ((0 : Nat) : Int))).toNat) (FP.Core.decode FP.Core.b64 (FP.i2d (Int32.ofInt (n : Int))).toNat))) = _
    rw [h.2.1, show FP.Core.decode FP.Core.b64 (FP.i2d (Int32.ofInt ((0 : Nat) : Int))).toNat = .fin false 0 (-1074) by decide +kernel]
    have hne : n * 2 ^ (52 - l) ≠ 0 := by have := h.1.1; omega
    have e2 : FP.Core.quotient FP.Core.b64 (.fin false 0 (-1074)) (.fin false (n * 2 ^ (52 - l)) ((l : Int) - 52)) = .fin false 0 (-1074) := by
      show (if n * 2 ^ (52 - l) = 0 then _ else FP.Core.roundRatio FP.Core.b64 false 0 (n * 2 ^ (52 - l)) (-1074 - ((l : Int) - 52))) = _
      rw [if_neg hne]
      rfl
    rw [e2]
    decide +kernel
  rw [e]
  decide +kernel
theorem mnTab : MnTab := by
  intro c n h1 hc
  by_cases h0 : c = 0
  · rw [h0]; exact mn_0 h1 (by omega)
  obtain ⟨lc, hlc⟩ : ∃ l, c.log2 = l := ⟨_, rfl⟩
  obtain ⟨ln, hln⟩ : ∃ l, n.log2 = l := ⟨_, rfl⟩
  have hx := nf6_int (by omega) (by omega) hlc
  have hy := nf6_int h1 (by omega) hln
  have b1 : ln < 8 := hln ▸ (Nat.log2_lt (k := 8) (by omega)).mpr (by omega)
  have b2 : lc < 8 := hlc ▸ (Nat.log2_lt (k := 8) (by omega)).mpr (by omega)
  obtain ⟨C, Q, g, g1, g2, g3⟩ := nf6_div hx hy (by omega)
  have hQ : Q ≤ -44 := by
    by_cases q2 : n * 2 ^ (52 - ln) < c * 2 ^ (52 - lc)
    · have := g2 q2; omega
    · have := g3 (by omega); omega
  exact mn_X g (by omega) hQ
end Tabs
