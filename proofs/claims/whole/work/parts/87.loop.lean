/-! The law's loop. -/
section Loop
variable {xs : Nat → Int} {z i : Int} {σ σ2 σf : St} {n : Nat}
def SwK (xs : Nat → Int) (z : Int) (n : Nat) (i : Int) (σ σf : St) : Prop := ∀ (b : Nat × Nat) (v6 v7 v8 v9 : MV), n + 1 ≤ b.1 ∧ 6 * (n + 1) ≤ b.2 → Go xs 10 mL_law b 44 [vT 6 z, vA 0, vA 109, vA 133, vA 134, vI i, v6, v7, v8, v9] [vI (xs i.toNat % 64)] σ (vI 1, σf)
theorem law_end (hi : 0 ≤ i ∧ i ≤ 2560) (hz : z < i + 5) (hz2 : 0 ≤ z ∧ z ≤ 2560) : NxtK xs z n i σ σ := by
  intro b v6 v7 v8 v9 hb
  refine go_iload (at_of tL_law 1 0 rfl) rfl rfl ?_
  refine go_aload_s (at_of tL_law 1 1 rfl) rfl ?_
  refine go_slen (at_of tL_law 1 2 rfl) ?_
  refine go_iconst (at_of tL_law 1 3 rfl) (by unfold in32; omega) ?_
  refine go_isub (at_of tL_law 1 4 rfl) (by unfold in32; omega) ?_
  refine go_icmp_gt (tgt := 3213) (at_of tL_law 1 5 rfl) (by decide) (fun h34 => ?_) (fun h34 => ?_)
  rotate_left
  · exfalso; omega
  refine go_iconst (at_of tL_law 118 5 rfl) (by unfold in32; omega) ?_
  exact go_reti (at_of tL_law 118 6 rfl) rfl
theorem law_head (hi : 0 ≤ i) (hz : i + 5 ≤ z) (hz2 : z ≤ 2560) (K : SwK xs z n i σ σf) : NxtK xs z (n + 1) i σ σf := by
  intro b v6 v7 v8 v9 hb
  refine go_iload (at_of tL_law 1 0 rfl) rfl rfl ?_
  refine go_aload_s (at_of tL_law 1 1 rfl) rfl ?_
  refine go_slen (at_of tL_law 1 2 rfl) ?_
  refine go_iconst (at_of tL_law 1 3 rfl) (by unfold in32; omega) ?_
  refine go_isub (at_of tL_law 1 4 rfl) (by unfold in32; omega) ?_
  refine go_icmp_gt (tgt := 3213) (at_of tL_law 1 5 rfl) (by decide) (fun h34 => ?_) (fun h34 => ?_)
  · exfalso; omega
  refine go_aload_s (at_of tL_law 1 6 rfl) rfl ?_
  refine go_iload (at_of tL_law 1 7 rfl) rfl rfl ?_
  refine go_sld (by omega) (by omega) (at_of tL_law 1 8 rfl) ?_
  refine go_bipush (at_of tL_law 1 9 rfl) (by omega) ?_
  refine go_iand63 (at_of tL_law 1 10 rfl) ?_
  exact K b v6 v7 v8 v9 hb
def lawOffs : Array Int := #[224, 265, 347, 441, 521, 601, 692, 736, 780, 793, 849, 862, 918, 931, 987, 1043, 1056, 1112, 1168, 1224, 1280, 1336, 1392, 1448, 1532, 1628, 1684, 1747, 1827, 1895, 1977, 2068, 2124, 2180, 2236, 2316, 2372, 2428, 2519, 2575, 2588, 2668, 2724, 2792, 2860, 2873, 2929, 2985, 3051, 3095, 3136, 3150]
theorem law_case (hT1 : ShTab) (hT2 : MnTab) (hi : 0 ≤ i) (hz : i + 5 ≤ z) (hz2 : z ≤ 2560) (h : Sim σ) : ∃ σ2, Sim σ2 ∧ ∀ σf, NxtK xs z n (i + 5) σ2 σf → SwK xs z n i σ σf := by
  by_cases q0 : xs i.toNat % 64 = 0
  · obtain ⟨σ2, h2, h3⟩ := lc_0 (xs := xs) (n := n) hi hz hz2 h
    refine ⟨σ2, h2, fun σf K b v6 v7 v8 v9 hb => ?_⟩
    rw [q0]
    exact go_tableIn (tgt := 268) (at_of tL_law 1 11 rfl) (by decide) (by decide) (show lawOffs[((0 : Int) - 0).toNat]? = some 224 from rfl) (by decide) (h3 σf K b v6 v7 v8 v9 hb)
  by_cases q1 : xs i.toNat % 64 = 1
  · obtain ⟨σ2, h2, h3⟩ := lc_1 (xs := xs) (n := n) hi hz hz2 h
    refine ⟨σ2, h2, fun σf K b v6 v7 v8 v9 hb => ?_⟩
    rw [q1]
    exact go_tableIn (tgt := 309) (at_of tL_law 1 11 rfl) (by decide) (by decide) (show lawOffs[((1 : Int) - 0).toNat]? = some 265 from rfl) (by decide) (h3 σf K b v6 v7 v8 v9 hb)
  by_cases q2 : xs i.toNat % 64 = 2
  · obtain ⟨σ2, h2, h3⟩ := lc_2 (xs := xs) (n := n) hi hz hz2 h
    refine ⟨σ2, h2, fun σf K b v6 v7 v8 v9 hb => ?_⟩
    rw [q2]
    exact go_tableIn (tgt := 391) (at_of tL_law 1 11 rfl) (by decide) (by decide) (show lawOffs[((2 : Int) - 0).toNat]? = some 347 from rfl) (by decide) (h3 σf K b v6 v7 v8 v9 hb)
  by_cases q3 : xs i.toNat % 64 = 3
  · obtain ⟨σ2, h2, h3⟩ := lc_3 (xs := xs) (n := n) hi hz hz2 h
    refine ⟨σ2, h2, fun σf K b v6 v7 v8 v9 hb => ?_⟩
    rw [q3]
    exact go_tableIn (tgt := 485) (at_of tL_law 1 11 rfl) (by decide) (by decide) (show lawOffs[((3 : Int) - 0).toNat]? = some 441 from rfl) (by decide) (h3 σf K b v6 v7 v8 v9 hb)
  by_cases q4 : xs i.toNat % 64 = 4
  · obtain ⟨σ2, h2, h3⟩ := lc_4 (xs := xs) (n := n) hi hz hz2 h
    refine ⟨σ2, h2, fun σf K b v6 v7 v8 v9 hb => ?_⟩
    rw [q4]
    exact go_tableIn (tgt := 565) (at_of tL_law 1 11 rfl) (by decide) (by decide) (show lawOffs[((4 : Int) - 0).toNat]? = some 521 from rfl) (by decide) (h3 σf K b v6 v7 v8 v9 hb)
  by_cases q5 : xs i.toNat % 64 = 5
  · obtain ⟨σ2, h2, h3⟩ := lc_5 (xs := xs) (n := n) hi hz hz2 h
    refine ⟨σ2, h2, fun σf K b v6 v7 v8 v9 hb => ?_⟩
    rw [q5]
    exact go_tableIn (tgt := 645) (at_of tL_law 1 11 rfl) (by decide) (by decide) (show lawOffs[((5 : Int) - 0).toNat]? = some 601 from rfl) (by decide) (h3 σf K b v6 v7 v8 v9 hb)
  by_cases q6 : xs i.toNat % 64 = 6
  · obtain ⟨σ2, h2, h3⟩ := lc_6 (xs := xs) (n := n) hi hz hz2 h
    refine ⟨σ2, h2, fun σf K b v6 v7 v8 v9 hb => ?_⟩
    rw [q6]
    exact go_tableIn (tgt := 736) (at_of tL_law 1 11 rfl) (by decide) (by decide) (show lawOffs[((6 : Int) - 0).toNat]? = some 692 from rfl) (by decide) (h3 σf K b v6 v7 v8 v9 hb)
  by_cases q7 : xs i.toNat % 64 = 7
  · obtain ⟨σ2, h2, h3⟩ := lc_7 (xs := xs) (n := n) hi hz hz2 h
    refine ⟨σ2, h2, fun σf K b v6 v7 v8 v9 hb => ?_⟩
    rw [q7]
    exact go_tableIn (tgt := 780) (at_of tL_law 1 11 rfl) (by decide) (by decide) (show lawOffs[((7 : Int) - 0).toNat]? = some 736 from rfl) (by decide) (h3 σf K b v6 v7 v8 v9 hb)
  by_cases q8 : xs i.toNat % 64 = 8
  · obtain ⟨σ2, h2, h3⟩ := lc_8 (xs := xs) (n := n) hi hz hz2 h
    refine ⟨σ2, h2, fun σf K b v6 v7 v8 v9 hb => ?_⟩
    rw [q8]
    exact go_tableIn (tgt := 824) (at_of tL_law 1 11 rfl) (by decide) (by decide) (show lawOffs[((8 : Int) - 0).toNat]? = some 780 from rfl) (by decide) (h3 σf K b v6 v7 v8 v9 hb)
  by_cases q9 : xs i.toNat % 64 = 9
  · obtain ⟨σ2, h2, h3⟩ := lc_9 (xs := xs) (n := n) hi hz hz2 h
    refine ⟨σ2, h2, fun σf K b v6 v7 v8 v9 hb => ?_⟩
    rw [q9]
    exact go_tableIn (tgt := 837) (at_of tL_law 1 11 rfl) (by decide) (by decide) (show lawOffs[((9 : Int) - 0).toNat]? = some 793 from rfl) (by decide) (h3 σf K b v6 v7 v8 v9 hb)
  by_cases q10 : xs i.toNat % 64 = 10
  · obtain ⟨σ2, h2, h3⟩ := lc_10 (xs := xs) (n := n) hi hz hz2 h
    refine ⟨σ2, h2, fun σf K b v6 v7 v8 v9 hb => ?_⟩
    rw [q10]
    exact go_tableIn (tgt := 893) (at_of tL_law 1 11 rfl) (by decide) (by decide) (show lawOffs[((10 : Int) - 0).toNat]? = some 849 from rfl) (by decide) (h3 σf K b v6 v7 v8 v9 hb)
  by_cases q11 : xs i.toNat % 64 = 11
  · obtain ⟨σ2, h2, h3⟩ := lc_11 (xs := xs) (n := n) hi hz hz2 h
    refine ⟨σ2, h2, fun σf K b v6 v7 v8 v9 hb => ?_⟩
    rw [q11]
    exact go_tableIn (tgt := 906) (at_of tL_law 1 11 rfl) (by decide) (by decide) (show lawOffs[((11 : Int) - 0).toNat]? = some 862 from rfl) (by decide) (h3 σf K b v6 v7 v8 v9 hb)
  by_cases q12 : xs i.toNat % 64 = 12
  · obtain ⟨σ2, h2, h3⟩ := lc_12 (xs := xs) (n := n) hi hz hz2 h
    refine ⟨σ2, h2, fun σf K b v6 v7 v8 v9 hb => ?_⟩
    rw [q12]
    exact go_tableIn (tgt := 962) (at_of tL_law 1 11 rfl) (by decide) (by decide) (show lawOffs[((12 : Int) - 0).toNat]? = some 918 from rfl) (by decide) (h3 σf K b v6 v7 v8 v9 hb)
  by_cases q13 : xs i.toNat % 64 = 13
  · obtain ⟨σ2, h2, h3⟩ := lc_13 (xs := xs) (n := n) hi hz hz2 h
    refine ⟨σ2, h2, fun σf K b v6 v7 v8 v9 hb => ?_⟩
    rw [q13]
    exact go_tableIn (tgt := 975) (at_of tL_law 1 11 rfl) (by decide) (by decide) (show lawOffs[((13 : Int) - 0).toNat]? = some 931 from rfl) (by decide) (h3 σf K b v6 v7 v8 v9 hb)
  by_cases q14 : xs i.toNat % 64 = 14
  · obtain ⟨σ2, h2, h3⟩ := lc_14 (xs := xs) (n := n) hi hz hz2 h
    refine ⟨σ2, h2, fun σf K b v6 v7 v8 v9 hb => ?_⟩
    rw [q14]
    exact go_tableIn (tgt := 1031) (at_of tL_law 1 11 rfl) (by decide) (by decide) (show lawOffs[((14 : Int) - 0).toNat]? = some 987 from rfl) (by decide) (h3 σf K b v6 v7 v8 v9 hb)
  by_cases q15 : xs i.toNat % 64 = 15
  · obtain ⟨σ2, h2, h3⟩ := lc_15 (xs := xs) (n := n) hi hz hz2 h
    refine ⟨σ2, h2, fun σf K b v6 v7 v8 v9 hb => ?_⟩
    rw [q15]
    exact go_tableIn (tgt := 1087) (at_of tL_law 1 11 rfl) (by decide) (by decide) (show lawOffs[((15 : Int) - 0).toNat]? = some 1043 from rfl) (by decide) (h3 σf K b v6 v7 v8 v9 hb)
  by_cases q16 : xs i.toNat % 64 = 16
  · obtain ⟨σ2, h2, h3⟩ := lc_16 (xs := xs) (n := n) hi hz hz2 h
    refine ⟨σ2, h2, fun σf K b v6 v7 v8 v9 hb => ?_⟩
    rw [q16]
    exact go_tableIn (tgt := 1100) (at_of tL_law 1 11 rfl) (by decide) (by decide) (show lawOffs[((16 : Int) - 0).toNat]? = some 1056 from rfl) (by decide) (h3 σf K b v6 v7 v8 v9 hb)
  by_cases q17 : xs i.toNat % 64 = 17
  · obtain ⟨σ2, h2, h3⟩ := lc_17 (xs := xs) (n := n) hi hz hz2 h
    refine ⟨σ2, h2, fun σf K b v6 v7 v8 v9 hb => ?_⟩
    rw [q17]
    exact go_tableIn (tgt := 1156) (at_of tL_law 1 11 rfl) (by decide) (by decide) (show lawOffs[((17 : Int) - 0).toNat]? = some 1112 from rfl) (by decide) (h3 σf K b v6 v7 v8 v9 hb)
  by_cases q18 : xs i.toNat % 64 = 18
  · obtain ⟨σ2, h2, h3⟩ := lc_18 (xs := xs) (n := n) hi hz hz2 h
    refine ⟨σ2, h2, fun σf K b v6 v7 v8 v9 hb => ?_⟩
    rw [q18]
    exact go_tableIn (tgt := 1212) (at_of tL_law 1 11 rfl) (by decide) (by decide) (show lawOffs[((18 : Int) - 0).toNat]? = some 1168 from rfl) (by decide) (h3 σf K b v6 v7 v8 v9 hb)
  by_cases q19 : xs i.toNat % 64 = 19
  · obtain ⟨σ2, h2, h3⟩ := lc_19 (xs := xs) (n := n) hi hz hz2 h
    refine ⟨σ2, h2, fun σf K b v6 v7 v8 v9 hb => ?_⟩
    rw [q19]
    exact go_tableIn (tgt := 1268) (at_of tL_law 1 11 rfl) (by decide) (by decide) (show lawOffs[((19 : Int) - 0).toNat]? = some 1224 from rfl) (by decide) (h3 σf K b v6 v7 v8 v9 hb)
  by_cases q20 : xs i.toNat % 64 = 20
  · obtain ⟨σ2, h2, h3⟩ := lc_20 (xs := xs) (n := n) hi hz hz2 h
    refine ⟨σ2, h2, fun σf K b v6 v7 v8 v9 hb => ?_⟩
    rw [q20]
    exact go_tableIn (tgt := 1324) (at_of tL_law 1 11 rfl) (by decide) (by decide) (show lawOffs[((20 : Int) - 0).toNat]? = some 1280 from rfl) (by decide) (h3 σf K b v6 v7 v8 v9 hb)
  by_cases q21 : xs i.toNat % 64 = 21
  · obtain ⟨σ2, h2, h3⟩ := lc_21 (xs := xs) (n := n) hi hz hz2 h
    refine ⟨σ2, h2, fun σf K b v6 v7 v8 v9 hb => ?_⟩
    rw [q21]
    exact go_tableIn (tgt := 1380) (at_of tL_law 1 11 rfl) (by decide) (by decide) (show lawOffs[((21 : Int) - 0).toNat]? = some 1336 from rfl) (by decide) (h3 σf K b v6 v7 v8 v9 hb)
  by_cases q22 : xs i.toNat % 64 = 22
  · obtain ⟨σ2, h2, h3⟩ := lc_22 (xs := xs) (n := n) hi hz hz2 h
    refine ⟨σ2, h2, fun σf K b v6 v7 v8 v9 hb => ?_⟩
    rw [q22]
    exact go_tableIn (tgt := 1436) (at_of tL_law 1 11 rfl) (by decide) (by decide) (show lawOffs[((22 : Int) - 0).toNat]? = some 1392 from rfl) (by decide) (h3 σf K b v6 v7 v8 v9 hb)
  by_cases q23 : xs i.toNat % 64 = 23
  · obtain ⟨σ2, h2, h3⟩ := lc_23 (xs := xs) (n := n) hi hz hz2 h
    refine ⟨σ2, h2, fun σf K b v6 v7 v8 v9 hb => ?_⟩
    rw [q23]
    exact go_tableIn (tgt := 1492) (at_of tL_law 1 11 rfl) (by decide) (by decide) (show lawOffs[((23 : Int) - 0).toNat]? = some 1448 from rfl) (by decide) (h3 σf K b v6 v7 v8 v9 hb)
  by_cases q24 : xs i.toNat % 64 = 24
  · obtain ⟨σ2, h2, h3⟩ := lc_24 (xs := xs) (n := n) hi hz hz2 h
    refine ⟨σ2, h2, fun σf K b v6 v7 v8 v9 hb => ?_⟩
    rw [q24]
    exact go_tableIn (tgt := 1576) (at_of tL_law 1 11 rfl) (by decide) (by decide) (show lawOffs[((24 : Int) - 0).toNat]? = some 1532 from rfl) (by decide) (h3 σf K b v6 v7 v8 v9 hb)
  by_cases q25 : xs i.toNat % 64 = 25
  · obtain ⟨σ2, h2, h3⟩ := lc_25 (xs := xs) (n := n) hi hz hz2 h
    refine ⟨σ2, h2, fun σf K b v6 v7 v8 v9 hb => ?_⟩
    rw [q25]
    exact go_tableIn (tgt := 1672) (at_of tL_law 1 11 rfl) (by decide) (by decide) (show lawOffs[((25 : Int) - 0).toNat]? = some 1628 from rfl) (by decide) (h3 σf K b v6 v7 v8 v9 hb)
  by_cases q26 : xs i.toNat % 64 = 26
  · obtain ⟨σ2, h2, h3⟩ := lc_26 (xs := xs) (n := n) hi hz hz2 h
    refine ⟨σ2, h2, fun σf K b v6 v7 v8 v9 hb => ?_⟩
    rw [q26]
    exact go_tableIn (tgt := 1728) (at_of tL_law 1 11 rfl) (by decide) (by decide) (show lawOffs[((26 : Int) - 0).toNat]? = some 1684 from rfl) (by decide) (h3 σf K b v6 v7 v8 v9 hb)
  by_cases q27 : xs i.toNat % 64 = 27
  · obtain ⟨σ2, h2, h3⟩ := lc_27 (xs := xs) (n := n) hi hz hz2 h
    refine ⟨σ2, h2, fun σf K b v6 v7 v8 v9 hb => ?_⟩
    rw [q27]
    exact go_tableIn (tgt := 1791) (at_of tL_law 1 11 rfl) (by decide) (by decide) (show lawOffs[((27 : Int) - 0).toNat]? = some 1747 from rfl) (by decide) (h3 σf K b v6 v7 v8 v9 hb)
  by_cases q28 : xs i.toNat % 64 = 28
  · obtain ⟨σ2, h2, h3⟩ := lc_28 (xs := xs) (n := n) hi hz hz2 h
    refine ⟨σ2, h2, fun σf K b v6 v7 v8 v9 hb => ?_⟩
    rw [q28]
    exact go_tableIn (tgt := 1871) (at_of tL_law 1 11 rfl) (by decide) (by decide) (show lawOffs[((28 : Int) - 0).toNat]? = some 1827 from rfl) (by decide) (h3 σf K b v6 v7 v8 v9 hb)
  by_cases q29 : xs i.toNat % 64 = 29
  · obtain ⟨σ2, h2, h3⟩ := lc_29 (xs := xs) (n := n) hi hz hz2 h
    refine ⟨σ2, h2, fun σf K b v6 v7 v8 v9 hb => ?_⟩
    rw [q29]
    exact go_tableIn (tgt := 1939) (at_of tL_law 1 11 rfl) (by decide) (by decide) (show lawOffs[((29 : Int) - 0).toNat]? = some 1895 from rfl) (by decide) (h3 σf K b v6 v7 v8 v9 hb)
  by_cases q30 : xs i.toNat % 64 = 30
  · obtain ⟨σ2, h2, h3⟩ := lc_30 (xs := xs) (n := n) hi hz hz2 h
    refine ⟨σ2, h2, fun σf K b v6 v7 v8 v9 hb => ?_⟩
    rw [q30]
    exact go_tableIn (tgt := 2021) (at_of tL_law 1 11 rfl) (by decide) (by decide) (show lawOffs[((30 : Int) - 0).toNat]? = some 1977 from rfl) (by decide) (h3 σf K b v6 v7 v8 v9 hb)
  by_cases q31 : xs i.toNat % 64 = 31
  · obtain ⟨σ2, h2, h3⟩ := lc_31 (xs := xs) (n := n) hi hz hz2 h
    refine ⟨σ2, h2, fun σf K b v6 v7 v8 v9 hb => ?_⟩
    rw [q31]
    exact go_tableIn (tgt := 2112) (at_of tL_law 1 11 rfl) (by decide) (by decide) (show lawOffs[((31 : Int) - 0).toNat]? = some 2068 from rfl) (by decide) (h3 σf K b v6 v7 v8 v9 hb)
  by_cases q32 : xs i.toNat % 64 = 32
  · obtain ⟨σ2, h2, h3⟩ := lc_32 (xs := xs) (n := n) hi hz hz2 h
    refine ⟨σ2, h2, fun σf K b v6 v7 v8 v9 hb => ?_⟩
    rw [q32]
    exact go_tableIn (tgt := 2168) (at_of tL_law 1 11 rfl) (by decide) (by decide) (show lawOffs[((32 : Int) - 0).toNat]? = some 2124 from rfl) (by decide) (h3 σf K b v6 v7 v8 v9 hb)
  by_cases q33 : xs i.toNat % 64 = 33
  · obtain ⟨σ2, h2, h3⟩ := lc_33 (xs := xs) (n := n) hi hz hz2 h
    refine ⟨σ2, h2, fun σf K b v6 v7 v8 v9 hb => ?_⟩
    rw [q33]
    exact go_tableIn (tgt := 2224) (at_of tL_law 1 11 rfl) (by decide) (by decide) (show lawOffs[((33 : Int) - 0).toNat]? = some 2180 from rfl) (by decide) (h3 σf K b v6 v7 v8 v9 hb)
  by_cases q34 : xs i.toNat % 64 = 34
  · obtain ⟨σ2, h2, h3⟩ := lc_34 (xs := xs) (n := n) hi hz hz2 h
    refine ⟨σ2, h2, fun σf K b v6 v7 v8 v9 hb => ?_⟩
    rw [q34]
    exact go_tableIn (tgt := 2280) (at_of tL_law 1 11 rfl) (by decide) (by decide) (show lawOffs[((34 : Int) - 0).toNat]? = some 2236 from rfl) (by decide) (h3 σf K b v6 v7 v8 v9 hb)
  by_cases q35 : xs i.toNat % 64 = 35
  · obtain ⟨σ2, h2, h3⟩ := lc_35 (xs := xs) (n := n) hi hz hz2 h
    refine ⟨σ2, h2, fun σf K b v6 v7 v8 v9 hb => ?_⟩
    rw [q35]
    exact go_tableIn (tgt := 2360) (at_of tL_law 1 11 rfl) (by decide) (by decide) (show lawOffs[((35 : Int) - 0).toNat]? = some 2316 from rfl) (by decide) (h3 σf K b v6 v7 v8 v9 hb)
  by_cases q36 : xs i.toNat % 64 = 36
  · obtain ⟨σ2, h2, h3⟩ := lc_36 (xs := xs) (n := n) hi hz hz2 h
    refine ⟨σ2, h2, fun σf K b v6 v7 v8 v9 hb => ?_⟩
    rw [q36]
    exact go_tableIn (tgt := 2416) (at_of tL_law 1 11 rfl) (by decide) (by decide) (show lawOffs[((36 : Int) - 0).toNat]? = some 2372 from rfl) (by decide) (h3 σf K b v6 v7 v8 v9 hb)
  by_cases q37 : xs i.toNat % 64 = 37
  · obtain ⟨σ2, h2, h3⟩ := lc_37 (xs := xs) (n := n) hi hz hz2 h
    refine ⟨σ2, h2, fun σf K b v6 v7 v8 v9 hb => ?_⟩
    rw [q37]
    exact go_tableIn (tgt := 2472) (at_of tL_law 1 11 rfl) (by decide) (by decide) (show lawOffs[((37 : Int) - 0).toNat]? = some 2428 from rfl) (by decide) (h3 σf K b v6 v7 v8 v9 hb)
  by_cases q38 : xs i.toNat % 64 = 38
  · obtain ⟨σ2, h2, h3⟩ := lc_38 (xs := xs) (n := n) hi hz hz2 h
    refine ⟨σ2, h2, fun σf K b v6 v7 v8 v9 hb => ?_⟩
    rw [q38]
    exact go_tableIn (tgt := 2563) (at_of tL_law 1 11 rfl) (by decide) (by decide) (show lawOffs[((38 : Int) - 0).toNat]? = some 2519 from rfl) (by decide) (h3 σf K b v6 v7 v8 v9 hb)
  by_cases q39 : xs i.toNat % 64 = 39
  · obtain ⟨σ2, h2, h3⟩ := lc_39 (xs := xs) (n := n) hi hz hz2 h
    refine ⟨σ2, h2, fun σf K b v6 v7 v8 v9 hb => ?_⟩
    rw [q39]
    exact go_tableIn (tgt := 2619) (at_of tL_law 1 11 rfl) (by decide) (by decide) (show lawOffs[((39 : Int) - 0).toNat]? = some 2575 from rfl) (by decide) (h3 σf K b v6 v7 v8 v9 hb)
  by_cases q40 : xs i.toNat % 64 = 40
  · obtain ⟨σ2, h2, h3⟩ := lc_40 (xs := xs) (n := n) hi hz hz2 h
    refine ⟨σ2, h2, fun σf K b v6 v7 v8 v9 hb => ?_⟩
    rw [q40]
    exact go_tableIn (tgt := 2632) (at_of tL_law 1 11 rfl) (by decide) (by decide) (show lawOffs[((40 : Int) - 0).toNat]? = some 2588 from rfl) (by decide) (h3 σf K b v6 v7 v8 v9 hb)
  by_cases q41 : xs i.toNat % 64 = 41
  · obtain ⟨σ2, h2, h3⟩ := lc_41 (xs := xs) (n := n) hi hz hz2 h
    refine ⟨σ2, h2, fun σf K b v6 v7 v8 v9 hb => ?_⟩
    rw [q41]
    exact go_tableIn (tgt := 2712) (at_of tL_law 1 11 rfl) (by decide) (by decide) (show lawOffs[((41 : Int) - 0).toNat]? = some 2668 from rfl) (by decide) (h3 σf K b v6 v7 v8 v9 hb)
  by_cases q42 : xs i.toNat % 64 = 42
  · obtain ⟨σ2, h2, h3⟩ := lc_42 (xs := xs) (n := n) hi hz hz2 h
    refine ⟨σ2, h2, fun σf K b v6 v7 v8 v9 hb => ?_⟩
    rw [q42]
    exact go_tableIn (tgt := 2768) (at_of tL_law 1 11 rfl) (by decide) (by decide) (show lawOffs[((42 : Int) - 0).toNat]? = some 2724 from rfl) (by decide) (h3 σf K b v6 v7 v8 v9 hb)
  by_cases q43 : xs i.toNat % 64 = 43
  · obtain ⟨σ2, h2, h3⟩ := lc_43 (xs := xs) (n := n) hi hz hz2 h
    refine ⟨σ2, h2, fun σf K b v6 v7 v8 v9 hb => ?_⟩
    rw [q43]
    exact go_tableIn (tgt := 2836) (at_of tL_law 1 11 rfl) (by decide) (by decide) (show lawOffs[((43 : Int) - 0).toNat]? = some 2792 from rfl) (by decide) (h3 σf K b v6 v7 v8 v9 hb)
  by_cases q44 : xs i.toNat % 64 = 44
  · obtain ⟨σ2, h2, h3⟩ := lc_44 (xs := xs) (n := n) hi hz hz2 h
    refine ⟨σ2, h2, fun σf K b v6 v7 v8 v9 hb => ?_⟩
    rw [q44]
    exact go_tableIn (tgt := 2904) (at_of tL_law 1 11 rfl) (by decide) (by decide) (show lawOffs[((44 : Int) - 0).toNat]? = some 2860 from rfl) (by decide) (h3 σf K b v6 v7 v8 v9 hb)
  by_cases q45 : xs i.toNat % 64 = 45
  · obtain ⟨σ2, h2, h3⟩ := lc_45 (xs := xs) (n := n) hi hz hz2 h
    refine ⟨σ2, h2, fun σf K b v6 v7 v8 v9 hb => ?_⟩
    rw [q45]
    exact go_tableIn (tgt := 2917) (at_of tL_law 1 11 rfl) (by decide) (by decide) (show lawOffs[((45 : Int) - 0).toNat]? = some 2873 from rfl) (by decide) (h3 σf K b v6 v7 v8 v9 hb)
  by_cases q46 : xs i.toNat % 64 = 46
  · obtain ⟨σ2, h2, h3⟩ := lc_46 (xs := xs) (n := n) hi hz hz2 h
    refine ⟨σ2, h2, fun σf K b v6 v7 v8 v9 hb => ?_⟩
    rw [q46]
    exact go_tableIn (tgt := 2973) (at_of tL_law 1 11 rfl) (by decide) (by decide) (show lawOffs[((46 : Int) - 0).toNat]? = some 2929 from rfl) (by decide) (h3 σf K b v6 v7 v8 v9 hb)
  by_cases q47 : xs i.toNat % 64 = 47
  · obtain ⟨σ2, h2, h3⟩ := lc_47 (xs := xs) (n := n) hT1 hi hz hz2 h
    refine ⟨σ2, h2, fun σf K b v6 v7 v8 v9 hb => ?_⟩
    rw [q47]
    exact go_tableIn (tgt := 3029) (at_of tL_law 1 11 rfl) (by decide) (by decide) (show lawOffs[((47 : Int) - 0).toNat]? = some 2985 from rfl) (by decide) (h3 σf K b v6 v7 v8 v9 hb)
  by_cases q48 : xs i.toNat % 64 = 48
  · obtain ⟨σ2, h2, h3⟩ := lc_48 (xs := xs) (n := n) hT1 hi hz hz2 h
    refine ⟨σ2, h2, fun σf K b v6 v7 v8 v9 hb => ?_⟩
    rw [q48]
    exact go_tableIn (tgt := 3095) (at_of tL_law 1 11 rfl) (by decide) (by decide) (show lawOffs[((48 : Int) - 0).toNat]? = some 3051 from rfl) (by decide) (h3 σf K b v6 v7 v8 v9 hb)
  by_cases q49 : xs i.toNat % 64 = 49
  · obtain ⟨σ2, h2, h3⟩ := lc_49 (xs := xs) (n := n) hT2 hi hz hz2 h
    refine ⟨σ2, h2, fun σf K b v6 v7 v8 v9 hb => ?_⟩
    rw [q49]
    exact go_tableIn (tgt := 3139) (at_of tL_law 1 11 rfl) (by decide) (by decide) (show lawOffs[((49 : Int) - 0).toNat]? = some 3095 from rfl) (by decide) (h3 σf K b v6 v7 v8 v9 hb)
  by_cases q50 : xs i.toNat % 64 = 50
  · obtain ⟨σ2, h2, h3⟩ := lc_50 (xs := xs) (n := n) hT2 hi hz hz2 h
    refine ⟨σ2, h2, fun σf K b v6 v7 v8 v9 hb => ?_⟩
    rw [q50]
    exact go_tableIn (tgt := 3180) (at_of tL_law 1 11 rfl) (by decide) (by decide) (show lawOffs[((50 : Int) - 0).toNat]? = some 3136 from rfl) (by decide) (h3 σf K b v6 v7 v8 v9 hb)
  by_cases q51 : xs i.toNat % 64 = 51
  · obtain ⟨σ2, h2, h3⟩ := lc_51 (xs := xs) (n := n) hi hz hz2 h
    refine ⟨σ2, h2, fun σf K b v6 v7 v8 v9 hb => ?_⟩
    rw [q51]
    exact go_tableIn (tgt := 3194) (at_of tL_law 1 11 rfl) (by decide) (by decide) (show lawOffs[((51 : Int) - 0).toNat]? = some 3150 from rfl) (by decide) (h3 σf K b v6 v7 v8 v9 hb)
  refine ⟨σ, h, fun σf K b v6 v7 v8 v9 hb => ?_⟩
  have hw : 0 ≤ xs i.toNat % 64 := Int.emod_nonneg _ (by decide)
  exact go_tableOut (tgt := 3207) (at_of tL_law 1 11 rfl) (by omega) (by decide) (law_next ⟨hi, by omega⟩ K (by omega))
theorem law_loop (hT1 : ShTab) (hT2 : MnTab) (hz0 : 0 ≤ z) (hz2 : z ≤ 2560) : ∀ (n : Nat) (i : Int) (σ : St), 0 ≤ i → i ≤ 2560 → z - i ≤ 5 * (n : Int) + 4 → Sim σ → ∃ σf, NxtK xs z n i σ σf := by
  intro n
  induction n with
  | zero => intro i σ hi hi2 hn h; exact ⟨σ, law_end ⟨hi, hi2⟩ (by omega) ⟨hz0, hz2⟩⟩
  | succ n ih =>
    intro i σ hi hi2 hn h
    by_cases q : i + 5 ≤ z
    · obtain ⟨σ2, h2, h3⟩ := law_case (xs := xs) (n := n) hT1 hT2 hi q hz2 h
      obtain ⟨σf, h4⟩ := ih (i + 5) σ2 (by omega) (by omega) (by omega) h2
      exact ⟨σf, law_head hi q hz2 (h3 σf h4)⟩
    · exact ⟨σ, law_end ⟨hi, hi2⟩ (by omega) ⟨hz0, hz2⟩⟩
end Loop
