/-! The world at the law's entry. -/
section Entry
theorem xm_ok : ∀ q ∈ XM, Cond.methodLinkNest q.1 q.2.1 q.2.2.1 q.2.2.2 ∈ lw_tbl := List.forall_mem_cons.mpr ⟨List.mem_of_getElem? (i := 75) (by decide +kernel), List.forall_mem_cons.mpr ⟨List.mem_of_getElem? (i := 101) (by decide +kernel), List.forall_mem_cons.mpr ⟨List.mem_of_getElem? (i := 142) (by decide +kernel), List.forall_mem_cons.mpr ⟨List.mem_of_getElem? (i := 188) (by decide +kernel), List.forall_mem_cons.mpr ⟨List.mem_of_getElem? (i := 207) (by decide +kernel), List.forall_mem_cons.mpr ⟨List.mem_of_getElem? (i := 220) (by decide +kernel), List.forall_mem_cons.mpr ⟨List.mem_of_getElem? (i := 303) (by decide +kernel), List.forall_mem_cons.mpr ⟨List.mem_of_getElem? (i := 309) (by decide +kernel), List.forall_mem_cons.mpr ⟨List.mem_of_getElem? (i := 542) (by decide +kernel), List.forall_mem_cons.mpr ⟨List.mem_of_getElem? (i := 612) (by decide +kernel), List.forall_mem_cons.mpr ⟨List.mem_of_getElem? (i := 617) (by decide +kernel), List.forall_mem_cons.mpr ⟨List.mem_of_getElem? (i := 689) (by decide +kernel), List.forall_mem_cons.mpr ⟨List.mem_of_getElem? (i := 998) (by decide +kernel), List.forall_mem_cons.mpr ⟨List.mem_of_getElem? (i := 1006) (by decide +kernel), List.forall_mem_cons.mpr ⟨List.mem_of_getElem? (i := 1011) (by decide +kernel), List.forall_mem_cons.mpr ⟨List.mem_of_getElem? (i := 1020) (by decide +kernel), List.forall_mem_cons.mpr ⟨List.mem_of_getElem? (i := 1109) (by decide +kernel), fun _ h => absurd h List.not_mem_nil⟩⟩⟩⟩⟩⟩⟩⟩⟩⟩⟩⟩⟩⟩⟩⟩⟩
theorem xf_ok : ∀ q ∈ XF, Cond.fieldLinkNest q.1 q.2.1 q.2.2.1 q.2.2.2.1 q.2.2.2.2.1 q.2.2.2.2.2 ∈ lw_tbl := List.forall_mem_cons.mpr ⟨List.mem_of_getElem? (i := 119) (by decide +kernel), List.forall_mem_cons.mpr ⟨List.mem_of_getElem? (i := 121) (by decide +kernel), List.forall_mem_cons.mpr ⟨List.mem_of_getElem? (i := 123) (by decide +kernel), List.forall_mem_cons.mpr ⟨List.mem_of_getElem? (i := 316) (by decide +kernel), List.forall_mem_cons.mpr ⟨List.mem_of_getElem? (i := 318) (by decide +kernel), List.forall_mem_cons.mpr ⟨List.mem_of_getElem? (i := 320) (by decide +kernel), List.forall_mem_cons.mpr ⟨List.mem_of_getElem? (i := 322) (by decide +kernel), List.forall_mem_cons.mpr ⟨List.mem_of_getElem? (i := 324) (by decide +kernel), List.forall_mem_cons.mpr ⟨List.mem_of_getElem? (i := 338) (by decide +kernel), List.forall_mem_cons.mpr ⟨List.mem_of_getElem? (i := 340) (by decide +kernel), List.forall_mem_cons.mpr ⟨List.mem_of_getElem? (i := 342) (by decide +kernel), List.forall_mem_cons.mpr ⟨List.mem_of_getElem? (i := 344) (by decide +kernel), List.forall_mem_cons.mpr ⟨List.mem_of_getElem? (i := 346) (by decide +kernel), List.forall_mem_cons.mpr ⟨List.mem_of_getElem? (i := 348) (by decide +kernel), List.forall_mem_cons.mpr ⟨List.mem_of_getElem? (i := 439) (by decide +kernel), List.forall_mem_cons.mpr ⟨List.mem_of_getElem? (i := 441) (by decide +kernel), List.forall_mem_cons.mpr ⟨List.mem_of_getElem? (i := 442) (by decide +kernel), List.forall_mem_cons.mpr ⟨List.mem_of_getElem? (i := 444) (by decide +kernel), List.forall_mem_cons.mpr ⟨List.mem_of_getElem? (i := 445) (by decide +kernel), fun _ h => absurd h List.not_mem_nil⟩⟩⟩⟩⟩⟩⟩⟩⟩⟩⟩⟩⟩⟩⟩⟩⟩⟩⟩
theorem xd_ok : ∀ x ∈ XD, Cond.declares x ∈ lw_tbl := List.forall_mem_cons.mpr ⟨List.mem_of_getElem? (i := 467) (by decide +kernel), List.forall_mem_cons.mpr ⟨List.mem_of_getElem? (i := 468) (by decide +kernel), List.forall_mem_cons.mpr ⟨List.mem_of_getElem? (i := 469) (by decide +kernel), List.forall_mem_cons.mpr ⟨List.mem_of_getElem? (i := 470) (by decide +kernel), List.forall_mem_cons.mpr ⟨List.mem_of_getElem? (i := 471) (by decide +kernel), List.forall_mem_cons.mpr ⟨List.mem_of_getElem? (i := 472) (by decide +kernel), fun _ h => absurd h List.not_mem_nil⟩⟩⟩⟩⟩⟩
theorem xc_ok : ∀ q ∈ XC, Cond.castable q.1 q.2 ∈ lw_tbl := List.forall_mem_cons.mpr ⟨List.mem_of_getElem? (i := 466) (by decide +kernel), List.forall_mem_cons.mpr ⟨List.mem_of_getElem? (i := 561) (by decide +kernel), List.forall_mem_cons.mpr ⟨List.mem_of_getElem? (i := 585) (by decide +kernel), List.forall_mem_cons.mpr ⟨List.mem_of_getElem? (i := 640) (by decide +kernel), List.forall_mem_cons.mpr ⟨List.mem_of_getElem? (i := 868) (by decide +kernel), List.forall_mem_cons.mpr ⟨List.mem_of_getElem? (i := 1063) (by decide +kernel), List.forall_mem_cons.mpr ⟨List.mem_of_getElem? (i := 1131) (by decide +kernel), List.forall_mem_cons.mpr ⟨List.mem_of_getElem? (i := 1132) (by decide +kernel), List.forall_mem_cons.mpr ⟨List.mem_of_getElem? (i := 1133) (by decide +kernel), List.forall_mem_cons.mpr ⟨List.mem_of_getElem? (i := 1134) (by decide +kernel), List.forall_mem_cons.mpr ⟨List.mem_of_getElem? (i := 1135) (by decide +kernel), List.forall_mem_cons.mpr ⟨List.mem_of_getElem? (i := 1136) (by decide +kernel), List.forall_mem_cons.mpr ⟨List.mem_of_getElem? (i := 1137) (by decide +kernel), List.forall_mem_cons.mpr ⟨List.mem_of_getElem? (i := 1138) (by decide +kernel), List.forall_mem_cons.mpr ⟨List.mem_of_getElem? (i := 1139) (by decide +kernel), List.forall_mem_cons.mpr ⟨List.mem_of_getElem? (i := 1140) (by decide +kernel), List.forall_mem_cons.mpr ⟨List.mem_of_getElem? (i := 1141) (by decide +kernel), List.forall_mem_cons.mpr ⟨List.mem_of_getElem? (i := 1142) (by decide +kernel), List.forall_mem_cons.mpr ⟨List.mem_of_getElem? (i := 1143) (by decide +kernel), List.forall_mem_cons.mpr ⟨List.mem_of_getElem? (i := 1144) (by decide +kernel), List.forall_mem_cons.mpr ⟨List.mem_of_getElem? (i := 1145) (by decide +kernel), List.forall_mem_cons.mpr ⟨List.mem_of_getElem? (i := 1146) (by decide +kernel), List.forall_mem_cons.mpr ⟨List.mem_of_getElem? (i := 1147) (by decide +kernel), List.forall_mem_cons.mpr ⟨List.mem_of_getElem? (i := 1148) (by decide +kernel), List.forall_mem_cons.mpr ⟨List.mem_of_getElem? (i := 1149) (by decide +kernel), List.forall_mem_cons.mpr ⟨List.mem_of_getElem? (i := 1150) (by decide +kernel), List.forall_mem_cons.mpr ⟨List.mem_of_getElem? (i := 1151) (by decide +kernel), fun _ h => absurd h List.not_mem_nil⟩⟩⟩⟩⟩⟩⟩⟩⟩⟩⟩⟩⟩⟩⟩⟩⟩⟩⟩⟩⟩⟩⟩⟩⟩⟩⟩
theorem xs_ok : ∀ q ∈ XS, Cond.stringRef q.1 q.2.1 q.2.2 ∈ lw_tbl := List.forall_mem_cons.mpr ⟨List.mem_of_getElem? (i := 377) (by decide +kernel), List.forall_mem_cons.mpr ⟨List.mem_of_getElem? (i := 508) (by decide +kernel), List.forall_mem_cons.mpr ⟨List.mem_of_getElem? (i := 555) (by decide +kernel), List.forall_mem_cons.mpr ⟨List.mem_of_getElem? (i := 568) (by decide +kernel), List.forall_mem_cons.mpr ⟨List.mem_of_getElem? (i := 592) (by decide +kernel), List.forall_mem_cons.mpr ⟨List.mem_of_getElem? (i := 624) (by decide +kernel), List.forall_mem_cons.mpr ⟨List.mem_of_getElem? (i := 647) (by decide +kernel), List.forall_mem_cons.mpr ⟨List.mem_of_getElem? (i := 725) (by decide +kernel), List.forall_mem_cons.mpr ⟨List.mem_of_getElem? (i := 739) (by decide +kernel), List.forall_mem_cons.mpr ⟨List.mem_of_getElem? (i := 834) (by decide +kernel), List.forall_mem_cons.mpr ⟨List.mem_of_getElem? (i := 844) (by decide +kernel), List.forall_mem_cons.mpr ⟨List.mem_of_getElem? (i := 875) (by decide +kernel), List.forall_mem_cons.mpr ⟨List.mem_of_getElem? (i := 897) (by decide +kernel), List.forall_mem_cons.mpr ⟨List.mem_of_getElem? (i := 925) (by decide +kernel), List.forall_mem_cons.mpr ⟨List.mem_of_getElem? (i := 941) (by decide +kernel), List.forall_mem_cons.mpr ⟨List.mem_of_getElem? (i := 1070) (by decide +kernel), fun _ h => absurd h List.not_mem_nil⟩⟩⟩⟩⟩⟩⟩⟩⟩⟩⟩⟩⟩⟩⟩⟩
theorem xn_ok : ∀ q ∈ XN, Cond.not (Cond.castable q.1 q.2) ∈ flatC (Jvm.Cond.and given_1 narrow_1) := List.forall_mem_cons.mpr ⟨List.mem_of_getElem? (i := 24) (by decide +kernel), List.forall_mem_cons.mpr ⟨List.mem_of_getElem? (i := 25) (by decide +kernel), List.forall_mem_cons.mpr ⟨List.mem_of_getElem? (i := 26) (by decide +kernel), List.forall_mem_cons.mpr ⟨List.mem_of_getElem? (i := 27) (by decide +kernel), List.forall_mem_cons.mpr ⟨List.mem_of_getElem? (i := 28) (by decide +kernel), List.forall_mem_cons.mpr ⟨List.mem_of_getElem? (i := 41) (by decide +kernel), List.forall_mem_cons.mpr ⟨List.mem_of_getElem? (i := 42) (by decide +kernel), List.forall_mem_cons.mpr ⟨List.mem_of_getElem? (i := 43) (by decide +kernel), List.forall_mem_cons.mpr ⟨List.mem_of_getElem? (i := 44) (by decide +kernel), List.forall_mem_cons.mpr ⟨List.mem_of_getElem? (i := 45) (by decide +kernel), List.forall_mem_cons.mpr ⟨List.mem_of_getElem? (i := 46) (by decide +kernel), List.forall_mem_cons.mpr ⟨List.mem_of_getElem? (i := 47) (by decide +kernel), List.forall_mem_cons.mpr ⟨List.mem_of_getElem? (i := 48) (by decide +kernel), List.forall_mem_cons.mpr ⟨List.mem_of_getElem? (i := 61) (by decide +kernel), List.forall_mem_cons.mpr ⟨List.mem_of_getElem? (i := 62) (by decide +kernel), List.forall_mem_cons.mpr ⟨List.mem_of_getElem? (i := 63) (by decide +kernel), List.forall_mem_cons.mpr ⟨List.mem_of_getElem? (i := 64) (by decide +kernel), List.forall_mem_cons.mpr ⟨List.mem_of_getElem? (i := 65) (by decide +kernel), List.forall_mem_cons.mpr ⟨List.mem_of_getElem? (i := 66) (by decide +kernel), List.forall_mem_cons.mpr ⟨List.mem_of_getElem? (i := 67) (by decide +kernel), List.forall_mem_cons.mpr ⟨List.mem_of_getElem? (i := 68) (by decide +kernel), List.forall_mem_cons.mpr ⟨List.mem_of_getElem? (i := 81) (by decide +kernel), List.forall_mem_cons.mpr ⟨List.mem_of_getElem? (i := 82) (by decide +kernel), List.forall_mem_cons.mpr ⟨List.mem_of_getElem? (i := 83) (by decide +kernel), List.forall_mem_cons.mpr ⟨List.mem_of_getElem? (i := 84) (by decide +kernel), List.forall_mem_cons.mpr ⟨List.mem_of_getElem? (i := 85) (by decide +kernel), List.forall_mem_cons.mpr ⟨List.mem_of_getElem? (i := 86) (by decide +kernel), List.forall_mem_cons.mpr ⟨List.mem_of_getElem? (i := 87) (by decide +kernel), List.forall_mem_cons.mpr ⟨List.mem_of_getElem? (i := 88) (by decide +kernel), fun _ h => absurd h List.not_mem_nil⟩⟩⟩⟩⟩⟩⟩⟩⟩⟩⟩⟩⟩⟩⟩⟩⟩⟩⟩⟩⟩⟩⟩⟩⟩⟩⟩⟩⟩
theorem xs_own : ∀ q ∈ XS, q.1 = RX9 ∨ q.1 = RL := List.forall_mem_cons.mpr ⟨Or.inr rfl, List.forall_mem_cons.mpr ⟨Or.inl rfl, List.forall_mem_cons.mpr ⟨Or.inl rfl, List.forall_mem_cons.mpr ⟨Or.inl rfl, List.forall_mem_cons.mpr ⟨Or.inl rfl, List.forall_mem_cons.mpr ⟨Or.inl rfl, List.forall_mem_cons.mpr ⟨Or.inl rfl, List.forall_mem_cons.mpr ⟨Or.inl rfl, List.forall_mem_cons.mpr ⟨Or.inl rfl, List.forall_mem_cons.mpr ⟨Or.inl rfl, List.forall_mem_cons.mpr ⟨Or.inl rfl, List.forall_mem_cons.mpr ⟨Or.inl rfl, List.forall_mem_cons.mpr ⟨Or.inl rfl, List.forall_mem_cons.mpr ⟨Or.inl rfl, List.forall_mem_cons.mpr ⟨Or.inl rfl, List.forall_mem_cons.mpr ⟨Or.inl rfl, fun _ h => absurd h List.not_mem_nil⟩⟩⟩⟩⟩⟩⟩⟩⟩⟩⟩⟩⟩⟩⟩⟩
theorem ww_AO : Cond.arrayOver (.object RX4) ∈ lw_tbl := List.mem_of_getElem? (i := 73) (by decide +kernel)
theorem ww_AD : Cond.arrayOver (.object RX11) ∈ lw_tbl := List.mem_of_getElem? (i := 336) (by decide +kernel)
theorem ww_AU : Cond.arrayOver (.object RX12) ∈ lw_tbl := List.mem_of_getElem? (i := 314) (by decide +kernel)
theorem ww_ini : Cond.initialized Bundle.tN ∈ lw_tbl := List.mem_of_getElem? (i := 47) (by decide +kernel)
theorem ww_lay1 : Cond.laysStatic Bundle.tN "UNASSIGNED_STACK" Bundle.steD ∈ lw_tbl := List.mem_of_getElem? (i := 491) (by decide +kernel)
theorem ww_lay2 : Cond.laysStatic Bundle.tN "SUPPRESSED_SENTINEL" Bundle.listD ∈ lw_tbl := List.mem_of_getElem? (i := 493) (by decide +kernel)
theorem ww_ar_int : Cond.arrayClass .int ∈ lw_tbl := List.mem_of_getElem? (i := 98) (by decide +kernel)
theorem ww_ar_boolean : Cond.arrayClass .boolean ∈ lw_tbl := List.mem_of_getElem? (i := 184) (by decide +kernel)
theorem ww_ar_char : Cond.arrayClass .char ∈ lw_tbl := List.mem_of_getElem? (i := 185) (by decide +kernel)
theorem ww_ref1 : Cond.isRef (.static Bundle.tN "UNASSIGNED_STACK" Bundle.steD) ∈ flatC (Jvm.Cond.and given_1 narrow_1) := List.mem_of_getElem? (i := 9) (by decide +kernel)
theorem ww_ref2 : Cond.isRef (.static Bundle.tN "SUPPRESSED_SENTINEL" Bundle.listD) ∈ flatC (Jvm.Cond.and given_1 narrow_1) := List.mem_of_getElem? (i := 10) (by decide +kernel)
theorem zl_ex : Cond.exactly (.string RL 83) "java/lang/String" ∈ flatC (Jvm.Cond.and given_1 narrow_1) := List.mem_of_getElem? (i := 89) (by decide +kernel)
theorem zl_co : Cond.eq (.field (.string RL 83) "java/lang/String" "coder" "B") (.int 0) ∈ flatC (Jvm.Cond.and given_1 narrow_1) := List.mem_of_getElem? (i := 90) (by decide +kernel)
theorem zl_ar : Cond.arrayOf (.field (.string RL 83) "java/lang/String" "value" "[B") .byte ∈ flatC (Jvm.Cond.and given_1 narrow_1) := List.mem_of_getElem? (i := 91) (by decide +kernel)
theorem zl_le : Cond.eq (.length (.field (.string RL 83) "java/lang/String" "value" "[B")) (.int 5) ∈ flatC (Jvm.Cond.and given_1 narrow_1) := List.mem_of_getElem? (i := 92) (by decide +kernel)
theorem zl_e0 : Cond.eq (.elem (.field (.string RL 83) "java/lang/String" "value" "[B") (.int 0)) (.int 97) ∈ flatC (Jvm.Cond.and given_1 narrow_1) := List.mem_of_getElem? (i := 93) (by decide +kernel)
theorem zl_e1 : Cond.eq (.elem (.field (.string RL 83) "java/lang/String" "value" "[B") (.int 1)) (.int 98) ∈ flatC (Jvm.Cond.and given_1 narrow_1) := List.mem_of_getElem? (i := 94) (by decide +kernel)
theorem zl_e2 : Cond.eq (.elem (.field (.string RL 83) "java/lang/String" "value" "[B") (.int 2)) (.int 32) ∈ flatC (Jvm.Cond.and given_1 narrow_1) := List.mem_of_getElem? (i := 95) (by decide +kernel)
theorem zl_e3 : Cond.eq (.elem (.field (.string RL 83) "java/lang/String" "value" "[B") (.int 3)) (.int 47) ∈ flatC (Jvm.Cond.and given_1 narrow_1) := List.mem_of_getElem? (i := 96) (by decide +kernel)
theorem zl_e4 : Cond.eq (.elem (.field (.string RL 83) "java/lang/String" "value" "[B") (.int 4)) (.int 99) ∈ flatC (Jvm.Cond.and given_1 narrow_1) := List.mem_of_getElem? (i := 97) (by decide +kernel)
theorem zl_cs : Cond.eq (.static "java/lang/String" "COMPACT_STRINGS" "Z") (.int 1) ∈ flatC (Jvm.Cond.and given_1 narrow_1) := List.mem_of_getElem? (i := 4) (by decide +kernel)
theorem zl_sf : Cond.isRef (.static "jdk/internal/util/Preconditions" "SIOOBE_FORMATTER" "Ljava/util/function/BiFunction;") ∈ flatC (Jvm.Cond.and given_1 narrow_1) := List.mem_of_getElem? (i := 5) (by decide +kernel)
theorem zl_lay1 : Cond.laysStatic "java/lang/String" "COMPACT_STRINGS" "Z" ∈ lw_tbl := List.mem_of_getElem? (i := 387) (by decide +kernel)
theorem zl_lay2 : Cond.laysStatic "jdk/internal/util/Preconditions" "SIOOBE_FORMATTER" "Ljava/util/function/BiFunction;" ∈ lw_tbl := List.mem_of_getElem? (i := 395) (by decide +kernel)
theorem zl_ini1 : Cond.initialized "java/lang/String" ∈ lw_tbl := List.mem_of_getElem? (i := 42) (by decide +kernel)
theorem zl_ini2 : Cond.initialized "jdk/internal/util/Preconditions" ∈ lw_tbl := List.mem_of_getElem? (i := 44) (by decide +kernel)
theorem arr_entry {args : Array Value} {s : State} {t : FieldType} (hne : ∀ C, t ≠ .object C) (h : (Cond.arrayClass t).before args s = true) : ∃ cA : ClassId, ArrOfT s cA t ∧ va_RA s cA t := by
  obtain ⟨cA, k, comp, h1, h2, h3⟩ := Cond.arrayClass_spec h
  refine ⟨cA, fun n z => ⟨fun k h => (by cases h), k, h2, comp, h3⟩, ?_⟩
  cases t <;> first | exact absurd rfl (hne _) | exact h1
theorem arrq_entry {args : Array Value} {s : State} {C : String} (h : (Cond.arrayOver (.object C)).before args s = true) : ∃ cA : ClassId, ArrOfT s cA (.object C) ∧ va_RA s cA (.object C) := by
  obtain ⟨comp, cA, k, h1, h2, h3, h4, h5⟩ := Cond.arrayOver_spec h
  exact ⟨cA, fun n z => ⟨fun k h => (by cases h), k, h3, comp, h4⟩, k, comp, h3, h4, h1, h5⟩
theorem K_entry {args : Array Value} {s : State} (hts : ∀ w ∈ lw_tbl, w.before args s = true) : ∃ (dC : Nat → ClassId) (dI : Nat → Nat → Nat) (dA : Nat → ClassId), va_K (dC, dI) vwc (tysOf dA) s := by
  have h0 : ∀ w ∈ L0, w.before args s = true := fun w hw => hts w (List.mem_filter.mp hw).1
  have hc : ∀ ci : Nat, ∃ (cC : ClassId) (iS : Nat → Nat), ci < 13 → u_Kn s (cnm ci) (ctb ci) (cfn ci) cC iS := fun ci => by
    by_cases q : ci < 13
    · have hi : Cond.instantiable (cnm ci) (cfn ci) ∈ L0 := by
        rcases (show ci = 0 ∨ ci = 1 ∨ ci = 2 ∨ ci = 3 ∨ ci = 4 ∨ ci = 5 ∨ ci = 6 ∨ ci = 7 ∨ ci = 8 ∨ ci = 9 ∨ ci = 10 ∨ ci = 11 ∨ ci = 12 by omega) with rfl | rfl | rfl | rfl | rfl | rfl | rfl | rfl | rfl | rfl | rfl | rfl | rfl
        · exact ins_0
        · exact ins_1
        · exact ins_2
        · exact ins_3
        · exact ins_4
        · exact ins_5
        · exact ins_6
        · exact ins_7
        · exact ins_8
        · exact ins_9
        · exact ins_10
        · exact ins_11
        · exact ins_12
      obtain ⟨cC, iS, h⟩ := u_known (C := cnm ci) (T := ctb ci) (N := cfn ci) (n := cfn ci) h0 (uw_all ci q) (h0 _ hi)
      exact ⟨cC, iS, fun _ => h⟩
    · exact ⟨0, fun _ => 0, fun h => absurd h q⟩
  let dC : Nat → ClassId := fun ci => (hc ci).choose
  let dI : Nat → Nat → Nat := fun ci => (hc ci).choose_spec.choose
  have hd : ∀ ci, ci < 13 → u_Kn s (cnm ci) (ctb ci) (cfn ci) (dC ci) (dI ci) := fun ci => (hc ci).choose_spec.choose_spec
  obtain ⟨a0, b0⟩ := arr_entry (t := .int) (fun C h => by cases h) (hts _ ww_ar_int)
  obtain ⟨a1, b1⟩ := arr_entry (t := .boolean) (fun C h => by cases h) (hts _ ww_ar_boolean)
  obtain ⟨a2, b2⟩ := arr_entry (t := .char) (fun C h => by cases h) (hts _ ww_ar_char)
  obtain ⟨a3, b3⟩ := arrq_entry (C := RX12) (hts _ ww_AU)
  obtain ⟨a4, b4⟩ := arrq_entry (C := RX11) (hts _ ww_AD)
  obtain ⟨a5, b5⟩ := arrq_entry (C := RX4) (hts _ ww_AO)
  refine ⟨dC, dI, fun k => [a0, a1, a2, a3, a4, a5].getD k 0, fun c q h => ?_, fun k q h => ?_⟩
  · have hl : c < 13 := by
      have h1 := (List.getElem?_eq_some_iff.mp h).1
      exact h1
    rw [vwc_at c hl] at h
    cases h
    exact hd c hl
  · have hl : k < 6 := (List.getElem?_eq_some_iff.mp h).1
    rcases (show k = 0 ∨ k = 1 ∨ k = 2 ∨ k = 3 ∨ k = 4 ∨ k = 5 by omega) with rfl | rfl | rfl | rfl | rfl | rfl
    · cases h; exact b0
    · cases h; exact b1
    · cases h; exact b2
    · cases h; exact b3
    · cases h; exact b4
    · cases h; exact b5
theorem XW_entry {args : Array Value} {s : State} (hts : ∀ w ∈ lw_tbl, w.before args s = true) (hg : ∀ w ∈ flatC (Jvm.Cond.and given_1 narrow_1), w.before args s = true) {c9 cL : ClassId} (h9 : s.vm.findClass RX9 = some c9) (hL : s.vm.findClass RL = some cL) : XW s := by
  refine ⟨fun q hq => va_Nw.of rfl (hts _ (xm_ok q hq)), fun q hq => va_Nw.of rfl (hts _ (xf_ok q hq)), fun q hq => va_Nw.of rfl (hts _ (xd_ok q hq)), fun q hq => va_Nw.of rfl (hts _ (xc_ok q hq)), fun q hq => ?_, fun q hq => va_Nc.of (hg _ (xn_ok q hq)), va_AO.of (hts _ ww_AO), va_AO.of (hts _ ww_AD), va_AO.of (hts _ ww_AU)⟩
  have h1 := hts _ (xs_ok q hq)
  obtain ⟨c0, ho⟩ : ∃ c0, s.vm.findClass q.1 = some c0 := by
    rcases xs_own q hq with e | e
    · rw [e]; exact ⟨_, h9⟩
    · rw [e]; exact ⟨_, hL⟩
  obtain ⟨k, cf, i, a, -, -, -, -, -, he⟩ := Cond.stringRef_spec ho h1
  exact ⟨a, vk_R.of h1 he⟩
theorem ZL_entry {args : Array Value} {s : State} (hts : ∀ w ∈ lw_tbl, w.before args s = true) (hg : ∀ w ∈ flatC (Jvm.Cond.and given_1 narrow_1), w.before args s = true) {cL : ClassId} (hL : s.vm.findClass RL = some cL) : ZL (fun q : Nat => s.heap.size ≤ q) s s.heap := by
  have hA : ∀ a : Nat, a < s.heap.size → ¬ s.heap.size ≤ a := fun a h z => absurd h (Nat.not_lt.mpr z)
  have h1 := hts _ (xs_ok (RL, 83, "ab /c") List.mem_cons_self)
  obtain ⟨adK, adV, hE, hK⟩ := vk_Sof (args := args) (s := s) (N := 1) (tm := fun _ => .string RL 83) (len := [5]) (byt := [[97, 98, 32, 47, 99]]) (A := fun q : Nat => s.heap.size ≤ q) (fun i hi => by
      have e : i = 0 := by omega
      subst e
      decide) (fun i hi => hg _ zl_ex) (fun i hi => hg _ zl_co) (fun i hi => hg _ zl_ar) (fun i hi => by
      have e : i = 0 := by omega
      subst e
      exact hg _ zl_le) (fun i hi j hj => by
      have e : i = 0 := by omega
      subst e
      have hj : j < 5 := hj
      rcases (show j = 0 ∨ j = 1 ∨ j = 2 ∨ j = 3 ∨ j = 4 by omega) with e | e | e | e | e <;> subst e
      · exact hg _ zl_e0
      · exact hg _ zl_e1
      · exact hg _ zl_e2
      · exact hg _ zl_e3
      · exact hg _ zl_e4) (fun i j hi hj hij => absurd (show i = j by omega) hij) hA
  refine ⟨⟨adK 0, adV 0, vk_R.of h1 (hK 0 (by decide)), ⟨fun i hi => ?_, fun i j hi hj _ => by omega⟩⟩, va_Zof (hts _ zl_lay1) (hts _ zl_ini1) (va_eqt (hg _ zl_cs)) hA, va_Zqof (hts _ zl_lay2) (hts _ zl_ini2) (hg _ zl_sf) hA⟩
  have e : i = 0 := by omega
  subst e
  exact hE.1 0 hi
theorem ZW_entry {args : Array Value} {s : State} (hts : ∀ w ∈ lw_tbl, w.before args s = true) (hg : ∀ w ∈ flatC (Jvm.Cond.and given_1 narrow_1), w.before args s = true) {cL : ClassId} (hL : s.vm.findClass RL = some cL) : ZW (fun q : Nat => s.heap.size ≤ q) s s.heap :=
  ⟨vx_Zqof (hts _ ww_lay1) (hts _ ww_ini) (hg _ ww_ref1) (fun a h z => absurd h (Nat.not_lt.mpr z)), vx_Zqof (hts _ ww_lay2) (hts _ ww_ini) (hg _ ww_ref2) (fun a h z => absurd h (Nat.not_lt.mpr z)), ZL_entry hts hg hL⟩
end Entry
