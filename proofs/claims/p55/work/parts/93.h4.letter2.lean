/-! The letter drawn. -/
section Letter2
variable {p : Program} {l : Launch} {e : Env} {R : Room} {s : State} {mid : MethodId} {args : Array Value} {below : List Frame} {meth : Method} {c : Code} {H : Heap} {locs : List Loc} {N0 q v d d' pc n ix : Nat} {m m' : MI} {o : Option Value} {LS : Array Slot} {rest : List Value} {Q : State → Prop}
theorem jcalV {av : List Value} (h : JF d m p l R s mid args meth c N0 q v) (hc : JCon d' m' (.ref q :: av) o q v) (hcls : m'.1.cls = "java/lang/String") (hd' : d' < d) (hk : Cond.methodLink m.1.cls ix m'.1 ∈ L0) (hm : MV' m' n) (hh : m'.2.2.2.2.1 = []) (hm40 : m'.2.2.1 ≤ 21) (hn : av.length = n) (hdg : decode m.2.1 pc = .ok (.invokevirtual ix, 3)) (hS : va_S (fun z : Nat => N0 ≤ z) s.heap H locs) (hsz : LS.size = m.2.2.1) (hsum : (rest.map fun w => w.category).sum ≤ 8)
    (K : ∀ (H' : Heap) (locs' : List Loc), va_S (fun z : Nat => N0 ≤ z) s.heap H' locs' → W p l e R s mid args below meth c H' locs' 0 0 Q (F0 mid (pc + 3) LS (o.toList ++ rest))) : W p l e R s mid args below meth c H locs 0 0 Q (F0 mid pc LS (av.reverse ++ .ref q :: rest)) := by
  obtain ⟨hx, hb, hml, hown, hts, hlk, hrt, hN, hZ, hE, hR⟩ := id h
  obtain ⟨⟨w1, w2, w3, w4, w5⟩, w6, w7⟩ := hm
  have hrm : ∀ _ : Nat, m'.2.2.1 ≤ 21 → (rmOf d' 0 0).frames + 1 ≤ R.frames ∧ 8 + (m'.2.2.1 + 11) + (rmOf d' 0 0).locals ≤ R.locals := by
    intro _ h9; rw [hR]; show d' + 4 + 1 ≤ d + 4 ∧ 8 + (m'.2.2.1 + 11) + (40 * d' + 124) ≤ 40 * d + 124; omega
  have fix : CallFix p mid c m.2.1 m.2.2.1 s args L0 m.1.cls := ⟨hx, hb, hml, hown, hts⟩
  have hW : 2 * (F0 mid pc LS (av.reverse ++ .ref q :: rest)).monitorRoom + (rest.map fun v => v.category).sum ≤ 8 := lv_room hsum
  have hrc : ∃ cell : Cell, H[q]? = some cell ∧ cell.vm.isStatics = false ∧ s.vm.findClass m'.1.cls = some cell.cls := by
    rw [hcls]
    exact vk_recv hE (show 0 < 1 by decide) hS
  have hr := vx_runV (e := e) (below := below) (locs := locs) (meth := meth) (As := av) (b := q) (C := m'.1.cls) (n := n) fix (hc l N0) ⟨callB_of n hts (gin ⟨w1, w2, w3, w4, w5⟩) (wsM0 hh) rfl rfl (hts _ w1) (hts _ hk) ⟨w3.1, w3.2, w4⟩ (hrm 0 hm40), hts _ w6, hts _ w7⟩ ⟨JP.blind, hrc, h.pre hS⟩ (H := H) (cells := 0) (slots := 0) (g := F0 mid pc LS (av.reverse ++ .ref q :: rest)) (rest := rest) rfl hn hsz rfl hW hdg ⟨Nat.zero_le _, Nat.zero_le _⟩
  exact jrun hS hr K
theorem mv_jl : MV' m_jl 0 := ⟨mb_jl, inL 383 (by decide +kernel) (by decide +kernel), inL 384 (by decide +kernel) (by decide +kernel)⟩
theorem mv_js : MV' m_js 1 := ⟨mb_js, inL 379 (by decide +kernel) (by decide +kernel), inL 380 (by decide +kernel) (by decide +kernel)⟩
theorem con_js {k : Nat} (hk : k < 5) : JCon 3 m_js [.ref q, .int (nI k)] (some (.int (chr k))) q v := by
  refine jcon_of mb_js rfl (Nat.le_of_ble_eq_true rfl) (fun p l e R s mid args below meth c N0 LS h hL => ?_)
  obtain ⟨hx, hb, hml, hown, hts, hlk, hrt, hN, hZ, hE, hR⟩ := id h
  have h0 : LS[0]? = some (.val (.ref q)) := hL.2.2 (0, _) List.mem_cons_self
  have h1 : LS[1]? = some (.val (.int (nI k))) := hL.2.2 (1, _) (List.mem_cons_of_mem _ List.mem_cons_self)
  have hV := (hE.1 0 (by decide)).2.2.1
  refine lv_aload_n hx hb (k := 0) (i := 0) (by decide +kernel) rfl h0 ?_
  refine jcalV (av := []) (rest := []) h con_jl rfl (by decide) (ix := 492) (inL 382 (by decide +kernel) (by decide +kernel)) mv_jl rfl (by decide) rfl (by decide +kernel) va_S.rf hL.1 (by decide) (fun H' locs' hS => ?_)
  refine lv_if_eq hx hb (off := 12) (tgt := 16) (by decide +kernel) (by decide) (fun z => absurd z (by decide)) (fun _ => ?_)
  refine lv_aload_n hx hb (k := 0) (i := 0) (by decide +kernel) rfl h0 ?_
  refine vk_getf hx hb hV hS hown (hts _ (inL 1153 (by decide +kernel) (by decide +kernel))) (fun x h => h) (index := 9) (by decide +kernel) ?_
  refine lv_iload_n hx hb (k := 1) (i := 1) (by decide +kernel) rfl h1 ?_
  refine jcalS (av := [.ref v, .int (nI k)]) (rest := []) h (con_jc hk) (by decide) (ix := 495) (inL 388 (by decide +kernel) (by decide +kernel)) ⟨mb_jc, inL 389 (by decide +kernel) (by decide +kernel)⟩ rfl (by decide) rfl (by decide +kernel) hS hL.1 (by decide) (fun H2 locs2 hS2 => ?_)
  exact jret h hS2 (ty := .char) rfl (chr_ok k hk).2 (Or.inr (Or.inr rfl)) (by decide +kernel)
theorem chr_let : ∀ k : Nat, k < 5 → chr k = Int32.ofInt (letC k) := by decide
set_option maxHeartbeats 1000000 in
theorem letR : LetR := by
  intro b ls w σ out hls K p l e R s mid args below meth c Q dC dI dA N0 bs ρ0 c0 X hS hF H locs cells slots ρ LS hD hL ho
  obtain ⟨hx, hb, hml, hown, hts, hlk, hst, hK, hN, hXW, hZW, hRf, hRl, hnm, htb, hX⟩ := id hS
  obtain ⟨⟨q, v, hR9, hE⟩, hZ2, hZ3⟩ := id hZW.2.2
  have h2 : LS[2]? = some (.val (.int (Int32.ofInt w))) := hL.get hls rfl
  have lw := lowF_lt (v := shr w 14) (n := 5) (by decide)
  obtain ⟨k, hk⟩ := Int.eq_ofNat_of_zero_le lw.1
  have hk5 : k < 5 := by omega
  have fix : CallFix p mid c mL_acts.2.1 mL_acts.2.2.1 s args L0 mL_acts.1.cls := ⟨hx, hb, hml, hown, hts⟩
  have part2 : ∀ (H' : Heap) (locs' : List Loc) (ρ' : Nat → Nat), Dyn R s dC dI dA N0 ρ0 c0 b H' locs' cells slots ρ' σ → FrR bs mL_acts.2.2.1 ρ' X σ.2.2 LS ls → W p l e R s mid args below meth c H' locs' cells slots Q (F0 mid 81 LS [.int (nI k), .ref q]) := by
    intro H' locs' ρ' hD' hL'
    obtain ⟨⟨hP1, hP2, hP3⟩, hSS, he, hc, h5, h6⟩ := id hD'
    obtain ⟨⟨w1, w2, w3, w4, w5⟩, w6, w7⟩ := mv_js
    have hNH : N0 ≤ H'.size := Nat.le_trans hN hSS.1
    have hrm : (rmOf 3 0 0).frames + 1 ≤ R.frames ∧ 8 + (m_js.2.2.1 + 11) + (rmOf 3 0 0).locals ≤ R.locals := by
      show 3 + 4 + 1 ≤ _ ∧ 8 + (2 + 11) + (40 * 3 + 124) ≤ _
      omega
    have hrc : ∃ cell : Cell, H'[q]? = some cell ∧ cell.vm.isStatics = false ∧ s.vm.findClass m_js.1.cls = some cell.cls := vk_recv hE (show 0 < 1 by decide) hSS
    have hpre : ∀ U : State, U.heap = H' → s.WarmedH U.vm → JP q v H'.size [.ref q, .int (nI k)] ([.ref q, .int (nI k)] : List Value).toArray U := fun U hU hW => by
      have z1 := ZL.to (H := H') (Or.inl hW) hZW.2.2 hSS.2.1
      obtain ⟨⟨q1, v1, a1, a2⟩, a3, a4⟩ := z1
      have nar : ∀ z : Nat, H'.size ≤ z → N0 ≤ z := fun z hz => Nat.le_trans hNH hz
      refine ⟨rfl, by rw [hU]; exact Nat.le_refl _, ?_, ?_⟩
      · rw [hU]
        exact ⟨⟨q1, v1, a1, vk_S.narrow a2 nar⟩, a3.narrow nar, a4.narrow nar⟩
      · exact vk_S.narrow (ST.to hSS hE hU hW) nar
    have hr := vx_runV (e := e) (below := below) (locs := locs') (meth := meth) (H := H') (cells := cells) (slots := slots) (As := [.int (nI k)]) (b := q) (C := m_js.1.cls) (n := 1) (g := F0 mid 81 LS [.int (nI k), .ref q]) (rest := []) fix (con_js (q := q) (v := v) hk5 l H'.size) ⟨callB_of 1 hts (gin ⟨w1, w2, w3, w4, w5⟩) (wsM0 rfl) rfl rfl (hts _ w1) (hts _ (inL 378 (by decide +kernel) (by decide +kernel))) ⟨w3.1, w3.2, w4⟩ hrm, hts _ w6, hts _ w7⟩ ⟨JP.blind, hrc, hpre⟩ rfl rfl hL'.size rfl (lv_room (Nat.le_of_ble_eq_true rfl)) (at_of tL_acts 2 12 rfl) ⟨by omega, by omega⟩
    intro T hT X9
    rcases hr T hT X9 with ⟨u, st₀, t, T', L, h0, X', hLL, e1, e2, ⟨hv, hFF⟩, hg⟩ | ⟨q2, st₀, t, T', L, E, ce, h0, X', hLL, e1, e2, hf, -⟩
    · cases hv
      obtain ⟨k1, k2, k3⟩ := vx_keep h0 e1 hSS (A1 := fun z : Nat => H'.size ≤ z) (fun z _ hz => Nat.le_trans hNH hz) (free := fun z : Nat => H'.size ≤ z) (fun z hz => Nat.le_trans hNH hz) hLL hFF
      have hD2 : Dyn R s dC dI dA N0 ρ0 c0 b T'.heap (locs' ++ L) cells slots ρ' σ := ⟨⟨hP1.kept (fun j x hx => k2 _ (hP1 j x hx).lt (Nat.not_le.mpr (hP1 j x hx).lt)), hP2, hP3⟩, k3, he, hc, h5, h6⟩
      have e9 : Int32.ofInt (letC (lowF (shr w 14) 5)) = chr k := by rw [hk]; exact (chr_let k hk5).symm
      have kk := K p l e R s mid args below meth c Q dC dI dA N0 bs ρ0 c0 X hS hF T'.heap (locs' ++ L) cells slots ρ' LS hD2 hL' (okc (by have := letC_ok (i := lowF (shr w 14) 5); show in32 _; unfold in32; omega) (fun _ h => absurd h List.not_mem_nil))
      have kk2 : W p l e R s mid args below meth c T'.heap (locs' ++ L) cells slots Q (F0 mid 84 LS [.int (Int32.ofInt (letC (lowF (shr w 14) 5)))]) := kk
      rw [e9] at kk2
      obtain ⟨t2, a1, b1⟩ := kk2 T' rfl X'
      exact ⟨t2, hg t2 a1, b1⟩
    · exact hf.elim
  show W p l e R s mid args below meth c H locs cells slots Q (F0 mid 71 LS [])
  refine va_ldcS hx hb hown hR9 (at_of tL_acts 2 6 rfl) ?_
  refine lv_iload_n hx hb (k := 2) (i := 2) (at_of tL_acts 2 7 rfl) rfl h2 ?_
  refine lv_bipush hx hb (n := 14) (v := 14) (at_of tL_acts 2 8 rfl) (by decide) ?_
  refine lv_ishr hx hb (at_of tL_acts 2 9 rfl) ?_
  refine lv_iconst hx hb (n := 5) (v := 5) (at_of tL_acts 2 10 rfl) (by decide) ?_
  have e8 : Int32.ofInt w >>> ((14 : Int32) &&& 31) = Int32.ofInt (shr w 14) := (Int32.ofInt_toInt _).symm
  rw [e8]
  obtain ⟨hl, ⟨⟨w1, w2, w3, w4, w5⟩, w6⟩, hh, hm40⟩ := lk_L_40
  have hrm : (rmOf 0 0 0).frames + 1 ≤ R.frames ∧ 8 + (mL_low.2.2.1 + 11) + (rmOf 0 0 0).locals ≤ R.locals := by
    show 0 + 4 + 1 ≤ _ ∧ 8 + (mL_low.2.2.1 + 11) + (40 * 0 + 124) ≤ _
    omega
  have hoa : ∀ x ∈ ([vI (shr w 14), vI 5] : List MV), okv σ.2.2 noX x := fun x hx => by
    rcases List.mem_cons.mp hx with rfl | hx
    · exact shr_ok
    · rw [List.mem_singleton.mp hx]
      show in32 5
      unfold in32; omega
  have hM := con_low (σ := σ) (v := shr w 14) (n := 5) (by decide) hoa l hst dC dI dA N0 ρ
  have hr := vx_runS (e := e) (below := below) (locs := locs) (meth := meth) (H := H) (cells := cells) (slots := slots) (As := [.int (Int32.ofInt (shr w 14)), .int 5]) (n := 2) (g := F0 mid 78 LS [.int 5, .int (Int32.ofInt (shr w 14)), .ref q]) (rest := [.ref q]) fix hM ⟨callB_of 2 hts (gin ⟨w1, w2, w3, w4, w5⟩) (wsM0 hh) rfl rfl (hts _ w1) (hts _ hl) ⟨w3.1, w3.2, w4⟩ hrm, hts _ w6⟩ ⟨UW.blind, fun U hU hW => ⟨rfl, UW.of hS hD hU hW⟩⟩ rfl rfl hL.size rfl (lv_room (Nat.le_of_ble_eq_true rfl)) (at_of tL_acts 2 11 rfl) ⟨by have := hD.2.2.2.2.1; omega, by have := hD.2.2.2.2.2; omega⟩
  intro T hT X9
  rcases hr T hT X9 with ⟨u, st₀, t, T', L, h0, X', hLL, e1, e2, ⟨ρ', hv, -, hok, he, hc, hH, hFF⟩, hg⟩ | ⟨q2, st₀, t, T', L, E, ce, h0, X', hLL, e1, e2, ⟨ρ', i, hi, -⟩, -⟩
  · cases hv
    have hD' := run_dyn (mc := 0) (ms := 0) hD ⟨Nat.zero_le _, Nat.zero_le _⟩ h0 e1 hLL hFF he hc hH
    have e9 : Int32.ofInt (lowF (shr w 14) 5) = nI k := by rw [hk]; exact Int32.ofInt_eq_ofNat
    have kk := part2 T'.heap (locs ++ L) ρ' hD' (hL.ext he hc)
    rw [← e9] at kk
    obtain ⟨t2, a1, b1⟩ := kk T' rfl X'
    exact ⟨t2, hg t2 a1, b1⟩
  · cases hi
end Letter2
