/-! The script is read. -/
section Script
variable {xs : Nat → Int} {d : Nat} {m m' : MI} {b : Nat × Nat} {pc : Nat} {ls st : List MV} {σ : St} {out : MV × St}
/-- what a frame knows of the script -/
def SW (xs : Nat → Int) (X : Int → Prop) (bs N0 : Nat) (U : State) (H : Heap) : Prop := ∀ z : Int, X z → 0 ≤ z ∧ z < 2147483648 ∧ va_X bs z.toNat (fun j => Int32.ofInt (xs j)) U H ∧ bs < H.size ∧ bs < N0 ∧ ∀ j, in32 (xs j)
/-- a contract of a method that is given the script, makes nothing and gives a number -/
def ConS (xs : Nat → Int) (d : Nat) (m : MI) (as : List MV) (w : Int) (σ : St) : Prop :=
  ∀ (X : Int → Prop) (bs : Nat), (∀ v ∈ as, okv σ.2.2 X v) → ∀ (l : Launch), l.stackTraces = false → ∀ (dC : Nat → ClassId) (dI : Nat → Nat → Nat) (dA : Nat → ClassId) (N0 : Nat) (ρ : Nat → Nat),
    vx_Met l m.1 (wsM m) (rmOf d 0 0) (fun a U => a = (as.map (vr ρ bs)).toArray ∧ UW dC dI dA N0 ρ σ U ∧ SW xs X bs N0 U U.heap)
      (fun _ st o t => QC dC dI dA N0 ρ σ (vI w, σ) st o t) (fun E st t => QX dC dI dA N0 ρ σ (vI w, σ) E st t) 0 0 (fun q : Nat => N0 ≤ q)
set_option maxHeartbeats 1000000 in
theorem finS_of {w : Int} {p : Program} {l : Launch} {e : Env} {R : Room} {s : State} {mid : MethodId} {args : Array Value} {below : List Frame} {meth : Method} {c : Code} {dC : Nat → ClassId} {dI : Nat → Nat → Nat} {dA : Nat → ClassId} {N0 bs : Nat} {ρ0 : Nat → Nat} {X : Int → Prop}
    (hS : Sta xs d m p l R s mid args meth c dC dI dA N0 bs X) (hR : R.cells = 0 ∧ R.slots = 0) (hr : meth.sig.returnType = m.2.2.2.1) (hre : retOK m.2.2.2.1 (vI w)) :
    FinC m p l e R s mid args below meth c (vx_MQ below (fun _ st o t => QC dC dI dA N0 ρ0 σ (vI w, σ) st o t) (fun E st t => QX dC dI dA N0 ρ0 σ (vI w, σ) E st t) args s 0 0 (fun q : Nat => N0 ≤ q)) dC dI dA N0 bs ρ0 σ.2.2 X (vI w, σ) := by
  obtain ⟨hx, hb, hml, hown, hts, hlk, hst, hK, hN, hXW, hZW, hRf, hRl, hnm, htb, hX⟩ := id hS
  obtain ⟨hR1, hR2⟩ := hR
  refine ⟨?_, ?_, ?_⟩
  rotate_left
  · intro H locs cells slots ρ LS pc i st hi
    cases hi
  · intro H locs cells slots ρ LS pc i st q ce hi
    cases hi
  intro H locs cells slots ρ LS pc hD hsz hd hok h20
  obtain ⟨hH, hSS, he, hc, h5, h6⟩ := hD
  have q1 : cells ≤ 0 := by rw [← hR1]; exact h5
  have q2 : slots ≤ 0 := by rw [← hR2]; exact h6
  have hQ : ∀ t : State, t.heap = H → s.WarmedH t.vm → QC dC dI dA N0 ρ0 σ (vI w, σ) s (.returned (rv ρ (vI w))) t :=
    fun t ht hW => ⟨ρ, rfl, (fun i hi => by cases hi), hok, he, hc, by rw [ht]; exact hH, hSS.F ht⟩
  refine W.widen (k := 0) (n := 0) q1 q2 (vx_ret ?_)
  rcases retOK_i hre with h | ⟨h, h2⟩ | ⟨h, h2⟩
  · exact W.zret (ty := .int) hx hb (hr.trans h) rfl hQ hSS.2.2 hd hlk
  · exact W.zret (ty := .boolean) hx hb (hr.trans h) (by rcases h2 with rfl | rfl <;> rfl) hQ hSS.2.2 hd hlk
  · obtain ⟨n9, rfl⟩ := Int.eq_ofNat_of_zero_le h2.1
    exact W.zret (ty := .char) hx hb (hr.trans h) (by rw [show Int32.ofInt (n9 : Int) = nI n9 from Int32.ofInt_eq_ofNat]; exact (pk_charN (by have := h2.2; omega)).1) hQ hSS.2.2 hd hlk
set_option maxHeartbeats 1000000 in
theorem conS_of_go {as : List MV} {w : Int} {n : Nat} (hmb : MB m n) (hre : retOK m.2.2.2.1 (vI w)) (hlen : (mloc as).length ≤ m.2.2.1) (hlv : as.all live = true) (hh : m.2.2.2.2.1 = [])
    (h : Go xs d m (0, 0) 0 (mlocs as m.2.2.1) [] σ (vI w, σ)) : ConS xs d m as w σ := by
  intro X bs hoa l hst dC dI dA N0 ρ
  have body : ∀ (p : Program) (e : Env) (s : State) (mid : MethodId) (args : Array Value) (below : List Frame) (meth : Method) (c : Code) (s₁ : State), BodyLoose p l m.1 (headSpec (wsM m) (rmOf d 0 0)) m.2.1 m.2.2.1 m.2.2.2.1 e s mid args below meth c s₁ → c.maxLocals = m.2.2.1 → c.exceptionTable.toList = tableOf m.2.2.2.2.1 →
      (args = (as.map (vr ρ bs)).toArray ∧ UW dC dI dA N0 ρ σ s ∧ SW xs X bs N0 s s.heap) → W p l e (headSpec (wsM m) (rmOf d 0 0)).room s mid args below meth c s.heap [] 0 0 (vx_MQ below (fun _ st o t => QC dC dI dA N0 ρ σ (vI w, σ) st o t) (fun E st t => QX dC dI dA N0 ρ σ (vI w, σ) E st t) args s 0 0 (fun q : Nat => N0 ≤ q)) (entryFrame mid args m.2.2.1) := by
    intro p e s mid args below meth c s₁ B hml htb ⟨ha, ⟨hN, hH, hK, hXW, hZW⟩, hSW⟩
    subst ha
    have hts := atoms_spec (ws := wsM m) B.pre
    have hown : s.vm.findClass m.1.cls = some mid.cls := findClass_of_methodNamed B.named
    have hS : Sta xs d m p l (rmOf d 0 0) s mid (as.map (vr ρ bs)).toArray meth c dC dI dA N0 bs X :=
      ⟨B.exec, B.bytes, hml, hown, fun w hw => hts w (List.mem_cons_of_mem _ hw), B.notSynchronized, hst, hK, hN, hXW, hZW, Nat.le_refl _, Nat.le_refl _, (name_of_methodNamed B.named B.method).1, htb, hSW⟩
    have hl := lv_entry (as.map (vr ρ bs)) (n := m.2.2.1) (by rw [mloc_len]; exact hlen)
    rw [lg_entry_eq]
    refine h p l e (rmOf d 0 0) s mid _ below meth c _ dC dI dA N0 bs ρ σ.2.2 X hS (finS_of hS ⟨rfl, rfl⟩ B.returns hre) s.heap [] 0 0 ρ _ ⟨hH, va_S.rf, fun _ _ => rfl, Nat.le_refl _, by show 0 + 0 ≤ 0; omega, by show 0 + 0 ≤ 0; omega⟩ ⟨?_, ?_, ?_⟩ (fun _ h => absurd h List.not_mem_nil)
    · unfold mlocs
      rw [lps_args _ _ hlv]
      exact hl
    · unfold mlocs
      rw [List.length_append, List.length_replicate]
      omega
    · intro v hv
      have hml9 : ∀ (as : List MV), (∀ v ∈ as, okv σ.2.2 X v) → ∀ v ∈ mloc as, okv σ.2.2 X v := by
        intro as
        induction as with
        | nil => intro _ v hv; cases hv
        | cons w ws ih =>
          intro hw v hv
          rw [mloc] at hv
          split at hv
          · rcases List.mem_cons.mp hv with rfl | hv
            · exact hw _ List.mem_cons_self
            · rcases List.mem_cons.mp hv with rfl | hv
              · trivial
              · exact ih (fun w h => hw w (List.mem_cons_of_mem _ h)) v hv
          · rcases List.mem_cons.mp hv with rfl | hv
            · exact hw _ List.mem_cons_self
            · exact ih (fun w h => hw w (List.mem_cons_of_mem _ h)) v hv
      rcases List.mem_append.mp hv with hv | hv
      · exact hml9 as hoa v hv
      · rw [List.eq_of_mem_replicate hv]; trivial
  exact vx_ofW (cc := m.2.1) (maxL := m.2.2.1) (ret := m.2.2.2.1) hmb.2.2.2.2 (wsM0 hh) (fun p e s mid args below meth c s₁ B hml ht hP => body p e s mid args below meth c s₁ B hml (by
    rw [hh]
    exact List.eq_nil_iff_forall_not_mem.mpr (fun x hx => ht x hx)) hP)
set_option maxHeartbeats 1000000 in
/-- a call that is given the script -/
theorem go_cSS {d' n ix : Nat} {as stk : List MV} {w : Int} (hc : ConS xs d' m' as w σ) (hlk' : LkS m.1.cls ix m' n) (hn : as.length = n) (hd : At m pc (.invokestatic ix) 3) (hd' : d' < d) (hs : stk = as.reverse ++ st) (hsum : (st.map cat).sum ≤ 8)
    (K : Go xs d m b (pc + 3) ls (vI w :: st) σ out) : Go xs d m b pc ls stk σ out := by
  intro p l e R s mid args below meth c Q dC dI dA N0 bs ρ0 c0 X hS hF H locs cells slots ρ LS hD hL ho
  obtain ⟨hx, hb, hml, hown, hts, hlk, hst, hK, hN, hXW, hZW, hRf, hRl, hnm, htb, hX⟩ := id hS
  have hM := hc X bs (fun v hv => ho v (by rw [hs]; exact List.mem_append_left _ (List.mem_reverse.mpr hv))) l hst dC dI dA N0 ρ
  have hW : 2 * (F0 mid pc LS (stk.map (vr ρ bs))).monitorRoom + ((st.map (vr ρ bs)).map fun v => v.category).sum ≤ 8 := lv_room (by rw [cats]; exact hsum)
  have hf : cells + 0 ≤ R.cells ∧ slots + 0 ≤ R.slots := by obtain ⟨-, -, -, -, h5, h6⟩ := hD; omega
  have hrm : ∀ _ : Nat, m'.2.2.1 ≤ 21 → (rmOf d' 0 0).frames + 1 ≤ R.frames ∧ 8 + (m'.2.2.1 + 11) + (rmOf d' 0 0).locals ≤ R.locals := by
    intro _ h; show d' + 4 + 1 ≤ _ ∧ 8 + (m'.2.2.1 + 11) + (40 * d' + 124) ≤ _; omega
  have hSW : ∀ U : State, U.heap = H → s.WarmedH U.vm → SW xs X bs N0 U U.heap := fun U hU hW z hz => by
    obtain ⟨q1, q2, q3, q4, q5, q6⟩ := hX z hz
    rw [hU]
    exact ⟨q1, q2, (q3.kept (hD.2.1.2.1 bs q4 (Nat.not_le.mpr q5))).moved hW.alike, Nat.lt_of_lt_of_le q4 hD.2.1.1, q5, q6⟩
  have hPc : ∀ U : State, U.heap = H → s.WarmedH U.vm → (fun a U => a = (as.map (vr ρ bs)).toArray ∧ UW dC dI dA N0 ρ σ U ∧ SW xs X bs N0 U U.heap) (as.map (vr ρ bs)).toArray U := fun U hU hW => ⟨rfl, UW.of hS hD hU hW, hSW U hU hW⟩
  have hbl : FrameBlind (fun a U => a = (as.map (vr ρ bs)).toArray ∧ UW dC dI dA N0 ρ σ U ∧ SW xs X bs N0 U U.heap) := by
    intro a U g mk ⟨e, h, hs⟩
    obtain ⟨e2, h2⟩ := UW.blind (as := as.map (vr ρ bs)) a U g mk ⟨e, h⟩
    exact ⟨e2, h2, fun z hz => by
      obtain ⟨q1, q2, q3, q4, q5, q6⟩ := hs z hz
      exact ⟨q1, q2, va_X.moved (u := U) (U := U.calling g mk a) (Vm.Alike.refl U.vm) q3, q4, q5, q6⟩⟩
  have hstk : (stk.map (vr ρ bs)) = (as.map (vr ρ bs)).reverse ++ st.map (vr ρ bs) := by rw [hs, List.map_append, List.map_reverse]
  have fix : CallFix p mid c m.2.1 m.2.2.1 s args L0 m.1.cls := ⟨hx, hb, hml, hown, hts⟩
  obtain ⟨hl, ⟨⟨w1, w2, w3, w4, w5⟩, w6⟩, hh, hm40⟩ := hlk'
  have hr := vx_runS (e := e) (below := below) (locs := locs) (meth := meth) (As := as.map (vr ρ bs)) (n := n) fix hM ⟨callB_of n hts (gin ⟨w1, w2, w3, w4, w5⟩) (wsM0 hh) rfl rfl (hts _ w1) (hts _ hl) ⟨w3.1, w3.2, w4⟩ (hrm 0 hm40), hts _ w6⟩ ⟨hbl, hPc⟩ rfl (by simpa using hn) hL.size hstk hW hd hf
  exact run_ret (mc := 0) (ms := 0) hr (fun i h => by cases h) ⟨Nat.zero_le _, Nat.zero_le _⟩ K hS hF hD hL (fun v hv => ho v (by rw [hs]; exact List.mem_append_right _ hv))
/-- what stands beyond the script -/
def cellV (i : Int) : Int := 40503 * i + 4337
theorem con_cellS {z i : Int} (h0 : 0 ≤ i ∧ i < 1000) : ConS xs 0 mL_cell [vT 6 z, vI i] (if i < z then xs i.toNat else cellV i) σ := by
  refine conS_of_go mfL_cell.1 trivial (Nat.le_of_ble_eq_true rfl) rfl rfl ?_
  unfold cellV
  show Go _ _ _ _ 0 [vT 6 z, vI i] [] _ _
  refine go_iload_n (at_of tL_cell 0 0 rfl) rfl ?_
  refine go_aload_s (at_of tL_cell 0 1 rfl) rfl ?_
  refine go_slen (at_of tL_cell 0 2 rfl) ?_
  refine go_icmp_ge (tgt := 12) (at_of tL_cell 0 3 rfl) (by decide) (fun h3 => ?_) (fun h3 => ?_)
  · refine go_ldcI kcL_7 (by unfold in32; omega) (at_of tL_cell 0 8 rfl) ?_
    refine go_iload_n (at_of tL_cell 0 9 rfl) rfl ?_
    refine go_imul (at_of tL_cell 0 10 rfl) (by unfold in32; omega) ?_
    refine go_sipush (at_of tL_cell 0 11 rfl) (by decide) ?_
    refine go_iadd (at_of tL_cell 0 12 rfl) (by unfold in32; omega) ?_
    first | exact go_reti (at_of tL_cell 0 13 rfl) rfl | exact go_reti (at_of tL_cell 0 13 rfl) (le_i (by omega)) | exact go_reti (at_of tL_cell 0 13 rfl) (le_i (by first | exact bI_t (by omega) | exact bI_f (by omega)))
  · refine go_aload_s (at_of tL_cell 0 4 rfl) rfl ?_
    refine go_iload_n (at_of tL_cell 0 5 rfl) rfl ?_
    refine go_sld (by omega) (by omega) (at_of tL_cell 0 6 rfl) ?_
    refine go_goto (tgt := 20) (at_of tL_cell 0 7 rfl) (by decide) ?_
    first | exact go_reti (at_of tL_cell 0 13 rfl) rfl | exact go_reti (at_of tL_cell 0 13 rfl) (le_i (by omega)) | exact go_reti (at_of tL_cell 0 13 rfl) (le_i (by first | exact bI_t (by omega) | exact bI_f (by omega)))
end Script
