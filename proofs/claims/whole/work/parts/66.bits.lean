/-! Shares and means: the bits that the office works out are those of the number. -/
section Bits
variable {xs : Nat → Int} {d : Nat} {m : MI} {b : Nat × Nat} {pc : Nat} {ls st : List MV} {σ : St} {out : MV × St}
def nmF : MethodName := ⟨"java/lang/Float", "floatToRawIntBits", "(F)I"⟩
def nmD : MethodName := ⟨"java/lang/Double", "doubleToRawLongBits", "(D)J"⟩
theorem natF : Cond.native nmF ∈ L0 ∧ Cond.static nmF ∈ L0 ∧ Cond.initialized "java/lang/Float" ∈ L0 := ⟨inL 2062 (by decide +kernel) (by decide +kernel), inL 2061 (by decide +kernel) (by decide +kernel), inL 123 (by decide +kernel) (by decide +kernel)⟩
theorem natD : Cond.native nmD ∈ L0 ∧ Cond.static nmD ∈ L0 ∧ Cond.initialized "java/lang/Double" ∈ L0 := ⟨inL 2084 (by decide +kernel) (by decide +kernel), inL 2083 (by decide +kernel) (by decide +kernel), inL 124 (by decide +kernel) (by decide +kernel)⟩
theorem in32_toInt (x : Int32) : in32 x.toInt := by have h1 := x.toInt_lt; have h2 := x.le_toInt; unfold in32; omega
theorem in64_toInt (x : Int64) : in64 x.toInt := by have h1 := x.toInt_lt; have h2 := x.le_toInt; unfold in64; omega
theorem go_nf2i {ix : Nat} {x : UInt32} (hl : Cond.methodLink m.1.cls ix nmF ∈ L0) (hd : At m pc (.invokestatic ix) 3) (hsum : (st.map cat).sum ≤ 8) (K : Go xs d m b (pc + 3) ls (vI x.toInt32.toInt :: st) σ out) : Go xs d m b pc ls (vF x :: st) σ out := by
  intro p l e R s mid args below meth c Q dC dI dA N0 bs ρ0 c0 X hS hF H locs cells slots ρ LS hD hL ho
  obtain ⟨hx, hb, hml, hown, hts, hlk, hst, hK, hN, hXW, hZW, hRf, hRl, hnm, htb, hX⟩ := id hS
  rw [List.map_cons, vr_F]
  refine vn_f2i hx hb (hml.trans hL.size.symm) hown (hts _ hl) (hts _ natF.1) (hts _ natF.2.1) (hts _ natF.2.2) (by omega) (by rw [cats]; omega) hd ?_
  have kk := K p l e R s mid args below meth c Q dC dI dA N0 bs ρ0 c0 X hS hF H locs cells slots ρ LS hD hL (okc (show in32 _ from in32_toInt _) (okt ho))
  rw [List.map_cons, show vr ρ bs (vI x.toInt32.toInt) = .int x.toInt32 from congrArg Value.int (Int32.ofInt_toInt _)] at kk
  exact kk
theorem go_nd2l {ix : Nat} {x : UInt64} (hl : Cond.methodLink m.1.cls ix nmD ∈ L0) (hd : At m pc (.invokestatic ix) 3) (hsum : (st.map cat).sum ≤ 8) (K : Go xs d m b (pc + 3) ls (vT 1 x.toInt64.toInt :: st) σ out) : Go xs d m b pc ls (vD x :: st) σ out := by
  intro p l e R s mid args below meth c Q dC dI dA N0 bs ρ0 c0 X hS hF H locs cells slots ρ LS hD hL ho
  obtain ⟨hx, hb, hml, hown, hts, hlk, hst, hK, hN, hXW, hZW, hRf, hRl, hnm, htb, hX⟩ := id hS
  rw [List.map_cons, vr_D]
  refine vn_d2l hx hb (hml.trans hL.size.symm) hown (hts _ hl) (hts _ natD.1) (hts _ natD.2.1) (hts _ natD.2.2) (by omega) (by rw [cats]; omega) hd ?_
  have kk := K p l e R s mid args below meth c Q dC dI dA N0 bs ρ0 c0 X hS hF H locs cells slots ρ LS hD hL (okc (show in64 _ from in64_toInt _) (okt ho))
  rw [List.map_cons, show vr ρ bs (vT 1 x.toInt64.toInt) = .long x.toInt64 from congrArg Value.long (Int64.ofInt_toInt _)] at kk
  exact kk
theorem go_ldcF {ix : Nat} {x : UInt32} (hl : Cond.constantFloat m.1.cls ix x ∈ L0) (hd : At m pc (.ldc_w ix) 3) (K : Go xs d m b (pc + 3) ls (vF x :: st) σ out) : Go xs d m b pc ls st σ out := by
  intro p l e R s mid args below meth c Q dC dI dA N0 bs ρ0 c0 X hS hF H locs cells slots ρ LS hD hL ho
  obtain ⟨hx, hb, hml, hown, hts, hlk, hst, hK, hN, hXW, hZW, hRf, hRl, hnm, htb, hX⟩ := id hS
  have kk := K p l e R s mid args below meth c Q dC dI dA N0 bs ρ0 c0 X hS hF H locs cells slots ρ LS hD hL (okc (ok_F _) ho)
  rw [List.map_cons, vr_F] at kk
  intro T0 hT X0
  obtain ⟨t, a, b⟩ := kk T0 hT X0
  obtain ⟨k, cf, hk, hcf, hcp⟩ := Cond.constantFloat_spec hown (hts _ hl)
  obtain ⟨k', hk', he⟩ := X0.warmed.alike.2.2 _ _ hk
  have hd2 : decode c.code (F0 mid pc LS (st.map (vr ρ bs))).pc = .ok (.ldc_w ix, 3) := by rw [hb]; exact hd
  refine ⟨t, ?_, b⟩
  jvm_step X0.here [hx, hd2, ldc_w.wp_float (s := T0) (f := F0 mid pc LS (st.map (vr ρ bs))) X0.here.top hk' (by rw [he]; exact hcf) hcp]
  exact a
theorem go_ldcD {ix : Nat} {x : UInt64} (hl : Cond.constantDouble m.1.cls ix x ∈ L0) (hd : At m pc (.ldc2_w ix) 3) (K : Go xs d m b (pc + 3) ls (vD x :: st) σ out) : Go xs d m b pc ls st σ out := by
  intro p l e R s mid args below meth c Q dC dI dA N0 bs ρ0 c0 X hS hF H locs cells slots ρ LS hD hL ho
  obtain ⟨hx, hb, hml, hown, hts, hlk, hst, hK, hN, hXW, hZW, hRf, hRl, hnm, htb, hX⟩ := id hS
  have kk := K p l e R s mid args below meth c Q dC dI dA N0 bs ρ0 c0 X hS hF H locs cells slots ρ LS hD hL (okc (ok_D _) ho)
  rw [List.map_cons, vr_D] at kk
  exact lv_ldc2d hx hb hown (hts _ hl) hd kk
theorem go_ldcL {ix : Nat} {x : Int64} (hl : Cond.constantLong m.1.cls ix x ∈ L0) (hd : At m pc (.ldc2_w ix) 3) (K : Go xs d m b (pc + 3) ls (vT 1 x.toInt :: st) σ out) : Go xs d m b pc ls st σ out := by
  intro p l e R s mid args below meth c Q dC dI dA N0 bs ρ0 c0 X hS hF H locs cells slots ρ LS hD hL ho
  obtain ⟨hx, hb, hml, hown, hts, hlk, hst, hK, hN, hXW, hZW, hRf, hRl, hnm, htb, hX⟩ := id hS
  have kk := K p l e R s mid args below meth c Q dC dI dA N0 bs ρ0 c0 X hS hF H locs cells slots ρ LS hD hL (okc (show in64 _ from in64_toInt _) ho)
  rw [List.map_cons, show vr ρ bs (vT 1 x.toInt) = .long x from congrArg Value.long (Int64.ofInt_toInt _)] at kk
  exact lv_ldc2 hx hb hown (hts _ hl) hd kk
theorem con_of_goF {m : MI} {d mc ms : Nat} {as : List MV} {σ : St} {out : MV × St} (hpf : plainFor m.1 = true) (hh : m.2.2.2.2.1 = []) (hre : retOK m.2.2.2.1 out.1) (hlen : (mloc as).length ≤ m.2.2.1) (hlv : as.all live = true) (hne : m.1.cls ≠ "")
    (h : Go (fun _ => 0) d m (mc, ms) 0 (mlocs as m.2.2.1) [] σ out) : Con d m mc ms as σ out := by
  intro hoa l hst dC dI dA N0 ρ
  have body : ∀ (p : Program) (e : Env) (s : State) (mid : MethodId) (args : Array Value) (below : List Frame) (meth : Method) (c : Code) (s₁ : State), BodyLoose p l m.1 (headSpec (wsM m) (rmOf d mc ms)) m.2.1 m.2.2.1 m.2.2.2.1 e s mid args below meth c s₁ → c.maxLocals = m.2.2.1 → c.exceptionTable.toList = tableOf m.2.2.2.2.1 →
      (args = (as.map (vr ρ 0)).toArray ∧ UW dC dI dA N0 ρ σ s) → W p l e (headSpec (wsM m) (rmOf d mc ms)).room s mid args below meth c s.heap [] 0 0 (vx_MQ below (fun _ st o t => QC dC dI dA N0 ρ σ out st o t) (fun E st t => QX dC dI dA N0 ρ σ out E st t) args s mc ms (fun q : Nat => N0 ≤ q)) (entryFrame mid args m.2.2.1) := by
    intro p e s mid args below meth c s₁ B hml htb ⟨ha, hN, hH, hK, hXW, hZW⟩
    subst ha
    have hts := atoms_spec (ws := wsM m) B.pre
    have hown : s.vm.findClass m.1.cls = some mid.cls := findClass_of_methodNamed B.named
    have hS : Sta (fun _ => 0) d m p l (rmOf d mc ms) s mid (as.map (vr ρ 0)).toArray meth c dC dI dA N0 0 noX :=
      ⟨B.exec, B.bytes, hml, hown, fun w hw => hts w (List.mem_cons_of_mem _ hw), B.notSynchronized, hst, hK, hN, hXW, hZW, Nat.le_refl _, Nat.le_refl _, (name_of_methodNamed B.named B.method).1, htb, fun z hz => hz.elim⟩
    have hl := lv_entry (as.map (vr ρ 0)) (n := m.2.2.1) (by rw [mloc_len]; exact hlen)
    rw [lg_entry_eq]
    refine h p l e (rmOf d mc ms) s mid _ below meth c _ dC dI dA N0 0 ρ σ.2.2 noX hS (fin_of hS ⟨rfl, rfl⟩ B.returns hre hne) s.heap [] 0 0 ρ _ ⟨hH, va_S.rf, fun _ _ => rfl, Nat.le_refl _, by show 0 + mc ≤ mc; omega, by show 0 + ms ≤ ms; omega⟩ ⟨?_, ?_, ?_⟩ (fun _ h => absurd h List.not_mem_nil)
    · unfold mlocs
      rw [lps_args _ _ hlv]
      exact hl
    · unfold mlocs
      rw [List.length_append, List.length_replicate]
      omega
    · intro v hv
      have hml9 : ∀ (as : List MV), (∀ v ∈ as, okv σ.2.2 noX v) → ∀ v ∈ mloc as, okv σ.2.2 noX v := by
        intro as
        induction as with
        | nil => intro _ v hv; cases hv
        | cons w ws ih =>
          intro hw v hv
          rw [mloc] at hv
          split at hv
          · rcases List.mem_cons.mp hv with rfl | hv
            · exact hw _ List.mem_cons_self
            · rcases List.mem_cons.mp hv with rfl | hv
              · trivial
              · exact ih (fun w h => hw w (List.mem_cons_of_mem _ h)) v hv
          · rcases List.mem_cons.mp hv with rfl | hv
            · exact hw _ List.mem_cons_self
            · exact ih (fun w h => hw w (List.mem_cons_of_mem _ h)) v hv
      rcases List.mem_append.mp hv with hv | hv
      · exact hml9 as hoa v hv
      · rw [List.eq_of_mem_replicate hv]; trivial
  refine MetFree.of_bodySF (code := m.2.1) (maxLocals := m.2.2.1) (ret := m.2.2.2.1) hpf ?_ ?_
  · intro args s mm h9 hn
    obtain ⟨meth, c, h1, h2, h3, h4, h5, h6, -, -⟩ := Cond.code_spec hn (atoms_spec (ws := wsM m) h9 _ (by unfold wsM headW; rw [if_pos hh]; exact List.mem_cons_self))
    exact ⟨meth, c, h1, h2, h3, h4, h5, h6⟩
  · intro p e s mm args below meth c s₁ B hml hP _
    have hh0 : s₁.heap = s.heap := by rw [B.state]; rfl
    have ht : ∀ x ∈ c.exceptionTable.toList, False := by
      obtain ⟨meth9, c9, h1, h2, -, -, -, -, h7, -⟩ := Cond.code_spec B.named (atoms_spec (ws := wsM m) B.pre _ (by unfold wsM headW; rw [if_pos hh]; exact List.mem_cons_self))
      cases Option.some.inj (h1.symm.trans B.method)
      cases Option.some.inj (h2.symm.trans (Stand.of_body B).code)
      intro x hx
      rw [Array.isEmpty_iff.mp h7] at hx
      cases hx
    obtain ⟨t, a1, o, b1, b2, b3⟩ := body p e s mm args below meth c s₁ B hml (by rw [hh]; exact List.eq_nil_iff_forall_not_mem.mpr (fun x hx => ht x hx)) hP s₁ hh0 (Stand.of_body B)
    exact ⟨t, o, a1, b1, b2, b3⟩

def LkF (own : String) (ix : Nat) (m' : MI) (n : Nat) : Prop := Cond.methodLink own ix m'.1 ∈ L0 ∧ (Cond.initialized m'.1.cls ∈ L0 ∧ headW m' ∈ L0 ∧ (m'.1.cls ≠ "java/lang/invoke/MethodHandle" ∧ m'.1.cls ≠ "java/lang/invoke/VarHandle") ∧ (parseMethodDescriptor m'.1.desc).map (fun d => d.parameters.length) = some n) ∧ Cond.static m'.1 ∈ L0 ∧ m'.2.2.2.2.1 = [] ∧ m'.2.2.1 ≤ 40
theorem go_cF {m' : MI} {d' mc ms n ix : Nat} {as stk : List MV} {v1 : MV} {σ1 : St} (hc : Con d' m' mc ms as σ (v1, σ1)) (hlk' : LkF m.1.cls ix m' n) (hn : as.length = n) (hd : At m pc (.invokestatic ix) 3) (hno : rets v1 = true) (hd' : d' < d) (hs : stk = as.reverse ++ st) (hsum : (st.map cat).sum ≤ 8) (hns : as.all nos = true) (hbm : mc ≤ b.1 ∧ ms ≤ b.2)
    (K : Go xs d m (b.1 - mc, b.2 - ms) (pc + 3) ls (push v1 st) σ1 out) : Go xs d m b pc ls stk σ out := by
  intro p l e R s mid args below meth c Q dC dI dA N0 bs ρ0 c0 X hS hF H locs cells slots ρ LS hD hL ho
  obtain ⟨hx, hb, hml, hown, hts, hlk, hst, hK, hN, hXW, hZW, hRf, hRl, hnm, htb, hX⟩ := id hS
  have hoa : ∀ v ∈ as, okv σ.2.2 noX v := fun v hv => okv_no (ho v (by rw [hs]; exact List.mem_append_left _ (List.mem_reverse.mpr hv))) (List.all_eq_true.mp hns v hv)
  have hM := hc hoa l hst dC dI dA N0 ρ
  have hW : 2 * (F0 mid pc LS (stk.map (vr ρ bs))).monitorRoom + ((st.map (vr ρ bs)).map fun v => v.category).sum ≤ 8 := lv_room (by rw [cats]; exact hsum)
  have hf : cells + mc ≤ R.cells ∧ slots + ms ≤ R.slots := by obtain ⟨-, -, -, -, h5, h6⟩ := hD; omega
  have hrm : ∀ _ : Nat, m'.2.2.1 ≤ 40 → (rmOf d' mc ms).frames + 1 ≤ R.frames ∧ 8 + (m'.2.2.1 + 11) + (rmOf d' mc ms).locals ≤ R.locals := by
    intro _ h; show d' + 12 + 1 ≤ _ ∧ 8 + (m'.2.2.1 + 11) + (60 * d' + 400) ≤ _; omega
  have hPc : ∀ U : State, U.heap = H → s.WarmedH U.vm → (fun a U => a = (as.map (vr ρ 0)).toArray ∧ UW dC dI dA N0 ρ σ U) (as.map (vr ρ bs)).toArray U := fun U hU hW => ⟨by rw [map_no hns], UW.of hS hD hU hW⟩
  have hstk : (stk.map (vr ρ bs)) = (as.map (vr ρ bs)).reverse ++ st.map (vr ρ bs) := by rw [hs, List.map_append, List.map_reverse]
  have fix : CallFix p mid c m.2.1 m.2.2.1 s args L0 m.1.cls := ⟨hx, hb, hml, hown, hts⟩
  obtain ⟨hl, ⟨w1, w2, w3, w4⟩, w6, hh, hm40⟩ := hlk'
  have hgin : GoodIn L0 (wsM m') := fun w hw => (List.mem_cons.mp hw).elim (fun e => by rw [e]; exact ⟨w2, good_of_word (L0_good w2)⟩) (fun h => ⟨h, good_of_word (L0_good h)⟩)
  exact run_ret (vx_runS (As := as.map (vr ρ bs)) (n := n) fix hM ⟨callB_of n hts hgin (wsM0 hh) rfl rfl (hts _ w1) (hts _ hl) ⟨w3.1, w3.2, w4⟩ (hrm 0 hm40), hts _ w6⟩ ⟨UW.blind, hPc⟩ rfl (by simpa using hn) hL.size hstk hW hd hf) (rets_no hno) hbm K hS hF hD hL (fun v hv => ho v (by rw [hs]; exact List.mem_append_right _ hv))
def mJfN : MI := (yJxf58ca_isNaN_12338, cJxf58ca_isNaN_12338, 1, (some .boolean), [],
  [[(0, .fload_n 0, 1), (1, .fload_n 0, 1), (2, .fcmp .l, 1), (3, .ifCond .eq 7, 3), (6, .iconst 1, 1), (7, .goto 4, 3), (10, .iconst 0, 1), (11, .ireturn, 1)]])
theorem tmJfN : tabOK mJfN = true := by decide +kernel
theorem mfmJfN : (Cond.initialized mJfN.1.cls ∈ L0 ∧ headW mJfN ∈ L0 ∧ (mJfN.1.cls ≠ "java/lang/invoke/MethodHandle" ∧ mJfN.1.cls ≠ "java/lang/invoke/VarHandle") ∧ (parseMethodDescriptor mJfN.1.desc).map (fun d => d.parameters.length) = some 1) ∧ Cond.static mJfN.1 ∈ L0 := ⟨⟨inL 123 (by decide +kernel) (by decide +kernel), inL 2059 (by decide +kernel) (by decide +kernel), ⟨by decide +kernel, by decide +kernel⟩, (by decide +kernel)⟩, inL 2058 (by decide +kernel) (by decide +kernel)⟩
theorem pfmJfN : plainFor mJfN.1 = true := by decide +kernel
def mJfB : MI := (yJxf58ca_floatToIntBits_5c35a, cJxf58ca_floatToIntBits_5c35a, 1, (some .int), [],
  [[(0, .fload_n 0, 1), (1, .invokestatic 59, 3), (4, .ifCond .ne 8, 3), (7, .fload_n 0, 1), (8, .invokestatic 74, 3), (11, .ireturn, 1)]])
theorem tmJfB : tabOK mJfB = true := by decide +kernel
theorem mfmJfB : (Cond.initialized mJfB.1.cls ∈ L0 ∧ headW mJfB ∈ L0 ∧ (mJfB.1.cls ≠ "java/lang/invoke/MethodHandle" ∧ mJfB.1.cls ≠ "java/lang/invoke/VarHandle") ∧ (parseMethodDescriptor mJfB.1.desc).map (fun d => d.parameters.length) = some 1) ∧ Cond.static mJfB.1 ∈ L0 := ⟨⟨inL 123 (by decide +kernel) (by decide +kernel), inL 2056 (by decide +kernel) (by decide +kernel), ⟨by decide +kernel, by decide +kernel⟩, (by decide +kernel)⟩, inL 2055 (by decide +kernel) (by decide +kernel)⟩
theorem pfmJfB : plainFor mJfB.1 = true := by decide +kernel
def mJdN : MI := (yJxe99ae_isNaN_b9ae7, cJxe99ae_isNaN_b9ae7, 2, (some .boolean), [],
  [[(0, .dload_n 0, 1), (1, .dload_n 0, 1), (2, .dcmp .l, 1), (3, .ifCond .eq 7, 3), (6, .iconst 1, 1), (7, .goto 4, 3), (10, .iconst 0, 1), (11, .ireturn, 1)]])
theorem tmJdN : tabOK mJdN = true := by decide +kernel
theorem mfmJdN : (Cond.initialized mJdN.1.cls ∈ L0 ∧ headW mJdN ∈ L0 ∧ (mJdN.1.cls ≠ "java/lang/invoke/MethodHandle" ∧ mJdN.1.cls ≠ "java/lang/invoke/VarHandle") ∧ (parseMethodDescriptor mJdN.1.desc).map (fun d => d.parameters.length) = some 1) ∧ Cond.static mJdN.1 ∈ L0 := ⟨⟨inL 124 (by decide +kernel) (by decide +kernel), inL 2081 (by decide +kernel) (by decide +kernel), ⟨by decide +kernel, by decide +kernel⟩, (by decide +kernel)⟩, inL 2080 (by decide +kernel) (by decide +kernel)⟩
theorem pfmJdN : plainFor mJdN.1 = true := by decide +kernel
def mJdB : MI := (yJxe99ae_doubleToLongBits_ccdee, cJxe99ae_doubleToLongBits_ccdee, 2, (some .long), [],
  [[(0, .dload_n 0, 1), (1, .invokestatic 122, 3), (4, .ifCond .ne 8, 3), (7, .dload_n 0, 1), (8, .invokestatic 134, 3), (11, .lreturn, 1)]])
theorem tmJdB : tabOK mJdB = true := by decide +kernel
theorem mfmJdB : (Cond.initialized mJdB.1.cls ∈ L0 ∧ headW mJdB ∈ L0 ∧ (mJdB.1.cls ≠ "java/lang/invoke/MethodHandle" ∧ mJdB.1.cls ≠ "java/lang/invoke/VarHandle") ∧ (parseMethodDescriptor mJdB.1.desc).map (fun d => d.parameters.length) = some 1) ∧ Cond.static mJdB.1 ∈ L0 := ⟨⟨inL 124 (by decide +kernel) (by decide +kernel), inL 2078 (by decide +kernel) (by decide +kernel), ⟨by decide +kernel, by decide +kernel⟩, (by decide +kernel)⟩, inL 2077 (by decide +kernel) (by decide +kernel)⟩
theorem pfmJdB : plainFor mJdB.1 = true := by decide +kernel
theorem lk_JfN : LkF RJxf58ca 59 mJfN 1 := ⟨inL 2057 (by decide +kernel) (by decide +kernel), mfmJfN.1, mfmJfN.2, rfl, by decide⟩
theorem lk_JdN : LkF RJxe99ae 122 mJdN 1 := ⟨inL 2079 (by decide +kernel) (by decide +kernel), mfmJdN.1, mfmJdN.2, rfl, by decide⟩
theorem lk_JfB : LkF RX10 322 mJfB 1 := ⟨inL 2054 (by decide +kernel) (by decide +kernel), mfmJfB.1, mfmJfB.2, rfl, by decide⟩
theorem lk_JdB : LkF RX10 332 mJdB 1 := ⟨inL 2076 (by decide +kernel) (by decide +kernel), mfmJdB.1, mfmJdB.2, rfl, by decide⟩
theorem nl_F : Cond.methodLink RJxf58ca 74 nmF ∈ L0 := inL 2060 (by decide +kernel) (by decide +kernel)
theorem nl_D : Cond.methodLink RJxe99ae 134 nmD ∈ L0 := inL 2082 (by decide +kernel) (by decide +kernel)
theorem kc_F : Cond.constantFloat RX9 481 1258291200 ∈ L0 := inL 1501 (by decide +kernel) (by decide +kernel)
theorem kc_L : Cond.constantLong RX9 482 1023 ∈ L0 := inL 622 (by decide +kernel) (by decide +kernel)
theorem kc_D2 : Cond.constantDouble RX9 484 4611686018427387904 ∈ L0 := inL 623 (by decide +kernel) (by decide +kernel)
theorem kc_DB : Cond.constantDouble RX9 486 4841369599423283200 ∈ L0 := inL 624 (by decide +kernel) (by decide +kernel)
theorem con_mJfN {x : UInt32} (h : (Op.cmpValue (FP.fcmp x x) .l).toInt = 0) : Con 0 mJfN 0 0 [vF x] σ (vI 0, σ) := by
  refine con_of_goF pfmJfN rfl (Or.inl rfl) (Nat.le_of_ble_eq_true rfl) rfl (by decide) ?_
  show Go _ _ _ _ 0 [vF _] [] _ _
  refine go_fload_n (at_of tmJfN 0 0 rfl) rfl ?_
  refine go_fload_n (at_of tmJfN 0 1 rfl) rfl ?_
  refine go_fcmp (at_of tmJfN 0 2 rfl) ?_
  refine go_if_eq (tgt := 10) (at_of tmJfN 0 3 rfl) (by decide) (fun _ => ?_) (fun z => absurd h z)
  refine go_iconst (at_of tmJfN 0 6 rfl) (by unfold in32; omega) ?_
  exact go_reti (at_of tmJfN 0 7 rfl) rfl
theorem con_mJdN {x : UInt64} (h : (Op.cmpValue (FP.dcmp x x) .l).toInt = 0) : Con 0 mJdN 0 0 [vD x] σ (vI 0, σ) := by
  refine con_of_goF pfmJdN rfl (Or.inl rfl) (Nat.le_of_ble_eq_true rfl) rfl (by decide) ?_
  show Go _ _ _ _ 0 [vD _, vT 9 0] [] _ _
  refine go_dload_n (at_of tmJdN 0 0 rfl) rfl ?_
  refine go_dload_n (at_of tmJdN 0 1 rfl) rfl ?_
  refine go_dcmp (at_of tmJdN 0 2 rfl) ?_
  refine go_if_eq (tgt := 10) (at_of tmJdN 0 3 rfl) (by decide) (fun _ => ?_) (fun z => absurd h z)
  refine go_iconst (at_of tmJdN 0 6 rfl) (by unfold in32; omega) ?_
  exact go_reti (at_of tmJdN 0 7 rfl) rfl
theorem con_mJfB {x : UInt32} (h : (Op.cmpValue (FP.fcmp x x) .l).toInt = 0) : Con 1 mJfB 0 0 [vF x] σ (vI x.toInt32.toInt, σ) := by
  refine con_of_goF pfmJfB rfl trivial (Nat.le_of_ble_eq_true rfl) rfl (by decide) ?_
  show Go _ _ _ _ 0 [vF _] [] _ _
  refine go_fload_n (at_of tmJfB 0 0 rfl) rfl ?_
  refine go_cF (con_mJfN h) lk_JfN rfl (at_of tmJfB 0 1 rfl) rfl (by decide) rfl (Nat.le_of_ble_eq_true rfl) rfl (by first | decide | exact ⟨Nat.zero_le _, Nat.zero_le _⟩) ?_
  refine go_if_ne (tgt := 12) (at_of tmJfB 0 2 rfl) (by decide) (fun z => absurd rfl z) (fun _ => ?_)
  refine go_fload_n (at_of tmJfB 0 3 rfl) rfl ?_
  refine go_nf2i nl_F (at_of tmJfB 0 4 rfl) (Nat.le_of_ble_eq_true rfl) ?_
  exact go_reti (at_of tmJfB 0 5 rfl) rfl
theorem con_mJdB {x : UInt64} (h : (Op.cmpValue (FP.dcmp x x) .l).toInt = 0) : Con 1 mJdB 0 0 [vD x] σ (vT 1 x.toInt64.toInt, σ) := by
  refine con_of_goF pfmJdB rfl trivial (Nat.le_of_ble_eq_true rfl) rfl (by decide) ?_
  show Go _ _ _ _ 0 [vD _, vT 9 0] [] _ _
  refine go_dload_n (at_of tmJdB 0 0 rfl) rfl ?_
  refine go_cF (con_mJdN h) lk_JdN rfl (at_of tmJdB 0 1 rfl) rfl (by decide) rfl (Nat.le_of_ble_eq_true rfl) rfl (by first | decide | exact ⟨Nat.zero_le _, Nat.zero_le _⟩) ?_
  refine go_if_ne (tgt := 12) (at_of tmJdB 0 2 rfl) (by decide) (fun z => absurd rfl z) (fun _ => ?_)
  refine go_dload_n (at_of tmJdB 0 3 rfl) rfl ?_
  refine go_nd2l nl_D (at_of tmJdB 0 4 rfl) (Nat.le_of_ble_eq_true rfl) ?_
  exact go_retl (at_of tmJdB 0 5 rfl) rfl
def nn32 (x : UInt32) : Bool := decide (x &&& 0x7fffffff ≤ 0x7f800000)
def nn64 (x : UInt64) : Bool := decide (x &&& 0x7fffffffffffffff ≤ 0x7ff0000000000000)
theorem nn32_of {x : UInt32} (h : nn32 x = true) : vf_n32 x := by
  have := of_decide_eq_true h
  exact this
theorem nn64_of {x : UInt64} (h : nn64 x = true) : vf_n64 x := by
  have := of_decide_eq_true h
  exact this
def shE (y : UInt32) (e : Int) : Option Int := if nn32 (FP.fsub y FP.fconst1) = true ∧ nn32 (FP.fmul (FP.fsub y FP.fconst1) 1258291200) = true then some ((Int32.ofInt e <<< (Int32.ofInt 23 &&& 31)).toInt + (FP.f2i (FP.fmul (FP.fsub y FP.fconst1) 1258291200)).toInt) else none
def shL : Nat → UInt32 → Int → Option Int
  | 0, _, _ => none
  | m + 1, y, e => if 0 ≤ (Op.cmpValue (FP.fcmp y FP.fconst1) .g).toInt then shE y e else if nn32 (FP.fmul y FP.fconst2) = true then shL m (FP.fmul y FP.fconst2) (e - 1) else none
def shB (x : UInt32) : Option Int := if (Op.cmpValue (FP.fcmp x FP.fconst0) .g).toInt ≤ 0 then some 0 else shL 12 x 127
def shX (x : UInt32) : Bool := nn32 x && decide ((Op.cmpValue (FP.fcmp x x) .l).toInt = 0) && nn64 (FP.f2d x) && decide ((Op.cmpValue (FP.dcmp (FP.f2d x) (FP.f2d x)) .l).toInt = 0) && decide (shB x = some x.toInt32.toInt)
def mnE (y : UInt64) (e : Int) : Option Int := if nn64 (FP.dsub y FP.dconst1) = true ∧ nn64 (FP.dmul (FP.dsub y FP.dconst1) 4841369599423283200) = true then some ((Int64.ofInt e <<< ((Int32.ofInt 52).toInt64 &&& 63)).toInt + (FP.d2l (FP.dmul (FP.dsub y FP.dconst1) 4841369599423283200)).toInt) else none
def mnH : Nat → UInt64 → Int → Option Int
  | 0, _, _ => none
  | m + 1, y, e => if (Op.cmpValue (FP.dcmp y 4611686018427387904) .l).toInt < 0 then mnE y e else if nn64 (FP.ddiv y 4611686018427387904) = true then mnH m (FP.ddiv y 4611686018427387904) (e + 1) else none
def mnL : Nat → UInt64 → Int → Option Int
  | 0, _, _ => none
  | m + 1, y, e => if 0 ≤ (Op.cmpValue (FP.dcmp y FP.dconst1) .g).toInt then mnH 12 y e else if nn64 (FP.dmul y 4611686018427387904) = true then mnL m (FP.dmul y 4611686018427387904) (e - 1) else none
def mnB (x : UInt64) : Option Int := if (Op.cmpValue (FP.dcmp x FP.dconst0) .g).toInt ≤ 0 then some 0 else mnL 12 x 1023
def mnX (x : UInt64) : Bool := nn64 x && decide ((Op.cmpValue (FP.dcmp x x) .l).toInt = 0) && decide (mnB x = some x.toInt64.toInt)
def shN (c n : Nat) : UInt32 := FP.fdiv (FP.i2f (Int32.ofInt (c : Int))) (FP.i2f (Int32.ofInt (n : Int)))
def mnN (c n : Nat) : UInt64 := FP.ddiv (FP.i2d (Int32.ofInt (c : Int))) (FP.i2d (Int32.ofInt (n : Int)))
theorem con_bitsOfShare {x : UInt32} {v : Int} (h : shB x = some v) (hv : in32 v) : Con 0 mX9_bitsOfShare 0 0 [vF x] σ (vI v, σ) := by
  have key : ∀ (m : Nat) (b : Nat × Nat) (y : UInt32) (e k : Int), shL m y e = some v → e + k = 127 → 0 ≤ k → k + m ≤ 100 → Go (fun _ => 0) 0 mX9_bitsOfShare b 15 [vF x, vF y, vI e, vI k] [] σ (vI v, σ) := by
    intro m
    induction m with
    | zero =>
      intro b y e k hs
      cases hs
    | succ m ih =>
      intro b y e k hs h1 h2 h3
      unfold shL at hs
      by_cases c : 0 ≤ (Op.cmpValue (FP.fcmp y FP.fconst1) .g).toInt
      · rw [if_pos c] at hs
        unfold shE at hs
        split at hs
        · rename_i hn
          have hs2 := Option.some.inj hs
          refine go_iload_n (at_of tX9_bitsOfShare 0 12 rfl) rfl ?_
          refine go_bipush (at_of tX9_bitsOfShare 0 13 rfl) (by decide) ?_
          refine go_icmp_ge (tgt := 40) (at_of tX9_bitsOfShare 0 14 rfl) (by decide) (fun h18 => ?_) (fun h18 => ?_)
          · exfalso; omega
          refine go_fload_n (at_of tX9_bitsOfShare 0 15 rfl) rfl ?_
          refine go_fconst1 (at_of tX9_bitsOfShare 1 0 rfl) ?_
          refine go_fcmp (at_of tX9_bitsOfShare 1 1 rfl) ?_
          refine go_if_ge (tgt := 40) (at_of tX9_bitsOfShare 1 2 rfl) (by decide) (fun h24 => ?_) (fun h24 => ?_)
          rotate_left
          · exfalso; exact absurd c (by omega)
          refine go_iload_n (at_of tX9_bitsOfShare 1 10 rfl) rfl ?_
          refine go_bipush (at_of tX9_bitsOfShare 1 11 rfl) (by decide) ?_
          refine go_ishl (at_of tX9_bitsOfShare 1 12 rfl) ?_
          refine go_fload_n (at_of tX9_bitsOfShare 1 13 rfl) rfl ?_
          refine go_fconst1 (at_of tX9_bitsOfShare 1 14 rfl) ?_
          refine go_fsub (at_of tX9_bitsOfShare 1 15 rfl) (nn32_of hn.1) ?_
          refine go_ldcF kc_F (at_of tX9_bitsOfShare 2 0 rfl) ?_
          refine go_fmul (at_of tX9_bitsOfShare 2 1 rfl) (nn32_of hn.2) ?_
          refine go_f2i (at_of tX9_bitsOfShare 2 2 rfl) ?_
          refine go_iadd (at_of tX9_bitsOfShare 2 3 rfl) (by rw [hs2]; exact hv) ?_
          exact go_reti (at_of tX9_bitsOfShare 2 4 rfl) (le_i hs2.symm)
        · cases hs
      · rw [if_neg c] at hs
        split at hs
        · rename_i hn
          refine go_iload_n (at_of tX9_bitsOfShare 0 12 rfl) rfl ?_
          refine go_bipush (at_of tX9_bitsOfShare 0 13 rfl) (by decide) ?_
          refine go_icmp_ge (tgt := 40) (at_of tX9_bitsOfShare 0 14 rfl) (by decide) (fun h18 => ?_) (fun h18 => ?_)
          · exfalso; omega
          refine go_fload_n (at_of tX9_bitsOfShare 0 15 rfl) rfl ?_
          refine go_fconst1 (at_of tX9_bitsOfShare 1 0 rfl) ?_
          refine go_fcmp (at_of tX9_bitsOfShare 1 1 rfl) ?_
          refine go_if_ge (tgt := 40) (at_of tX9_bitsOfShare 1 2 rfl) (by decide) (fun h24 => ?_) (fun h24 => ?_)
          · exfalso; exact c (by omega)
          refine go_fload_n (at_of tX9_bitsOfShare 1 3 rfl) rfl ?_
          refine go_fconst2 (at_of tX9_bitsOfShare 1 4 rfl) ?_
          refine go_fmul (at_of tX9_bitsOfShare 1 5 rfl) (nn32_of hn) ?_
          refine go_fstore_n (at_of tX9_bitsOfShare 1 6 rfl) rfl rfl ?_
          refine go_iinc (at_of tX9_bitsOfShare 1 7 rfl) rfl (by unfold in32; omega) rfl rfl ?_
          refine go_iinc (at_of tX9_bitsOfShare 1 8 rfl) rfl (by unfold in32; omega) rfl rfl ?_
          refine go_goto (tgt := 15) (at_of tX9_bitsOfShare 1 9 rfl) (by decide) ?_
          exact ih _ _ _ _ hs (by omega) (by omega) (by omega)
        · cases hs
  refine con_of_go mfX9_bitsOfShare.1 trivial (Nat.le_of_ble_eq_true rfl) rfl (by decide) ?_
  show Go _ _ _ _ 0 [vF _, vT 9 0, vT 9 0, vT 9 0] [] _ _
  refine go_fload_n (at_of tX9_bitsOfShare 0 0 rfl) rfl ?_
  refine go_fconst0 (at_of tX9_bitsOfShare 0 1 rfl) ?_
  refine go_fcmp (at_of tX9_bitsOfShare 0 2 rfl) ?_
  refine go_if_gt (tgt := 8) (at_of tX9_bitsOfShare 0 3 rfl) (by decide) (fun h3 => ?_) (fun h3 => ?_)
  · refine go_fload_n (at_of tX9_bitsOfShare 0 6 rfl) rfl ?_
    refine go_fstore_n (at_of tX9_bitsOfShare 0 7 rfl) rfl rfl ?_
    refine go_bipush (at_of tX9_bitsOfShare 0 8 rfl) (by decide) ?_
    refine go_istore_n (at_of tX9_bitsOfShare 0 9 rfl) rfl rfl ?_
    refine go_iconst (at_of tX9_bitsOfShare 0 10 rfl) (by unfold in32; omega) ?_
    refine go_istore_n (at_of tX9_bitsOfShare 0 11 rfl) rfl rfl ?_
    unfold shB at h
    rw [if_neg (by omega)] at h
    exact key 12 _ _ _ _ h (by omega) (by omega) (by omega)
  · unfold shB at h
    rw [if_pos (by omega)] at h
    cases h
    refine go_iconst (at_of tX9_bitsOfShare 0 4 rfl) (by unfold in32; omega) ?_
    exact go_reti (at_of tX9_bitsOfShare 0 5 rfl) rfl
theorem con_bitsOfMean {x : UInt64} {v : Int} (h : mnB x = some v) (hv : in64 v) : Con 0 mX9_bitsOfMean 0 0 [vD x] σ (vT 1 v, σ) := by
  have key2 : ∀ (m : Nat) (b : Nat × Nat) (y : UInt64) (e k : Int), mnH m y e = some v → (-100 ≤ e - k ∧ e - k ≤ 2000) → 0 ≤ k → k + m ≤ 100 → Go (fun _ => 0) 0 mX9_bitsOfMean b 53 [vD x, vT 9 0, vD y, vT 9 0, vT 1 e, vT 9 0, vI k] [] σ (vT 1 v, σ) := by
    intro m
    induction m with
    | zero =>
      intro b y e k hs
      cases hs
    | succ m ih =>
      intro b y e k hs h1 h2 h3
      unfold mnH at hs
      by_cases c : (Op.cmpValue (FP.dcmp y 4611686018427387904) .l).toInt < 0
      · rw [if_pos c] at hs
        unfold mnE at hs
        split at hs
        · rename_i hn
          have hs2 := Option.some.inj hs
          refine go_iload (at_of tX9_bitsOfMean 1 15 rfl) rfl rfl ?_
          refine go_sipush (at_of tX9_bitsOfMean 2 0 rfl) (by decide) ?_
          refine go_icmp_ge (tgt := 87) (at_of tX9_bitsOfMean 2 1 rfl) (by decide) (fun h58 => ?_) (fun h58 => ?_)
          · exfalso; omega
          refine go_dload_n (at_of tX9_bitsOfMean 2 2 rfl) rfl ?_
          refine go_ldcD kc_D2 (at_of tX9_bitsOfMean 2 3 rfl) ?_
          refine go_dcmp (at_of tX9_bitsOfMean 2 4 rfl) ?_
          refine go_if_lt (tgt := 87) (at_of tX9_bitsOfMean 2 5 rfl) (by decide) (fun _ => ?_) (fun z => absurd c (by omega))
          refine go_lload (at_of tX9_bitsOfMean 3 0 rfl) rfl ?_
          refine go_bipush (at_of tX9_bitsOfMean 3 1 rfl) (by decide) ?_
          refine go_lshl (at_of tX9_bitsOfMean 3 2 rfl) ?_
          refine go_dload_n (at_of tX9_bitsOfMean 3 3 rfl) rfl ?_
          refine go_dconst1 (at_of tX9_bitsOfMean 3 4 rfl) ?_
          refine go_dsub (at_of tX9_bitsOfMean 3 5 rfl) (nn64_of hn.1) ?_
          refine go_ldcD kc_DB (at_of tX9_bitsOfMean 3 6 rfl) ?_
          refine go_dmul (at_of tX9_bitsOfMean 3 7 rfl) (nn64_of hn.2) ?_
          refine go_d2l (at_of tX9_bitsOfMean 3 8 rfl) ?_
          refine go_ladd (at_of tX9_bitsOfMean 3 9 rfl) (by rw [hs2]; exact hv) ?_
          exact go_retl (at_of tX9_bitsOfMean 3 10 rfl) (by rw [hs2])
        · cases hs
      · rw [if_neg c] at hs
        split at hs
        · rename_i hn
          refine go_iload (at_of tX9_bitsOfMean 1 15 rfl) rfl rfl ?_
          refine go_sipush (at_of tX9_bitsOfMean 2 0 rfl) (by decide) ?_
          refine go_icmp_ge (tgt := 87) (at_of tX9_bitsOfMean 2 1 rfl) (by decide) (fun h58 => ?_) (fun h58 => ?_)
          · exfalso; omega
          refine go_dload_n (at_of tX9_bitsOfMean 2 2 rfl) rfl ?_
          refine go_ldcD kc_D2 (at_of tX9_bitsOfMean 2 3 rfl) ?_
          refine go_dcmp (at_of tX9_bitsOfMean 2 4 rfl) ?_
          refine go_if_lt (tgt := 87) (at_of tX9_bitsOfMean 2 5 rfl) (by decide) (fun z => absurd z c) (fun _ => ?_)
          refine go_dload_n (at_of tX9_bitsOfMean 2 6 rfl) rfl ?_
          refine go_ldcD kc_D2 (at_of tX9_bitsOfMean 2 7 rfl) ?_
          refine go_ddiv (at_of tX9_bitsOfMean 2 8 rfl) (nn64_of hn) ?_
          refine go_dstore_n (at_of tX9_bitsOfMean 2 9 rfl) rfl rfl ?_
          refine go_lload (at_of tX9_bitsOfMean 2 10 rfl) rfl ?_
          refine go_lconst (at_of tX9_bitsOfMean 2 11 rfl) ?_
          refine go_ladd (at_of tX9_bitsOfMean 2 12 rfl) (by unfold in64; omega) ?_
          refine go_lstore (at_of tX9_bitsOfMean 2 13 rfl) rfl rfl ?_
          refine go_iinc (at_of tX9_bitsOfMean 2 14 rfl) rfl (by unfold in32; omega) rfl rfl ?_
          refine go_goto (tgt := 53) (at_of tX9_bitsOfMean 2 15 rfl) (by decide) ?_
          exact ih _ _ _ _ hs (by omega) (by omega) (by omega)
        · cases hs
  have key : ∀ (m : Nat) (b : Nat × Nat) (y : UInt64) (e k : Int), mnL m y e = some v → e + k = 1023 → 0 ≤ k → k + m ≤ 100 → Go (fun _ => 0) 0 mX9_bitsOfMean b 18 [vD x, vT 9 0, vD y, vT 9 0, vT 1 e, vT 9 0, vI k] [] σ (vT 1 v, σ) := by
    intro m
    induction m with
    | zero =>
      intro b y e k hs
      cases hs
    | succ m ih =>
      intro b y e k hs h1 h2 h3
      unfold mnL at hs
      by_cases c : 0 ≤ (Op.cmpValue (FP.dcmp y FP.dconst1) .g).toInt
      · rw [if_pos c] at hs
        refine go_iload (at_of tX9_bitsOfMean 0 12 rfl) rfl rfl ?_
        refine go_sipush (at_of tX9_bitsOfMean 0 13 rfl) (by decide) ?_
        refine go_icmp_ge (tgt := 50) (at_of tX9_bitsOfMean 0 14 rfl) (by decide) (fun h23 => ?_) (fun h23 => ?_)
        · exfalso; omega
        refine go_dload_n (at_of tX9_bitsOfMean 0 15 rfl) rfl ?_
        refine go_dconst1 (at_of tX9_bitsOfMean 1 0 rfl) ?_
        refine go_dcmp (at_of tX9_bitsOfMean 1 1 rfl) ?_
        refine go_if_ge (tgt := 50) (at_of tX9_bitsOfMean 1 2 rfl) (by decide) (fun h29 => ?_) (fun h29 => ?_)
        rotate_left
        · exfalso; exact absurd c (by omega)
        refine go_iconst (at_of tX9_bitsOfMean 1 13 rfl) (by unfold in32; omega) ?_
        refine go_istore (at_of tX9_bitsOfMean 1 14 rfl) rfl rfl ?_
        exact key2 12 _ _ _ _ hs (by omega) (by omega) (by omega)
      · rw [if_neg c] at hs
        split at hs
        · rename_i hn
          refine go_iload (at_of tX9_bitsOfMean 0 12 rfl) rfl rfl ?_
          refine go_sipush (at_of tX9_bitsOfMean 0 13 rfl) (by decide) ?_
          refine go_icmp_ge (tgt := 50) (at_of tX9_bitsOfMean 0 14 rfl) (by decide) (fun h23 => ?_) (fun h23 => ?_)
          · exfalso; omega
          refine go_dload_n (at_of tX9_bitsOfMean 0 15 rfl) rfl ?_
          refine go_dconst1 (at_of tX9_bitsOfMean 1 0 rfl) ?_
          refine go_dcmp (at_of tX9_bitsOfMean 1 1 rfl) ?_
          refine go_if_ge (tgt := 50) (at_of tX9_bitsOfMean 1 2 rfl) (by decide) (fun h29 => ?_) (fun h29 => ?_)
          · exfalso; exact c (by omega)
          refine go_dload_n (at_of tX9_bitsOfMean 1 3 rfl) rfl ?_
          refine go_ldcD kc_D2 (at_of tX9_bitsOfMean 1 4 rfl) ?_
          refine go_dmul (at_of tX9_bitsOfMean 1 5 rfl) (nn64_of hn) ?_
          refine go_dstore_n (at_of tX9_bitsOfMean 1 6 rfl) rfl rfl ?_
          refine go_lload (at_of tX9_bitsOfMean 1 7 rfl) rfl ?_
          refine go_lconst (at_of tX9_bitsOfMean 1 8 rfl) ?_
          refine go_lsub (at_of tX9_bitsOfMean 1 9 rfl) (by unfold in64; omega) ?_
          refine go_lstore (at_of tX9_bitsOfMean 1 10 rfl) rfl rfl ?_
          refine go_iinc (at_of tX9_bitsOfMean 1 11 rfl) rfl (by unfold in32; omega) rfl rfl ?_
          refine go_goto (tgt := 18) (at_of tX9_bitsOfMean 1 12 rfl) (by decide) ?_
          exact ih _ _ _ _ hs (by omega) (by omega) (by omega)
        · cases hs
  refine con_of_go mfX9_bitsOfMean.1 trivial (Nat.le_of_ble_eq_true rfl) rfl (by decide) ?_
  show Go _ _ _ _ 0 [vD _, vT 9 0, vT 9 0, vT 9 0, vT 9 0, vT 9 0, vT 9 0] [] _ _
  refine go_dload_n (at_of tX9_bitsOfMean 0 0 rfl) rfl ?_
  refine go_dconst0 (at_of tX9_bitsOfMean 0 1 rfl) ?_
  refine go_dcmp (at_of tX9_bitsOfMean 0 2 rfl) ?_
  refine go_if_gt (tgt := 8) (at_of tX9_bitsOfMean 0 3 rfl) (by decide) (fun h3 => ?_) (fun h3 => ?_)
  · refine go_dload_n (at_of tX9_bitsOfMean 0 6 rfl) rfl ?_
    refine go_dstore_n (at_of tX9_bitsOfMean 0 7 rfl) rfl rfl ?_
    refine go_ldcL kc_L (at_of tX9_bitsOfMean 0 8 rfl) ?_
    refine go_lstore (at_of tX9_bitsOfMean 0 9 rfl) rfl rfl ?_
    refine go_iconst (at_of tX9_bitsOfMean 0 10 rfl) (by unfold in32; omega) ?_
    refine go_istore (at_of tX9_bitsOfMean 0 11 rfl) rfl rfl ?_
    unfold mnB at h
    rw [if_neg (by omega)] at h
    exact key 12 _ _ _ _ h (by decide) (by omega) (by omega)
  · unfold mnB at h
    rw [if_pos (by omega)] at h
    cases h
    refine go_lconst (at_of tX9_bitsOfMean 0 4 rfl) ?_
    exact go_retl (at_of tX9_bitsOfMean 0 5 rfl) rfl
theorem shX_t : (List.range 12).all (fun n => (List.range (n + 2)).all (fun c => shX (shN c (n + 1)))) = true := by decide +kernel
theorem mnX_t : (List.range 12).all (fun n => (List.range 12).all (fun c => mnX (mnN c (n + 1)))) = true := by decide +kernel
end Bits
