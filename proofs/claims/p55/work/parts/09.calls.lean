section GoCalls
variable {xs : Nat → Int} {d : Nat} {m m' : MI} {b : Nat × Nat} {pc : Nat} {ls st : List MV} {σ : St} {out out1 : MV × St}
theorem XW.same {u U : State} (h : u.vm = U.vm) (k : XW u) : XW U := by
  obtain ⟨k1, k2, k3, k4, k5, k6, k7, k8, k9⟩ := k
  refine ⟨fun q hq => va_Nw.same rfl h (k1 q hq), fun q hq => va_Nw.same rfl h (k2 q hq), fun q hq => va_Nw.same rfl h (k3 q hq), fun q hq => va_Nw.same rfl h (k4 q hq), fun q hq => ?_, fun q hq => va_Nc.moved (by rw [h]; exact Vm.Alike.refl _) (k6 q hq), va_AO.moved (by rw [h]; exact Vm.Alike.refl _) k7, va_AO.moved (by rw [h]; exact Vm.Alike.refl _) k8, va_AO.moved (by rw [h]; exact Vm.Alike.refl _) k9⟩
  obtain ⟨a, ha⟩ := k5 q hq
  exact ⟨a, vk_R.same h.symm ha⟩
theorem XW.warm {s U : State} (hW : s.WarmedH U.vm) (k : XW s) : XW U := by
  obtain ⟨k1, k2, k3, k4, k5, k6, k7, k8, k9⟩ := k
  refine ⟨fun q hq => va_Nw.warmM hW (k1 q hq), fun q hq => va_Nw.warmF hW (k2 q hq), fun q hq => va_Nw.warmD hW (k3 q hq), fun q hq => va_Nw.warmC hW (k4 q hq), fun q hq => ?_, fun q hq => va_Nc.moved hW.alike (k6 q hq), va_AO.moved hW.alike k7, va_AO.moved hW.alike k8, va_AO.moved hW.alike k9⟩
  obtain ⟨a, ha⟩ := k5 q hq
  exact ⟨a, vk_R.warm hW ha⟩
theorem ZL.to {A : Nat → Prop} {s U : State} {H0 H : Heap} (hw : s.WarmedH U.vm ∨ U.vm = s.vm) (h : ZL A s H0) (hk : ∀ q : Nat, q < H0.size → ¬ A q → H[q]? = H0[q]?) : ZL A U H := by
  have hal : s.vm.Alike U.vm := by
    rcases hw with hw | hw
    · exact hw.alike
    · rw [hw]; exact Vm.Alike.refl _
  obtain ⟨⟨q, v, h1, h2⟩, h3, h4⟩ := h
  refine ⟨⟨q, v, ?_, vk_S.moved hal (h2.kept hk)⟩, va_Z.moved hal (h3.kept hk), va_Zq.moved hal (h4.kept hk)⟩
  rcases hw with hw | hw
  · exact vk_R.warm hw h1
  · exact vk_R.same hw h1
theorem ZW.to {A : Nat → Prop} {s U : State} {H0 H : Heap} (hw : s.WarmedH U.vm ∨ U.vm = s.vm) (h : ZW A s H0) (hk : ∀ q : Nat, q < H0.size → ¬ A q → H[q]? = H0[q]?) : ZW A U H := by
  have hal : s.vm.Alike U.vm := by
    rcases hw with hw | hw
    · exact hw.alike
    · rw [hw]; exact Vm.Alike.refl _
  exact ⟨vx_Zq.moved hal (h.1.kept hk), vx_Zq.moved hal (h.2.1.kept hk), ZL.to hw h.2.2 hk⟩
theorem UW.blind {dC : Nat → ClassId} {dI : Nat → Nat → Nat} {dA : Nat → ClassId} {N0 : Nat} {ρ : Nat → Nat} {σ : St} {as : List Value} : FrameBlind (fun a U => a = as.toArray ∧ UW dC dI dA N0 ρ σ U) := by
  intro a U g mk ⟨e, h1, h2, h3, h4, h5⟩
  exact ⟨e, h1, h2, va_K.moved (u := U) (U := U.calling g mk a) (Vm.Alike.refl U.vm) h3, XW.same (u := U) (U := U.calling g mk a) rfl h4, ZW.to (s := U) (U := U.calling g mk a) (Or.inr rfl) h5 (fun _ _ _ => rfl)⟩
theorem UW.of {p : Program} {l : Launch} {R : Room} {s : State} {mid : MethodId} {args : Array Value} {meth : Method} {c : Code} {dC : Nat → ClassId} {dI : Nat → Nat → Nat} {dA : Nat → ClassId} {N0 bs : Nat} {ρ0 : Nat → Nat} {c0 : Nat} {X : Int → Prop} {H : Heap} {locs : List Loc} {cells slots : Nat} {ρ : Nat → Nat}
    (hS : Sta xs d m p l R s mid args meth c dC dI dA N0 bs X) (hD : Dyn R s dC dI dA N0 ρ0 c0 b H locs cells slots ρ σ) {U : State} (hU : U.heap = H) (hW : s.WarmedH U.vm) : UW dC dI dA N0 ρ σ U := by
  obtain ⟨hx, hb, hml, hown, hts, hlk, hst, hK, hN, hXW, hZW, hRf, hRl, hnm, htb, hX⟩ := hS
  obtain ⟨h1, h2, -⟩ := hD
  exact ⟨by rw [hU]; exact Nat.le_trans hN h2.1, by rw [hU]; exact h1, va_K.moved hW.alike hK, XW.warm hW hXW, by rw [hU]; exact ZW.to (Or.inl hW) hZW h2.2.1⟩
def nos : MV → Bool
  | .inr (.inr (6, _)) => false
  | _ => true
theorem okv_no {c : Nat} {X Y : Int → Prop} {v : MV} (h : okv c X v) (hn : nos v = true) : okv c Y v := by
  rcases v with z | a | ⟨t, z⟩
  · exact h
  · exact h
  · unfold okv at h ⊢
    unfold nos at hn
    split <;> simp_all
theorem vr_no {ρ : Nat → Nat} {bs bs' : Nat} {v : MV} (hn : nos v = true) : vr ρ bs v = vr ρ bs' v := by
  rcases v with z | a | ⟨t, z⟩
  · rfl
  · rfl
  · unfold vr
    unfold nos at hn
    split <;> simp_all
theorem nos_of {c : Nat} {v : MV} (h : okv c noX v) : nos v = true := by
  rcases v with z | a | ⟨t, z⟩
  · rfl
  · rfl
  · unfold okv at h
    unfold nos
    split at h <;> simp_all [noX]
theorem map_no {ρ : Nat → Nat} {bs bs' : Nat} {as : List MV} (h : as.all nos = true) : as.map (vr ρ bs) = as.map (vr ρ bs') :=
  List.map_congr_left fun v hv => vr_no (List.all_eq_true.mp h v hv)
def push : MV → List MV → List MV
  | .inr (.inr (8, _)), st => st
  | v, st => v :: st
def QC (dC : Nat → ClassId) (dI : Nat → Nat → Nat) (dA : Nat → ClassId) (N0 : Nat) (ρ : Nat → Nat) (σ : St) (out1 : MV × St) (st : State) (o : Outcome) (t : State) : Prop :=
  ∃ ρ' : Nat → Nat, o = .returned (rv ρ' out1.1) ∧ (∀ i, out1.1 ≠ vT (20 + i) 0) ∧ okv out1.2.2.2 noX out1.1 ∧ (∀ i, i < σ.2.2 → ρ' i = ρ i) ∧ σ.2.2 ≤ out1.2.2.2 ∧ HR dC dI dA N0 ρ' out1.2 t.heap ∧ va_F (fun q : Nat => N0 ≤ q) st t
def QX (dC : Nat → ClassId) (dI : Nat → Nat → Nat) (dA : Nat → ClassId) (N0 : Nat) (ρ : Nat → Nat) (σ : St) (out1 : MV × St) (E : String) (st t : State) : Prop :=
  ∃ (ρ' : Nat → Nat) (i : Nat), out1.1 = vT (20 + i) 0 ∧ i < 6 ∧ E = exN i ∧ (∀ i, i < σ.2.2 → ρ' i = ρ i) ∧ σ.2.2 ≤ out1.2.2.2 ∧ HR dC dI dA N0 ρ' out1.2 t.heap ∧ va_F (fun q : Nat => N0 ≤ q) st t
theorem rv_push {ρ : Nat → Nat} {bs : Nat} {v : MV} (hn : nos v = true) (h20 : ∀ i, v ≠ vT (20 + i) 0) : (rv ρ v).toList ++ st.map (vr ρ bs) = (push v st).map (vr ρ bs) := by
  rcases v with z | a | ⟨t, z⟩
  · rfl
  · rfl
  · by_cases h8 : t = 8
    · subst h8; rfl
    · have e1 : rv ρ (vT t z) = some (vr ρ 0 (vT t z)) := by
        unfold rv; split <;> simp_all
      have e2 : push (vT t z) st = vT t z :: st := by
        unfold push; split <;> simp_all
      show (rv ρ (vT t z)).toList ++ _ = (push (vT t z) st).map _
      rw [e1, e2, List.map_cons, vr_no (bs' := bs) hn]
      rfl
section RUN
variable {p : Program} {l : Launch} {e : Env} {R : Room} {s : State} {mid : MethodId} {args : Array Value} {below : List Frame} {meth : Method} {c : Code} {Q : State → Prop} {dC : Nat → ClassId} {dI : Nat → Nat → Nat} {dA : Nat → ClassId} {N0 bs : Nat} {ρ0 : Nat → Nat} {c0 : Nat} {X : Int → Prop} {H : Heap} {locs : List Loc} {cells slots mc ms : Nat} {ρ : Nat → Nat} {LS : Array Slot} {stk : List Value}
theorem run_dyn (hD : Dyn R s dC dI dA N0 ρ0 c0 b H locs cells slots ρ σ) (hbm : mc ≤ b.1 ∧ ms ≤ b.2) {st₀ t T' : State} {L : List Loc} {ρ' : Nat → Nat} {σ' : St} (h0 : st₀.heap = H) (e1 : T'.heap = t.heap) (hL : ∀ q ∈ L, (fun q : Nat => N0 ≤ q) q.base) (hF : va_F (fun q : Nat => N0 ≤ q) st₀ t)
    (he : ∀ i, i < σ.2.2 → ρ' i = ρ i) (hc : σ.2.2 ≤ σ'.2.2) (hH : HR dC dI dA N0 ρ' σ' t.heap) : Dyn R s dC dI dA N0 ρ0 c0 (b.1 - mc, b.2 - ms) T'.heap (locs ++ L) (cells + mc) (slots + ms) ρ' σ' := by
  obtain ⟨h1, h2, h3, h4, h5, h6⟩ := hD
  obtain ⟨k1, k2, k3⟩ := vx_keep h0 e1 h2 (A1 := fun q : Nat => N0 ≤ q) (fun _ _ h => h) (free := fun q : Nat => N0 ≤ q) (fun _ h => h) hL hF
  exact ⟨by rw [e1]; exact hH, k3, fun i hi => (he i (Nat.lt_of_lt_of_le hi h4)).trans (h3 i hi), Nat.le_trans h4 hc, by show cells + mc + (b.1 - mc) ≤ R.cells; omega, by show slots + ms + (b.2 - ms) ≤ R.slots; omega⟩
theorem run_ret (hr : vx_Run p l e R s mid args below meth c H locs cells slots mc ms (F0 mid pc LS stk) (st.map (vr ρ bs)) (QC dC dI dA N0 ρ σ out1) (QX dC dI dA N0 ρ σ out1) (fun q : Nat => N0 ≤ q)) (hno : ∀ i, out1.1 ≠ vT (20 + i) 0) (hbm : mc ≤ b.1 ∧ ms ≤ b.2)
    (K : Go xs d m (b.1 - mc, b.2 - ms) (pc + 3) ls (push out1.1 st) out1.2 out) (hS : Sta xs d m p l R s mid args meth c dC dI dA N0 bs X) (hF : FinC m p l e R s mid args below meth c Q dC dI dA N0 bs ρ0 c0 X out) (hD : Dyn R s dC dI dA N0 ρ0 c0 b H locs cells slots ρ σ) (hL : FrR bs m.2.2.1 ρ X σ.2.2 LS ls) (ho : ∀ v ∈ st, okv σ.2.2 X v) :
    W p l e R s mid args below meth c H locs cells slots Q (F0 mid pc LS stk) := by
  intro T hT X9
  rcases hr T hT X9 with ⟨v, st₀, t, T', L, h0, X', hLL, e1, e2, ⟨ρ', hv, -, hok, he, hc, hH, hFF⟩, hg⟩ | ⟨q, st₀, t, T', L, E, ce, h0, X', hLL, e1, e2, ⟨ρ', i, hi, -⟩, -⟩
  · cases hv
    have hD' := run_dyn (mc := mc) (ms := ms) hD hbm h0 e1 hLL hFF he hc hH
    have hok' : ∀ v ∈ push out1.1 st, okv out1.2.2.2 X v := by
      intro w hw
      have hw2 : w = out1.1 ∨ w ∈ st := by
        unfold push at hw
        split at hw
        · exact Or.inr hw
        · exact List.mem_cons.mp hw
      rcases hw2 with rfl | hw2
      · exact okv_no hok (nos_of hok)
      · exact okv_mono hc (ho w hw2)
    have kk := K p l e R s mid args below meth c Q dC dI dA N0 bs ρ0 c0 X hS hF T'.heap (locs ++ L) (cells + mc) (slots + ms) ρ' LS hD' (hL.ext he hc) hok'
    obtain ⟨t2, a1, b1⟩ := kk T' rfl X'
    refine ⟨t2, hg t2 ?_, b1⟩
    have e9 : (rv ρ' out1.1).toList ++ st.map (vr ρ bs) = (push out1.1 st).map (vr ρ' bs) := by
      rw [← rv_push (nos_of hok) hno, map_ext he ho]
    rw [← e9] at a1
    exact a1
  · exact absurd hi (hno i)
theorem run_thr (hr : vx_Run p l e R s mid args below meth c H locs cells slots mc ms (F0 mid pc LS stk) (st.map (vr ρ bs)) (QC dC dI dA N0 ρ σ out1) (QX dC dI dA N0 ρ σ out1) (fun q : Nat => N0 ≤ q)) {i : Nat} (hi : out1.1 = vT (20 + i) 0) (hbm : mc ≤ b.1 ∧ ms ≤ b.2) (hh : m.2.2.2.2.1 = []) (hout : out = out1)
    (hF : FinC m p l e R s mid args below meth c Q dC dI dA N0 bs ρ0 c0 X out) (hD : Dyn R s dC dI dA N0 ρ0 c0 b H locs cells slots ρ σ) (hL : FrR bs m.2.2.1 ρ X σ.2.2 LS ls) :
    W p l e R s mid args below meth c H locs cells slots Q (F0 mid pc LS stk) := by
  intro T hT X9
  rcases hr T hT X9 with ⟨v, st₀, t, T', L, h0, X', hLL, e1, e2, ⟨ρ', hv, hno, -⟩, hg⟩ | ⟨q, st₀, t, T', L, E, ce, h0, X', hLL, e1, e2, ⟨ρ', j, hj, hj6, hE, he, hc, hH, hFF⟩, hce, hcv, hcl, hst⟩
  · exact absurd hi (hno i)
  · have hD' := run_dyn (mc := mc) (ms := ms) hD hbm h0 e1 hLL hFF he hc hH
    subst hout
    have hD2 : Dyn R s dC dI dA N0 ρ0 c0 (0, 0) T'.heap (locs ++ L) (cells + mc) (slots + ms) ρ' out.2 := ⟨hD'.1, hD'.2.1, hD'.2.2.1, hD'.2.2.2.1, by have := hD'.2.2.2.2.1; omega, by have := hD'.2.2.2.2.2; omega⟩
    obtain ⟨t2, a1, b1⟩ := hF.2.2 T'.heap (locs ++ L) (cells + mc) (slots + ms) ρ' LS pc j (st.map (vr ρ bs)) q ce hj hj6 hD2 hL.size hh (by rw [e1]; exact hce) hcv (by rw [← hE]; exact hcl) T' rfl X'
    exact ⟨t2, hst.trans a1, b1⟩
theorem FrR.setJ {nL : Nat} {c : Nat} {LS LS' : Array Slot} {V : Value} (h : FrR bs nL ρ X c LS ls) {i : Nat} (hi : i < nL) (hn : nc2 ls i = true)
    (h' : lv_has LS' nL ((i, V) :: (lps ρ bs 0 ls).filter (fun q => !(q.1 == i) && !(q.1 + 1 == i && q.2.category == 2)))) : FrR bs nL ρ X c LS' (ls.set i (vT 9 0)) := by
  obtain ⟨h1, h2, h3⟩ := h
  refine ⟨⟨h'.1, h'.2.1, fun q hq => ?_⟩, by rw [List.length_set]; exact h2, fun w hw => ?_⟩
  · obtain ⟨j, w, e1, e2, e3⟩ := lps_mem hq
    rw [Nat.zero_add] at e3
    subst e3
    by_cases hj : j = i
    · subst hj
      rw [List.getElem?_set_self (by omega)] at e1
      cases e1
      simp [live] at e2
    · rw [List.getElem?_set_ne (fun q => hj q.symm)] at e1
      refine h'.2.2 _ (List.mem_cons_of_mem _ (List.mem_filter.mpr ⟨?_, ?_⟩))
      · have := lps_in (ρ := ρ) (bs := bs) (i := 0) e1 e2
        rwa [Nat.zero_add] at this
      · simp only [Bool.and_eq_true, Bool.not_eq_true', beq_eq_false_iff_ne, ne_eq, Bool.and_eq_false_iff]
        refine ⟨hj, ?_⟩
        by_cases hji : j + 1 = i
        · refine Or.inr ?_
          subst hji
          simp only [nc2, e1, Bool.not_eq_true'] at hn
          exact cat_vr hn
        · exact Or.inl hji
  · rcases List.mem_or_eq_of_mem_set hw with hw | hw
    · exact h3 w hw
    · rw [hw]; trivial
/-- where a throw of class i at pc is caught: past the handlers ahead, by the one at place j -/
def Cat (m : MI) (pc i h : Nat) : Prop := ∃ (pre suf : List (Nat × Nat × Nat × Nat)) (f t ct : Nat), m.2.2.2.2.1 = pre ++ (f, t, h, ct) :: suf ∧ f ≤ pc ∧ pc < t ∧ ct ≠ 0 ∧ Cond.classLink m.1.cls ct (exN i) ∈ L0 ∧ (exN i, exN i) ∈ XC ∧
  ∀ z ∈ pre, z.2.2.2 ≠ 0 ∧ ∃ nm : String, Cond.classLink m.1.cls z.2.2.2 nm ∈ L0 ∧ (exN i, nm) ∈ XN
theorem run_cat (hr : vx_Run p l e R s mid args below meth c H locs cells slots mc ms (F0 mid pc LS stk) (st.map (vr ρ bs)) (QC dC dI dA N0 ρ σ out1) (QX dC dI dA N0 ρ σ out1) (fun q : Nat => N0 ≤ q)) {i h k n : Nat} (hi : out1.1 = vT (20 + i) 0) (hbm : mc ≤ b.1 ∧ ms ≤ b.2) (hcat : Cat m pc i h)
    (hd : (n = 2 ∧ At m h (.astore k) 2) ∨ (n = 1 ∧ ∃ k' : Fin 4, k = k'.val ∧ At m h (.astore_n k') 1)) (hk : decide (k < m.2.2.1) = true) (hn : nc2 ls k = true)
    (K : Go xs d m (b.1 - mc, b.2 - ms) (h + n) (ls.set k (vT 9 0)) [] out1.2 out) (hS : Sta xs d m p l R s mid args meth c dC dI dA N0 bs X) (hF : FinC m p l e R s mid args below meth c Q dC dI dA N0 bs ρ0 c0 X out) (hD : Dyn R s dC dI dA N0 ρ0 c0 b H locs cells slots ρ σ) (hL : FrR bs m.2.2.1 ρ X σ.2.2 LS ls) :
    W p l e R s mid args below meth c H locs cells slots Q (F0 mid pc LS stk) := by
  intro T hT X9
  obtain ⟨hx, hb, hml, hown, hts, hlk, hst, hK, hN, hXW, hZW, hRf, hRl, hnm, htb, hX⟩ := id hS
  rcases hr T hT X9 with ⟨v, st₀, t, T', L, h0, X', hLL, e1, e2, ⟨ρ', hv, hno, -⟩, hg⟩ | ⟨q, st₀, t, T', L, E, ce, h0, X', hLL, e1, e2, ⟨ρ', j, hj, hj6, hE, he, hc, hH, hFF⟩, hce, hcv, hcl, hst9⟩
  · exact absurd hi (hno i)
  · have hij : j = i := by
      have h9 : vT (20 + j) 0 = vT (20 + i) 0 := hj.symm.trans hi
      have h10 : 20 + j = 20 + i := congrArg (fun v : MV => match v with | .inr (.inr (t, _)) => t | _ => 0) h9
      omega
    subst hij
    have hD' := run_dyn (mc := mc) (ms := ms) hD hbm h0 e1 hLL hFF he hc hH
    obtain ⟨pre, suf, f, t9, ct, hsp, hf1, hf2, hct, hlink, hcast, hpass⟩ := hcat
    have kk : vx_W p l e R s mid args below meth c T'.heap (locs ++ L) (cells + mc) (slots + ms) Q (F0 mid pc LS (st.map (vr ρ bs))) q := by
      refine vx_catch (own := m.1.cls) (name := exN j) (E := exN j) (ce := ce) hown (tableOf pre) { startPc := f, endPc := t9, handlerPc := h, catchType := ct } (tableOf suf) ?_ ?_ ?_ hct (hts _ hlink) (va_Nw.use rfl (hXW.2.2.2.1 _ hcast)) (by rw [e1]; exact hce) hcv (by rw [← hE]; exact hcl) ?_
      · rw [htb, hsp]
        simp [tableOf]
      · intro z hz
        obtain ⟨w, hw, rfl⟩ := List.mem_map.mp hz
        obtain ⟨w1, nm, w2, w3⟩ := hpass w hw
        exact Or.inr ⟨w1, nm, hts _ w2, hXW.2.2.2.2.2.1 _ w3⟩
      · simp [covers, hf1, hf2]
      · show W p l e R s mid args below meth c T'.heap (locs ++ L) (cells + mc) (slots + ms) Q (F0 mid h LS [.ref q])
        have hL' := hL.ext he hc
        rcases hd with ⟨rfl, hd⟩ | ⟨rfl, k', rfl, hd⟩
        · refine lv_astore hx hb hd hL'.1 (of_decide_eq_true hk) rfl (fun LS' h' => ?_)
          exact K p l e R s mid args below meth c Q dC dI dA N0 bs ρ0 c0 X hS hF _ _ _ _ ρ' LS' hD' (hL'.setJ (of_decide_eq_true hk) hn h') (fun _ h => absurd h List.not_mem_nil)
        · refine lv_astore_n hx hb hd rfl hL'.1 (of_decide_eq_true hk) rfl (fun LS' h' => ?_)
          exact K p l e R s mid args below meth c Q dC dI dA N0 bs ρ0 c0 X hS hF _ _ _ _ ρ' LS' hD' (hL'.setJ (of_decide_eq_true hk) hn h') (fun _ h => absurd h List.not_mem_nil)
    obtain ⟨t2, a1, b1⟩ := kk T' rfl X'
    exact ⟨t2, hst9.trans a1, b1⟩
end RUN
theorem gin {m' : MI} {n : Nat} (h : MB m' n) : GoodIn L0 (wsM m') := fun w hw => (List.mem_cons.mp hw).elim (fun e => by rw [e]; exact ⟨h.2.1, good_of_word (L0_good h.2.1)⟩) (fun h => ⟨h, good_of_word (L0_good h)⟩)
theorem wsM0 (hh : m'.2.2.2.2.1 = []) : wsM m' = Cond.code m'.1 m'.2.1 m'.2.2.1 m'.2.2.2.1 :: L0 := by unfold wsM headW; rw [if_pos hh]
theorem wsM1 (hh : m'.2.2.2.2.1 ≠ []) : wsM m' = Cond.codeWith m'.1 m'.2.1 m'.2.2.1 m'.2.2.2.1 m'.2.2.2.2.1 :: L0 := by unfold wsM headW; rw [if_neg hh]
/-- links: of a virtual method, a static one, one with handlers, a nest mate's static one, a constructor, a nest mate's -/
def LkV (own : String) (ix : Nat) (m' : MI) (ci n : Nat) : Prop := Cond.methodLink own ix m'.1 ∈ L0 ∧ MV' m' n ∧ m'.2.2.2.2.1 = [] ∧ m'.2.2.1 ≤ 21 ∧ cnm ci = m'.1.cls ∧ ci < 13
def LkS (own : String) (ix : Nat) (m' : MI) (n : Nat) : Prop := Cond.methodLink own ix m'.1 ∈ L0 ∧ MS m' n ∧ m'.2.2.2.2.1 = [] ∧ m'.2.2.1 ≤ 21
def LkX (own : String) (ix : Nat) (m' : MI) (n : Nat) : Prop := Cond.methodLink own ix m'.1 ∈ L0 ∧ MS m' n ∧ m'.2.2.2.2.1 ≠ [] ∧ m'.2.2.1 ≤ 21
def LkN (own : String) (ix : Nat) (m' : MI) (n : Nat) : Prop := (∃ h : String, (own, ix, m'.1, h) ∈ XM) ∧ MS m' n ∧ m'.2.2.2.2.1 = [] ∧ m'.2.2.1 ≤ 21
def LkI (own : String) (ix : Nat) (m' : MI) (n : Nat) : Prop := Cond.methodLink own ix m'.1 ∈ L0 ∧ MN m' n ∧ m'.2.2.2.2.1 = [] ∧ m'.2.2.1 ≤ 21 ∧ m'.2.2.2.1 = none
def LkJ (own : String) (ix : Nat) (m' : MI) (n : Nat) : Prop := (∃ h : String, (own, ix, m'.1, h) ∈ XM) ∧ MN m' n ∧ m'.2.2.2.2.1 = [] ∧ m'.2.2.1 ≤ 21 ∧ m'.2.2.2.1 = none
/-- the callee's run, of each kind of call -/
def CR (σ : St) (own : String) (ix : Nat) (m' : MI) (n : Nat) (m : MI) (pc : Nat) (as : List MV) : Prop :=
  (∃ (ci r : Nat) (as' : List MV), as = vA r :: as' ∧ as'.length = n ∧ GamD σ r = (10 + ci, 0) ∧ LkV own ix m' ci n ∧ At m pc (.invokevirtual ix) 3) ∨ (as.length = n ∧ LkS own ix m' n ∧ At m pc (.invokestatic ix) 3) ∨ (as.length = n ∧ LkX own ix m' n ∧ At m pc (.invokestatic ix) 3) ∨ (as.length = n ∧ LkN own ix m' n ∧ At m pc (.invokestatic ix) 3) ∨
  (∃ (r : Nat) (as' : List MV), as = vA r :: as' ∧ as'.length = n ∧ LkI own ix m' n ∧ At m pc (.invokespecial ix) 3) ∨ (∃ (r : Nat) (as' : List MV), as = vA r :: as' ∧ as'.length = n ∧ LkJ own ix m' n ∧ At m pc (.invokespecial ix) 3)
set_option maxHeartbeats 1000000 in
theorem cr_run {d' mc ms n ix : Nat} {as stk : List MV} (hcr : CR σ m.1.cls ix m' n m pc as) (hc : Con d' m' mc ms as σ out1) (hd' : d' < d) (hs : stk = as.reverse ++ st) (hsum : (st.map cat).sum ≤ 8) (hns : as.all nos = true) (hbm : mc ≤ b.1 ∧ ms ≤ b.2)
    {p : Program} {l : Launch} {e : Env} {R : Room} {s : State} {mid : MethodId} {args : Array Value} {below : List Frame} {meth : Method} {c : Code} {dC : Nat → ClassId} {dI : Nat → Nat → Nat} {dA : Nat → ClassId} {N0 bs : Nat} {ρ0 : Nat → Nat} {c0 : Nat} {X : Int → Prop} {H : Heap} {locs : List Loc} {cells slots : Nat} {ρ : Nat → Nat} {LS : Array Slot}
    (hS : Sta xs d m p l R s mid args meth c dC dI dA N0 bs X) (hD : Dyn R s dC dI dA N0 ρ0 c0 b H locs cells slots ρ σ) (hL : FrR bs m.2.2.1 ρ X σ.2.2 LS ls) (ho : ∀ v ∈ stk, okv σ.2.2 X v) :
    vx_Run p l e R s mid args below meth c H locs cells slots mc ms (F0 mid pc LS (stk.map (vr ρ bs))) (st.map (vr ρ bs)) (QC dC dI dA N0 ρ σ out1) (QX dC dI dA N0 ρ σ out1) (fun q : Nat => N0 ≤ q) := by
  obtain ⟨hx, hb, hml, hown, hts, hlk, hst, hK, hN, hXW, hZW, hRf, hRl, hnm, htb, hX⟩ := id hS
  have hoa : ∀ v ∈ as, okv σ.2.2 noX v := fun v hv => okv_no (ho v (by rw [hs]; exact List.mem_append_left _ (List.mem_reverse.mpr hv))) (List.all_eq_true.mp hns v hv)
  have hM := hc hoa l hst dC dI dA N0 ρ
  have hW : 2 * (F0 mid pc LS (stk.map (vr ρ bs))).monitorRoom + ((st.map (vr ρ bs)).map fun v => v.category).sum ≤ 8 := lv_room (by rw [cats]; exact hsum)
  have hf : cells + mc ≤ R.cells ∧ slots + ms ≤ R.slots := by obtain ⟨-, -, -, -, h5, h6⟩ := hD; omega
  have hrm : ∀ _ : Nat, m'.2.2.1 ≤ 21 → (rmOf d' mc ms).frames + 1 ≤ R.frames ∧ 8 + (m'.2.2.1 + 11) + (rmOf d' mc ms).locals ≤ R.locals := by
    intro _ h; show d' + 4 + 1 ≤ _ ∧ 8 + (m'.2.2.1 + 11) + (40 * d' + 124) ≤ _; omega
  have hPc : ∀ U : State, U.heap = H → s.WarmedH U.vm → (fun a U => a = (as.map (vr ρ 0)).toArray ∧ UW dC dI dA N0 ρ σ U) (as.map (vr ρ bs)).toArray U := fun U hU hW => ⟨by rw [map_no hns], UW.of hS hD hU hW⟩
  have hstk : (stk.map (vr ρ bs)) = (as.map (vr ρ bs)).reverse ++ st.map (vr ρ bs) := by rw [hs, List.map_append, List.map_reverse]
  have fix : CallFix p mid c m.2.1 m.2.2.1 s args L0 m.1.cls := ⟨hx, hb, hml, hown, hts⟩
  rcases hcr with ⟨ci, r, as', rfl, hn, hg, hlk', hd⟩ | ⟨hn, hlk', hd⟩ | ⟨hn, hlk', hd⟩ | ⟨hn, hlk', hd⟩ | ⟨r, as', rfl, hn, hlk', hd⟩ | ⟨r, as', rfl, hn, hlk', hd⟩
  · obtain ⟨hl, ⟨⟨w1, w2, w3, w4, w5⟩, w6, w7⟩, hh, hm40, hci, hci11⟩ := hlk'
    have hr9 : r < σ.2.2 := hoa _ List.mem_cons_self
    have he := wsOf_get (dA := dA) (ρ := ρ) hr9
    rw [ent_o hg] at he
    have hrecv := va_recv hK hD.1.1 (vwc_at ci hci11) he
    refine vx_runV (As := as'.map (vr ρ bs)) (b := ρ r) (C := m'.1.cls) (n := n) fix hM ⟨callB_of n hts (gin ⟨w1, w2, w3, w4, w5⟩) (wsM0 hh) rfl rfl (hts _ w1) (hts _ hl) ⟨w3.1, w3.2, w4⟩ (hrm 0 hm40), hts _ w6, hts _ w7⟩ ⟨UW.blind, by rw [← hci]; exact hrecv, hPc⟩ rfl (by simpa using hn) hL.size ?_ hW hd hf
    rw [hstk]; simp
    rfl
  · obtain ⟨hl, ⟨⟨w1, w2, w3, w4, w5⟩, w6⟩, hh, hm40⟩ := hlk'
    exact vx_runS (As := as.map (vr ρ bs)) (n := n) fix hM ⟨callB_of n hts (gin ⟨w1, w2, w3, w4, w5⟩) (wsM0 hh) rfl rfl (hts _ w1) (hts _ hl) ⟨w3.1, w3.2, w4⟩ (hrm 0 hm40), hts _ w6⟩ ⟨UW.blind, hPc⟩ rfl (by simpa using hn) hL.size hstk hW hd hf
  · obtain ⟨hl, ⟨⟨w1, w2, w3, w4, w5⟩, w6⟩, hh, hm40⟩ := hlk'
    refine vx_runSX (As := as.map (vr ρ bs)) (n := n) fix hM ⟨⟨rfl, rfl, (hrm 0 hm40).1, (hrm 0 hm40).2, pay_in hts (gin ⟨w1, w2, w3, w4, w5⟩), by rw [wsM1 hh]; exact List.mem_cons_self⟩, ?_, hts _ w1, w3, fun sig h => ?_, hts _ hl, hts _ w6⟩ ⟨UW.blind, hPc⟩ rfl (by simpa using hn) hL.size hstk hW hd hf
    · have h9 := hts _ w2
      unfold headW at h9
      rw [if_neg hh] at h9
      exact h9
    · rw [h] at w4
      exact (Option.some.inj w4).symm
  · obtain ⟨⟨w0, hl⟩, ⟨⟨w1, w2, w3, w4, w5⟩, w6⟩, hh, hm40⟩ := hlk'
    exact vx_runSN (As := as.map (vr ρ bs)) (n := n) fix hM ⟨va_cnB n hts (gin ⟨w1, w2, w3, w4, w5⟩) (wsM0 hh) rfl rfl (hXW.1 _ hl) (hts _ w1) ⟨w3.1, w3.2, w4⟩ (hrm 0 hm40), hts _ w6, trivial⟩ ⟨UW.blind, hPc⟩ rfl (by simpa using hn) hL.size hstk hW hd hf
  · obtain ⟨hl, ⟨⟨w1, w2, w3, w4, w5⟩, w6, w7⟩, hh, hm40, hret⟩ := hlk'
    have hw0 := wsM0 hh
    rw [hret] at hw0
    refine vx_runI (As := as'.map (vr ρ bs)) (b := ρ r) (n := n) fix hM ⟨callB_of n hts (gin ⟨w1, w2, w3, w4, w5⟩) hw0 rfl rfl (hts _ w1) (hts _ hl) ⟨w3.1, w3.2, w4⟩ (hrm 0 hm40), w7, hts _ w6⟩ ⟨UW.blind, hPc⟩ rfl (by simpa using hn) hL.size ?_ hW hd hf
    rw [hstk]; simp
    rfl
  · obtain ⟨⟨w0, hl⟩, ⟨⟨w1, w2, w3, w4, w5⟩, w6, w7⟩, hh, hm40, hret⟩ := hlk'
    have hw0 := wsM0 hh
    rw [hret] at hw0
    refine vx_runIN (As := as'.map (vr ρ bs)) (b := ρ r) (n := n) fix hM ⟨va_cnB n hts (gin ⟨w1, w2, w3, w4, w5⟩) hw0 rfl rfl (hXW.1 _ hl) (hts _ w1) ⟨w3.1, w3.2, w4⟩ (hrm 0 hm40), w7, hts _ w6⟩ ⟨UW.blind, hPc⟩ rfl (by simpa using hn) hL.size ?_ hW hd hf
    rw [hstk]; simp
    rfl
/-- a call that returns -/
theorem go_call {d' mc ms n ix : Nat} {as stk : List MV} (hcr : CR σ m.1.cls ix m' n m pc as) (hc : Con d' m' mc ms as σ out1) (hno : ∀ i, out1.1 ≠ vT (20 + i) 0) (hd' : d' < d) (hs : stk = as.reverse ++ st) (hsum : (st.map cat).sum ≤ 8) (hns : as.all nos = true) (hbm : mc ≤ b.1 ∧ ms ≤ b.2)
    (K : Go xs d m (b.1 - mc, b.2 - ms) (pc + 3) ls (push out1.1 st) out1.2 out) : Go xs d m b pc ls stk σ out := by
  intro p l e R s mid args below meth c Q dC dI dA N0 bs ρ0 c0 X hS hF H locs cells slots ρ LS hD hL ho
  exact run_ret (cr_run hcr hc hd' hs hsum hns hbm hS hD hL ho) hno hbm K hS hF hD hL (fun v hv => ho v (by rw [hs]; exact List.mem_append_right _ hv))
/-- a call that throws, and nobody catches it here -/
theorem go_callT {d' mc ms n ix i : Nat} {as stk : List MV} (hcr : CR σ m.1.cls ix m' n m pc as) (hc : Con d' m' mc ms as σ out) (hi : out.1 = vT (20 + i) 0) (hh : m.2.2.2.2.1 = []) (hd' : d' < d) (hs : stk = as.reverse ++ st) (hsum : (st.map cat).sum ≤ 8) (hns : as.all nos = true) (hbm : mc ≤ b.1 ∧ ms ≤ b.2) : Go xs d m b pc ls stk σ out := by
  intro p l e R s mid args below meth c Q dC dI dA N0 bs ρ0 c0 X hS hF H locs cells slots ρ LS hD hL ho
  exact run_thr (cr_run hcr hc hd' hs hsum hns hbm hS hD hL ho) hi hbm hh rfl hF hD hL
/-- a call that throws, and it is caught here -/
theorem go_callC {d' mc ms n ix i h k n' : Nat} {as stk : List MV} (hcr : CR σ m.1.cls ix m' n m pc as) (hc : Con d' m' mc ms as σ out1) (hi : out1.1 = vT (20 + i) 0) (hcat : Cat m pc i h) (hd : (n' = 2 ∧ At m h (.astore k) 2) ∨ (n' = 1 ∧ ∃ k' : Fin 4, k = k'.val ∧ At m h (.astore_n k') 1)) (hk : decide (k < m.2.2.1) = true) (hn : nc2 ls k = true)
    (hd' : d' < d) (hs : stk = as.reverse ++ st) (hsum : (st.map cat).sum ≤ 8) (hns : as.all nos = true) (hbm : mc ≤ b.1 ∧ ms ≤ b.2) (K : Go xs d m (b.1 - mc, b.2 - ms) (h + n') (ls.set k (vT 9 0)) [] out1.2 out) : Go xs d m b pc ls stk σ out := by
  intro p l e R s mid args below meth c Q dC dI dA N0 bs ρ0 c0 X hS hF H locs cells slots ρ LS hD hL ho
  exact run_cat (cr_run hcr hc hd' hs hsum hns hbm hS hD hL ho) hi hbm hcat hd hk hn K hS hF hD hL
theorem go_ret {v : MV} (hd : At m pc (retI v) 1) (hv : ∀ t z, v = vT t z → t < 4) (he : out = (v, σ)) : Go xs d m b pc ls [v] σ out := by
  intro p l e R s mid args below meth c Q dC dI dA N0 bs ρ0 c0 X hS hF H locs cells slots ρ LS hD hL ho
  subst he
  have h := hF.1 H locs cells slots ρ LS pc ⟨hD.1, hD.2.1, hD.2.2.1, hD.2.2.2.1, by have := hD.2.2.2.2.1; show cells + 0 ≤ _; omega, by have := hD.2.2.2.2.2; show slots + 0 ≤ _; omega⟩ hL.size hd (okh ho) (fun t z h => by have := hv t z h; omega)
  have e9 : rstk ρ bs v = [vr ρ bs v] := by
    unfold rstk
    split
    · exact absurd (hv 8 _ rfl) (by decide)
    · rfl
  rw [e9] at h
  exact h
theorem go_reti {z : Int} (hd : At m pc .ireturn 1) (he : out = (vI z, σ)) : Go xs d m b pc ls [vI z] σ out := go_ret hd (fun t z h => by cases h) he
theorem go_reta {a : Nat} (hd : At m pc .areturn 1) (he : out = (vA a, σ)) : Go xs d m b pc ls [vA a] σ out := go_ret hd (fun t z h => by cases h) he
theorem go_retl {z : Int} (hd : At m pc .lreturn 1) (he : out = (vT 1 z, σ)) : Go xs d m b pc ls [vT 1 z] σ out := go_ret hd (fun t z h => by cases h; decide) he
theorem go_retf {z : Int} (hd : At m pc .freturn 1) (he : out = (vT 2 z, σ)) : Go xs d m b pc ls [vT 2 z] σ out := go_ret hd (fun t z h => by cases h; decide) he
theorem go_retd {z : Int} (hd : At m pc .dreturn 1) (he : out = (vT 3 z, σ)) : Go xs d m b pc ls [vT 3 z] σ out := go_ret hd (fun t z h => by cases h; decide) he
theorem go_retv (hd : At m pc .return_ 1) (he : out = (vT 8 0, σ)) : Go xs d m b pc ls [] σ out := by
  intro p l e R s mid args below meth c Q dC dI dA N0 bs ρ0 c0 X hS hF H locs cells slots ρ LS hD hL ho
  subst he
  exact hF.1 H locs cells slots ρ LS pc ⟨hD.1, hD.2.1, hD.2.2.1, hD.2.2.2.1, by have := hD.2.2.2.2.1; show cells + 0 ≤ _; omega, by have := hD.2.2.2.2.2; show slots + 0 ≤ _; omega⟩ hL.size hd trivial (fun t z h => by cases h; decide)
theorem go_throw {i : Nat} (hw : ThW m pc i ∨ ThWw m pc i) (hi : i < 6) (hh : m.2.2.2.2.1 = []) (hsum : (st.map cat).sum ≤ 8) (hb9 : 1 ≤ b.1 ∧ 6 ≤ b.2) (he : out = (vT (20 + i) 0, σ)) (h29 : 2 ≤ d := by decide) : Go xs d m b pc ls st σ out := by
  intro p l e R s mid args below meth c Q dC dI dA N0 bs ρ0 c0 X hS hF H locs cells slots ρ LS hD hL ho
  subst he
  exact hF.2.1 H locs cells slots ρ LS pc i (st.map (vr ρ bs)) rfl hi (by have := hS.2.2.2.2.2.2.2.2.2.2.2.1; omega) ⟨hD.1, hD.2.1, hD.2.2.1, hD.2.2.2.1, by have := hD.2.2.2.2.1; show cells + 1 ≤ _; omega, by have := hD.2.2.2.2.2; show slots + 6 ≤ _; omega⟩ hL.size hw hh (by rw [cats]; exact hsum)
end GoCalls
