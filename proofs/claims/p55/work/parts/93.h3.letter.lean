/-! The letter drawn: the JDK reads the text. -/
section Letter
def m_jp : MI := (⟨"jdk/internal/util/Preconditions", "checkIndex", "(IILjava/util/function/BiFunction;)I"⟩, prog_35_method_11_code, 3, some .int, [], [])
theorem mb_jp : MB m_jp 3 := ⟨inL 44 (by decide +kernel) (by decide +kernel), inL 398 (by decide +kernel) (by decide +kernel), ⟨by decide +kernel, by decide +kernel⟩, by decide +kernel, by decide +kernel⟩
def m_jk : MI := (⟨"java/lang/String", "checkIndex", "(II)V"⟩, prog_26_method_155_code, 2, none, [], [])
theorem mb_jk : MB m_jk 2 := ⟨inL 42 (by decide +kernel) (by decide +kernel), inL 393 (by decide +kernel) (by decide +kernel), ⟨by decide +kernel, by decide +kernel⟩, by decide +kernel, by decide +kernel⟩
def m_jc : MI := (⟨"java/lang/StringLatin1", "charAt", "([BI)C"⟩, prog_27_method_2_code, 2, some .char, [], [])
theorem mb_jc : MB m_jc 2 := ⟨inL 43 (by decide +kernel) (by decide +kernel), inL 390 (by decide +kernel) (by decide +kernel), ⟨by decide +kernel, by decide +kernel⟩, by decide +kernel, by decide +kernel⟩
def m_jl : MI := (⟨"java/lang/String", "isLatin1", "()Z"⟩, prog_26_method_154_code, 1, some .boolean, [], [])
theorem mb_jl : MB m_jl 0 := ⟨inL 42 (by decide +kernel) (by decide +kernel), inL 385 (by decide +kernel) (by decide +kernel), ⟨by decide +kernel, by decide +kernel⟩, by decide +kernel, by decide +kernel⟩
def m_js : MI := (⟨"java/lang/String", "charAt", "(I)C"⟩, prog_26_method_56_code, 2, some .char, [], [])
theorem mb_js : MB m_js 1 := ⟨inL 42 (by decide +kernel) (by decide +kernel), inL 381 (by decide +kernel) (by decide +kernel), ⟨by decide +kernel, by decide +kernel⟩, by decide +kernel, by decide +kernel⟩
def ST (q v : Nat) (A : Nat → Prop) (U : State) (H : Heap) : Prop := vk_S 1 [5] [[97, 98, 32, 47, 99]] (fun _ => q) (fun _ => v) A U H
/-- what a frame of the JDK's knows here -/
def JF (d : Nat) (m : MI) (p : Program) (l : Launch) (R : Room) (s : State) (mid : MethodId) (args : Array Value) (meth : Method) (c : Code) (N0 q v : Nat) : Prop :=
  p.tables.exec = Jvm.exec ∧ c.code = m.2.1 ∧ c.maxLocals = m.2.2.1 ∧ s.vm.findClass m.1.cls = some mid.cls ∧ (∀ w ∈ L0, w.before args s = true) ∧ meth.locks = false ∧ meth.sig.returnType = m.2.2.2.1 ∧ N0 ≤ s.heap.size ∧ ZL (fun z : Nat => N0 ≤ z) s s.heap ∧ ST q v (fun z : Nat => N0 ≤ z) s s.heap ∧ R = rmOf d 0 0
def JP (q v N0 : Nat) (av : List Value) (a : Array Value) (U : State) : Prop := a = av.toArray ∧ N0 ≤ U.heap.size ∧ ZL (fun z : Nat => N0 ≤ z) U U.heap ∧ ST q v (fun z : Nat => N0 ≤ z) U U.heap
def JCon (d : Nat) (m : MI) (av : List Value) (o : Option Value) (q v : Nat) : Prop := ∀ (l : Launch) (N0 : Nat),
  vx_Met l m.1 (wsM m) (rmOf d 0 0) (JP q v N0 av) (fun _ st r t => r = .returned o ∧ va_F (fun z : Nat => N0 ≤ z) st t) (fun _ _ _ => False) 0 0 (fun z : Nat => N0 ≤ z)
abbrev JQ (below : List Frame) (o : Option Value) (args : Array Value) (s : State) (N0 : Nat) : State → Prop := vx_MQ below (fun _ st r t => r = .returned o ∧ va_F (fun z : Nat => N0 ≤ z) st t) (fun _ _ _ => False) args s 0 0 (fun z : Nat => N0 ≤ z)
variable {p : Program} {l : Launch} {e : Env} {R : Room} {s : State} {mid : MethodId} {args : Array Value} {below : List Frame} {meth : Method} {c : Code} {H : Heap} {locs : List Loc} {N0 q v d d' pc n ix : Nat} {m m' : MI} {o : Option Value} {LS : Array Slot} {rest : List Value} {Q : State → Prop}
theorem JP.blind {av : List Value} : FrameBlind (JP q v N0 av) := by
  intro a U g mk ⟨h1, h2, h3, h4⟩
  exact ⟨h1, h2, ZL.to (s := U) (U := U.calling g mk a) (Or.inr rfl) h3 (fun _ _ _ => rfl), vk_S.moved (u := U) (U := U.calling g mk a) (Vm.Alike.refl U.vm) h4⟩
theorem ST.to {U : State} (hS : va_S (fun z : Nat => N0 ≤ z) s.heap H locs) (hE : ST q v (fun z : Nat => N0 ≤ z) s s.heap) (hU : U.heap = H) (hW : s.WarmedH U.vm) : ST q v (fun z : Nat => N0 ≤ z) U U.heap := by
  rw [hU]
  exact vk_S.moved hW.alike (vk_S.kept hE hS.2.1)
theorem JF.pre {av : List Value} (h : JF d m p l R s mid args meth c N0 q v) (hS : va_S (fun z : Nat => N0 ≤ z) s.heap H locs) : ∀ U : State, U.heap = H → s.WarmedH U.vm → JP q v N0 av av.toArray U := fun U hU hW => by
  obtain ⟨hx, hb, hml, hown, hts, hlk, hrt, hN, hZ, hE, hR⟩ := h
  exact ⟨rfl, by rw [hU]; exact Nat.le_trans hN hS.1, by rw [hU]; exact ZL.to (Or.inl hW) hZ hS.2.1, ST.to hS hE hU hW⟩
theorem jrun {cells slots : Nat} {stk9 : List Value} (hS : va_S (fun z : Nat => N0 ≤ z) s.heap H locs) (hr : vx_Run p l e R s mid args below meth c H locs cells slots 0 0 (F0 mid pc LS (stk9)) rest (fun st r t => r = .returned o ∧ va_F (fun z : Nat => N0 ≤ z) st t) (fun _ _ _ => False) (fun z : Nat => N0 ≤ z))
    (K : ∀ (H' : Heap) (locs' : List Loc), va_S (fun z : Nat => N0 ≤ z) s.heap H' locs' → W p l e R s mid args below meth c H' locs' cells slots Q (F0 mid (pc + 3) LS (o.toList ++ rest))) : W p l e R s mid args below meth c H locs cells slots Q (F0 mid pc LS stk9) := by
  intro T hT X9
  rcases hr T hT X9 with ⟨w, st₀, t, T', L, h0, X', hLL, e1, e2, ⟨hv, hFF⟩, hg⟩ | ⟨q, st₀, t, T', L, E, ce, h0, X', hLL, e1, e2, hf, -⟩
  · cases hv
    obtain ⟨k1, k2, k3⟩ := vx_keep h0 e1 hS (A1 := fun z : Nat => N0 ≤ z) (fun _ _ h => h) (free := fun z : Nat => N0 ≤ z) (fun _ h => h) hLL hFF
    obtain ⟨t2, a1, b1⟩ := K T'.heap (locs ++ L) k3 T' rfl X'
    exact ⟨t2, hg t2 a1, b1⟩
  · exact hf.elim
theorem jret {w : Int32} {ty : FieldType} (h : JF d m p l R s mid args meth c N0 q v) (hS : va_S (fun z : Nat => N0 ≤ z) s.heap H locs) (hty : m.2.2.2.1 = some ty) (hnr : narrow ty (.int w) = .int w) (hty2 : ty = .int ∨ ty = .boolean ∨ ty = .char) (hdg : decode m.2.1 pc = .ok (.ireturn, 1)) : W p l e R s mid args below meth c H locs 0 0 (JQ below (some (.int w)) args s N0) (F0 mid pc LS [.int w]) := by
  obtain ⟨hx, hb, hml, hown, hts, hlk, hrt, hN, hZ, hE, hR⟩ := h
  have hQ : ∀ t : State, t.heap = H → s.WarmedH t.vm → (Outcome.returned (some (.int w)) = .returned (some (.int w)) ∧ va_F (fun z : Nat => N0 ≤ z) s t) := fun t ht hW => ⟨rfl, hS.F ht⟩
  refine W.widen (k := 0) (n := 0) (Nat.le_refl _) (Nat.le_refl _) (vx_ret ?_)
  rcases hty2 with e | e | e <;> subst e
  · exact W.zret (ty := .int) hx hb (hrt.trans hty) hnr hQ hS.2.2 hdg hlk
  · exact W.zret (ty := .boolean) hx hb (hrt.trans hty) hnr hQ hS.2.2 hdg hlk
  · exact W.zret (ty := .char) hx hb (hrt.trans hty) hnr hQ hS.2.2 hdg hlk
theorem jcalS {av : List Value} (h : JF d m p l R s mid args meth c N0 q v) (hc : JCon d' m' av o q v) (hd' : d' < d) (hk : Cond.methodLink m.1.cls ix m'.1 ∈ L0) (hm : MS m' n) (hh : m'.2.2.2.2.1 = []) (hm40 : m'.2.2.1 ≤ 21) (hn : av.length = n) (hdg : decode m.2.1 pc = .ok (.invokestatic ix, 3)) (hS : va_S (fun z : Nat => N0 ≤ z) s.heap H locs) (hsz : LS.size = m.2.2.1) (hsum : (rest.map fun w => w.category).sum ≤ 8)
    (K : ∀ (H' : Heap) (locs' : List Loc), va_S (fun z : Nat => N0 ≤ z) s.heap H' locs' → W p l e R s mid args below meth c H' locs' 0 0 Q (F0 mid (pc + 3) LS (o.toList ++ rest))) : W p l e R s mid args below meth c H locs 0 0 Q (F0 mid pc LS (av.reverse ++ rest)) := by
  obtain ⟨hx, hb, hml, hown, hts, hlk, hrt, hN, hZ, hE, hR⟩ := id h
  obtain ⟨⟨w1, w2, w3, w4, w5⟩, w6⟩ := hm
  have hrm : ∀ _ : Nat, m'.2.2.1 ≤ 21 → (rmOf d' 0 0).frames + 1 ≤ R.frames ∧ 8 + (m'.2.2.1 + 11) + (rmOf d' 0 0).locals ≤ R.locals := by
    intro _ h9; rw [hR]; show d' + 4 + 1 ≤ d + 4 ∧ 8 + (m'.2.2.1 + 11) + (40 * d' + 124) ≤ 40 * d + 124; omega
  have fix : CallFix p mid c m.2.1 m.2.2.1 s args L0 m.1.cls := ⟨hx, hb, hml, hown, hts⟩
  have hW : 2 * (F0 mid pc LS (av.reverse ++ rest)).monitorRoom + (rest.map fun v => v.category).sum ≤ 8 := lv_room hsum
  have hr := vx_runS (e := e) (below := below) (locs := locs) (meth := meth) (As := av) (n := n) fix (hc l N0) ⟨callB_of n hts (gin ⟨w1, w2, w3, w4, w5⟩) (wsM0 hh) rfl rfl (hts _ w1) (hts _ hk) ⟨w3.1, w3.2, w4⟩ (hrm 0 hm40), hts _ w6⟩ ⟨JP.blind, h.pre hS⟩ (H := H) (cells := 0) (slots := 0) (g := F0 mid pc LS (av.reverse ++ rest)) (rest := rest) rfl hn hsz rfl hW hdg ⟨Nat.zero_le _, Nat.zero_le _⟩
  exact jrun hS hr K
theorem jretv (h : JF d m p l R s mid args meth c N0 q v) (hS : va_S (fun z : Nat => N0 ≤ z) s.heap H locs) (hty : m.2.2.2.1 = none) (hdg : decode m.2.1 pc = .ok (.return_, 1)) : W p l e R s mid args below meth c H locs 0 0 (JQ below none args s N0) (F0 mid pc LS []) := by
  obtain ⟨hx, hb, hml, hown, hts, hlk, hrt, hN, hZ, hE, hR⟩ := h
  have hQ : ∀ t : State, t.heap = H → s.WarmedH t.vm → (Outcome.returned none = .returned none ∧ va_F (fun z : Nat => N0 ≤ z) s t) := fun t ht hW => ⟨rfl, hS.F ht⟩
  refine W.widen (k := 0) (n := 0) (Nat.le_refl _) (Nat.le_refl _) (vx_ret ?_)
  exact W.vret hx hb (hrt.trans hty) hQ hS.2.2 hdg hlk
theorem jcon_of {av : List Value} (hmb : MB m n) (hh : m.2.2.2.2.1 = []) (hlen : (lg_sl av).length ≤ m.2.2.1) (body : ∀ (p : Program) (l : Launch) (e : Env) (R : Room) (s : State) (mid : MethodId) (args : Array Value) (below : List Frame) (meth : Method) (c : Code) (N0 : Nat) (LS : Array Slot), JF d m p l R s mid args meth c N0 q v → lv_has LS m.2.2.1 (lv_args 0 av) → W p l e R s mid args below meth c s.heap [] 0 0 (JQ below o args s N0) (F0 mid 0 LS [])) : JCon d m av o q v := by
  intro l N0
  refine vx_ofW (cc := m.2.1) (maxL := m.2.2.1) (ret := m.2.2.2.1) hmb.2.2.2.2 (wsM0 hh) (fun p e s mid args below meth c s₁ B hml ht hP => ?_)
  obtain ⟨ha, hN, hZ, hE⟩ := hP
  subst ha
  have hts := atoms_spec (ws := wsM m) B.pre
  have hown : s.vm.findClass m.1.cls = some mid.cls := findClass_of_methodNamed B.named
  have hl := lv_entry av (n := m.2.2.1) hlen
  rw [lg_entry_eq]
  exact body p l e (rmOf d 0 0) s mid _ below meth c N0 _ ⟨B.exec, B.bytes, hml, hown, fun w hw => hts w (List.mem_cons_of_mem _ hw), B.notSynchronized, B.returns, hN, hZ, hE, rfl⟩ hl
theorem nI5 : ∀ k, k < 5 → ¬ nI k < 0 ∧ nI k < 5 := by decide
def chr (k : Nat) : Int32 := ([97, 98, 32, 47, 99] : List Int32).getD k 0
theorem chr_ok : ∀ k, k < 5 → ((chr k &&& 255).toUInt32 % 65536).toInt32 = chr k ∧ narrow .char (.int (chr k)) = .int (chr k) := by decide
theorem con_jp {k : Nat} (hk : k < 5) {bf : Value} (hbf : bf = .null ∨ ∃ t, bf = .ref t) : JCon 0 m_jp [.int (nI k), .int 5, bf] (some (.int (nI k))) q v := by
  refine jcon_of mb_jp rfl (by rcases hbf with e | ⟨t, e⟩ <;> subst e <;> exact Nat.le_of_ble_eq_true rfl) (fun p l e R s mid args below meth c N0 LS h hL => ?_)
  obtain ⟨hx, hb, hml, hown, hts, hlk, hrt, hN, hZ, hE, hR⟩ := id h
  have h0 : LS[0]? = some (.val (.int (nI k))) := hL.2.2 (0, _) List.mem_cons_self
  have h1 : LS[1]? = some (.val (.int 5)) := hL.2.2 (1, _) (List.mem_cons_of_mem _ List.mem_cons_self)
  obtain ⟨n1, n2⟩ := nI5 k hk
  refine lv_iload_n hx hb (k := 0) (i := 0) (by decide +kernel) rfl h0 ?_
  refine lv_if_lt hx hb (off := 8) (tgt := 9) (by decide +kernel) (by decide) (fun z => absurd z n1) (fun _ => ?_)
  refine lv_iload_n hx hb (k := 0) (i := 0) (by decide +kernel) rfl h0 ?_
  refine lv_iload_n hx hb (k := 1) (i := 1) (by decide +kernel) rfl h1 ?_
  refine lv_icmp_lt hx hb (off := 10) (tgt := 16) (by decide +kernel) (by decide) (fun _ => ?_) (fun z => absurd n2 z)
  refine lv_iload_n hx hb (k := 0) (i := 0) (by decide +kernel) rfl h0 ?_
  exact jret h va_S.rf (ty := .int) rfl rfl (Or.inl rfl) (by decide +kernel)
theorem con_jk {k : Nat} (hk : k < 5) : JCon 1 m_jk [.int (nI k), .int 5] none q v := by
  refine jcon_of mb_jk rfl (Nat.le_of_ble_eq_true rfl) (fun p l e R s mid args below meth c N0 LS h hL => ?_)
  obtain ⟨hx, hb, hml, hown, hts, hlk, hrt, hN, hZ, hE, hR⟩ := id h
  have h0 : LS[0]? = some (.val (.int (nI k))) := hL.2.2 (0, _) List.mem_cons_self
  have h1 : LS[1]? = some (.val (.int 5)) := hL.2.2 (1, _) (List.mem_cons_of_mem _ List.mem_cons_self)
  have hst : ∀ bf : Value, (bf = .null ∨ ∃ t, bf = .ref t) → va_Z "jdk/internal/util/Preconditions" "SIOOBE_FORMATTER" "Ljava/util/function/BiFunction;" bf (fun z : Nat => N0 ≤ z) s s.heap → W p l e R s mid args below meth c s.heap [] 0 0 (JQ below none args s N0) (F0 mid 0 LS []) := fun bf hbf hz => by
    refine lv_iload_n hx hb (k := 0) (i := 0) (by decide +kernel) rfl h0 ?_
    refine lv_iload_n hx hb (k := 1) (i := 1) (by decide +kernel) rfl h1 ?_
    refine va_gets hx hb hz va_S.rf hown (hts _ (inL 394 (by decide +kernel) (by decide +kernel))) (fun x h => h) (index := 1053) (by decide +kernel) ?_
    refine jcalS (av := [.int (nI k), .int 5, bf]) (rest := []) h (con_jp hk hbf) (by decide) (ix := 1059) (inL 396 (by decide +kernel) (by decide +kernel)) ⟨mb_jp, inL 397 (by decide +kernel) (by decide +kernel)⟩ rfl (by decide) rfl (by decide +kernel) va_S.rf hL.1 (by decide) (fun H' locs' hS => ?_)
    refine lv_pop hx hb (by decide +kernel) rfl ?_
    exact jretv h hS rfl (by decide +kernel)
  rcases hZ.2.2 with hz | ⟨t, hz⟩
  · exact hst _ (Or.inl rfl) hz
  · exact hst _ (Or.inr ⟨t, rfl⟩) hz
theorem con_jc {k : Nat} (hk : k < 5) : JCon 2 m_jc [.ref v, .int (nI k)] (some (.int (chr k))) q v := by
  refine jcon_of mb_jc rfl (Nat.le_of_ble_eq_true rfl) (fun p l e R s mid args below meth c N0 LS h hL => ?_)
  obtain ⟨hx, hb, hml, hown, hts, hlk, hrt, hN, hZ, hE, hR⟩ := id h
  have h0 : LS[0]? = some (.val (.ref v)) := hL.2.2 (0, _) List.mem_cons_self
  have h1 : LS[1]? = some (.val (.int (nI k))) := hL.2.2 (1, _) (List.mem_cons_of_mem _ List.mem_cons_self)
  have hT := (hE.1 0 (by decide)).2.2.2
  obtain ⟨c1, c2⟩ := chr_ok k hk
  refine lv_iload_n hx hb (k := 1) (i := 1) (by decide +kernel) rfl h1 ?_
  refine lv_aload_n hx hb (k := 0) (i := 0) (by decide +kernel) rfl h0 ?_
  refine va_tlen hx hb hT va_S.rf (v := 5) rfl (by decide +kernel) ?_
  refine jcalS (av := [.int (nI k), .int 5]) (rest := []) h (con_jk hk) (by decide) (ix := 9) (inL 391 (by decide +kernel) (by decide +kernel)) ⟨mb_jk, inL 392 (by decide +kernel) (by decide +kernel)⟩ rfl (by decide) rfl (by decide +kernel) va_S.rf hL.1 (by decide) (fun H' locs' hS => ?_)
  refine lv_aload_n hx hb (k := 0) (i := 0) (by decide +kernel) rfl h0 ?_
  refine lv_iload_n hx hb (k := 1) (i := 1) (by decide +kernel) rfl h1 ?_
  refine va_tb hx hb hT hS (v := .int (chr k)) (vp_in_nI hk (by decide)) (by rw [nI_clamp (by omega)]; rfl) (by decide +kernel) ?_
  refine lv_sipush hx hb (n := 255) (v := 255) (by decide +kernel) (by decide) ?_
  refine lv_iand hx hb (by decide +kernel) ?_
  refine lv_i2c hx hb (v := chr k) (by decide +kernel) c1 ?_
  exact jret h hS (ty := .char) rfl c2 (Or.inr (Or.inr rfl)) (by decide +kernel)
theorem con_jl : JCon 0 m_jl [.ref q] (some (.int 1)) q v := by
  refine jcon_of mb_jl rfl (Nat.le_of_ble_eq_true rfl) (fun p l e R s mid args below meth c N0 LS h hL => ?_)
  obtain ⟨hx, hb, hml, hown, hts, hlk, hrt, hN, hZ, hE, hR⟩ := id h
  have h0 : LS[0]? = some (.val (.ref q)) := hL.2.2 (0, _) List.mem_cons_self
  have hO := (hE.1 0 (by decide)).2.1
  refine va_gets hx hb hZ.2.1 va_S.rf hown (hts _ (inL 386 (by decide +kernel) (by decide +kernel))) (fun x h => h) (index := 38) (by decide +kernel) ?_
  refine lv_if_eq hx hb (off := 14) (tgt := 17) (by decide +kernel) (by decide) (fun z => absurd z (by decide)) (fun _ => ?_)
  refine lv_aload_n hx hb (k := 0) (i := 0) (by decide +kernel) rfl h0 ?_
  refine vk_getf hx hb hO va_S.rf hown (hts _ (inL 1152 (by decide +kernel) (by decide +kernel))) (fun x h => h) (index := 15) (by decide +kernel) ?_
  refine lv_if_ne hx hb (off := 7) (tgt := 17) (by decide +kernel) (by decide) (fun z => absurd rfl z) (fun _ => ?_)
  refine lv_iconst hx hb (n := 1) (v := 1) (by decide +kernel) (by decide) ?_
  refine lv_goto hx hb (off := 4) (tgt := 18) (by decide +kernel) (by decide) ?_
  exact jret h va_S.rf (ty := .boolean) rfl rfl (Or.inr (Or.inl rfl)) (by decide +kernel)
end Letter
