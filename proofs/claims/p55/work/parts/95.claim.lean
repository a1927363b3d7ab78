/-! The claim out of the walk. -/
section Claim
/-! THE CLAIM OUT OF ONE WALK OF THE LAW'S BODY. Your part is whole_start (and what it stands on); all else here is the same for every law, but numbers. -/
def R_law : String := "SealOfficeLaw"
def lw_P (b : Addr) (xs : List Int32) (args : Array Value) (s : State) : Prop := args = #[.ref b] ∧ s.IntsAt b xs ∧ xs.length ≤ 260 ∧ (Jvm.Cond.and given_1 narrow_1).before args s = true
/-- what a walk over the start with the record d0 says of its end, said of the start itself -/
theorem lw_closed {s t : State} {o : Outcome} {d0 : Drawn} {L : List Loc} {k n : Nat} (hd0 : s.drawn.sameBut d0 lw_cs) (hv : ∃ v, o = .returned v) (hW : (s.setDrawn d0).WarmedH t.vm) (hs : (s.setDrawn d0).sameButNew ({ t with vm := s.vm } : State) L k n) : State.butDraws s t lw_cs (fun t1 => Framed s o t1 L k n) := by
  have h2 : t.drawn = d0 := congrArg State.drawn hs.1
  refine ⟨⟨hv, hW, State.sameButNew.setDrawn hs s.drawn⟩, ?_, by decide⟩
  rw [h2]
  exact hd0
def lw_Q (_ : Array Value) (s : State) (o : Outcome) (t : State) : Prop := o = .returned (some (.int 1)) ∧ State.butDraws s t lw_cs (fun t1 => Framed s o t1 [] 633341 7201600)
def lw_Z (below : List Frame) (a : Array Value) (s : State) : State → Prop := fun t => ∃ o, t.status = .running ∧ Ended t below o ∧ lw_Q a s o t
/-- the law's own end, with 1 on the stack, nothing written that was there before, its room as the claim has it; d0: the record of draws at this point (at the entry s.drawn: begin with 'refine W.base ?_' and 'have hd0 := Drawn.sameBut.refl s.drawn lw_cs') -/
theorem lw_ret {p : Program} {l : Launch} {e : Env} {s : State} {m : MethodId} {below : List Frame} {meth : Method} {c : Code} {b : Nat} {d0 : Drawn} (hd0 : s.drawn.sameBut d0 lw_cs) (hx : p.tables.exec = Jvm.exec) (hb : c.code = code) (hr : meth.sig.returnType = ret) (hlocks : meth.locks = false) {pc : Nat} {H : Heap} {ls : Array Slot} (hdg : decode code pc = .ok (.ireturn, 1)) : W p l e room_1 (s.setDrawn d0) m #[Value.ref b] below meth c H [] 633341 7201600 (lw_Z below #[Value.ref b] s) (F0 m pc ls [.int 1]) := by
  intro T hT X
  obtain ⟨fs, hret, hrun, hended, hW, hframe⟩ := X.leave (v := some (.int 1)) (hlocks := hlocks) (fun h => by rw [hr] at h; cases h)
  have hmeth' : T.vm.method? m = some meth := X.method'
  refine ⟨T.setFrames fs, ?_, .returned (some (.int 1)), hrun, hended, rfl, lw_closed hd0 ⟨_, rfl⟩ hW hframe⟩
  jvm_step X.here [X.here.top, hx, hb, hdg, hmeth', hr, ret, narrow_b1]
  (try refine ⟨rfl, ?_⟩); (try refine ⟨rfl, ?_⟩)
  first | (intro acts; rw [hret _ acts rfl rfl rfl]) | rw [hret _ _ rfl rfl rfl]
  exact Steps.refl _
/-- what holds at the law's entry: the machine, the code, the tables' words (any of lw_tbl by 'hts w (by decide +kernel)'), the script of L ints xs at the cell b, what the Statement gives of the start (any of its parts by flat_of_before) -/
def lw_At (p : Program) (s : State) (m : MethodId) (meth : Method) (c : Code) (b L : Nat) (xs : Nat → Int32) : Prop :=
  p.tables.exec = Jvm.exec ∧ c.code = code ∧ meth.sig.returnType = ret ∧ c.maxLocals = 5 ∧ s.vm.findClass R_law = some m.cls ∧ (∀ w ∈ lw_tbl, w.before #[Value.ref b] s = true) ∧ va_X b L xs s s.heap ∧ b < s.heap.size ∧ meth.locks = false ∧ (Jvm.Cond.and given_1 narrow_1).before #[Value.ref b] s = true
theorem s00_HR {dC : Nat → ClassId} {dI : Nat → Nat → Nat} {dA : Nat → ClassId} {N0 : Nat} {ρ : Nat → Nat} {H : Heap} : HR dC dI dA N0 ρ S00 H := by
  have e : wsOf dA ρ S00 = [] := rfl
  refine ⟨?_, ?_, ?_⟩
  · rw [e]; intro k q h; simp at h
  · rw [e]; exact ⟨fun i j p q h => by simp at h, fun k q h => by simp at h⟩
  · exact ⟨fun a k => by show in32 0; unfold in32; omega, trivial, trivial, fun a k i h => (by cases h), fun a k _ => ⟨rfl, rfl⟩⟩
theorem lw_fin {p : Program} {e : Env} {s : State} {m : MethodId} {below : List Frame} {meth : Method} {c : Code} (l : Launch) {b L : Nat} {xs : Nat → Int32} (C0 : lw_At p s m meth c b L xs) (dC : Nat → ClassId) (dI : Nat → Nat → Nat) (dA : Nat → ClassId) (σf : St) : FinC mL_law p l e room_1 s m #[Value.ref b] below meth c (lw_Z below #[Value.ref b] s) dC dI dA s.heap.size b (fun _ => 0) 0 (fun z => z = (L : Int)) (vI 1, σf) := by
  obtain ⟨hx, hb, hr, hml, hown, hts, hX, hbl, hlocks, hgv⟩ := id C0
  refine ⟨fun H locs cells slots ρ LS pc hD hsz hd hok h20 => ?_, fun H locs cells slots ρ LS pc i st h => (by cases h), fun H locs cells slots ρ LS pc i st q ce h => (by cases h)⟩
  obtain ⟨hH, hSS, he, hc, h5, h6⟩ := hD
  have h5 : cells ≤ 633341 := h5
  have h6 : slots ≤ 7201600 := h6
  refine W.widen (k := 633341) (n := 7201600) h5 h6 (va_forget hSS.2.2 ?_)
  exact W.base (lw_ret (d0 := s.drawn) (Drawn.sameBut.refl s.drawn lw_cs) hx hb hr hlocks hd)
theorem lw_sta {p : Program} {s : State} {m : MethodId} {meth : Method} {c : Code} (l : Launch) (hflags : l.flags = flags0) {b L : Nat} {xs : Nat → Int32} (hL : L ≤ 260) (C0 : lw_At p s m meth c b L xs) (hnm : meth.name = x.name) (htb : ∀ q ∈ c.exceptionTable.toList, False) {dC : Nat → ClassId} {dI : Nat → Nat → Nat} {dA : Nat → ClassId} (hK : va_K (dC, dI) vwc (tysOf dA) s) : Sta (fun j => (xs j).toInt) 9 mL_law p l room_1 s m #[Value.ref b] meth c dC dI dA s.heap.size b (fun z => z = (L : Int)) := by
  obtain ⟨hx, hb, hr, hml, hown, hts, hX, hbl, hlocks, hgv⟩ := id C0
  have hg := flat_of_before _ hgv
  refine ⟨hx, hb, hml, hown, fun w hw => hts w (List.mem_filter.mp hw).1, hlocks, ?_, hK, Nat.le_refl _, XW_entry hts hg (hK.1 9 _ rfl).2.1 hown, ZW_entry hts hg hown, by decide, by decide, hnm, ?_, fun z hz => ?_⟩
  · unfold Launch.stackTraces
    rw [hflags]
    decide +kernel
  · exact List.eq_nil_iff_forall_not_mem.mpr (fun q hq => htb q hq)
  · subst hz
    have e1 : (fun j => Int32.ofInt (xs j).toInt) = xs := funext fun j => Int32.ofInt_toInt _
    refine ⟨Int.natCast_nonneg _, by omega, ?_, hbl, hbl, fun j => ?_⟩
    · rw [e1]; exact hX
    · have h1 := Int32.le_toInt (xs j)
      have h2 := Int32.toInt_lt (xs j)
      show -2147483648 ≤ (xs j).toInt ∧ (xs j).toInt < 2147483648
      omega
theorem whole_startT (hLet : LetR) {p : Program} {e : Env} {s : State} {m : MethodId} {below : List Frame} {meth : Method} {c : Code} (l : Launch) (hflags : l.flags = flags0) {b L : Nat} {xs : Nat → Int32} (hL : L ≤ 260) (C0 : lw_At p s m meth c b L xs) (hnm : meth.name = x.name) (htb : ∀ q ∈ c.exceptionTable.toList, False) : W p l e room_1 s m #[Value.ref b] below meth c s.heap [] 0 0 (lw_Z below #[Value.ref b] s) (entryFrame m ([Value.ref b] : List Value).toArray 5) := by
  obtain ⟨hx, hb, hr, hml, hown, hts, hX, hbl, hlocks, hgv⟩ := id C0
  obtain ⟨dC, dI, dA, hK⟩ := K_entry hts
  have hS := lw_sta l hflags hL C0 hnm htb hK
  obtain ⟨σf, hGo⟩ := law_start (xs := fun j => (xs j).toInt) (z := (L : Int)) hLet
  have hF := lw_fin (e := e) (below := below) l C0 dC dI dA σf
  have hl := lv_entry ([.ref b]) (n := 5) (Nat.le_of_ble_eq_true rfl)
  rw [lg_entry_eq]
  generalize (lg_sl ([.ref b]) ++ List.replicate (5 - (lg_sl ([.ref b])).length) Slot.unset).toArray = ls at hl ⊢
  refine hGo p l e room_1 s m #[Value.ref b] below meth c _ dC dI dA s.heap.size b (fun _ => 0) 0 _ hS hF s.heap [] 0 0 (fun _ => 0) ls ⟨s00_HR, va_S.rf, fun _ _ => rfl, Nat.le_refl _, Nat.le_refl _, Nat.le_refl _⟩ ⟨hl, rfl, fun v hv => ?_⟩ (fun _ h => absurd h List.not_mem_nil)
  rcases List.mem_cons.mp hv with rfl | hv
  · exact rfl
  · have hv : v ∈ List.replicate 4 (vT 9 0) := hv
    rw [List.eq_of_mem_replicate hv]
    trivial
end Claim
