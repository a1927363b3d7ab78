section GoEnds
def atsOK (i : Nat) : Bool := ((Bundle.ownAtoms "" 0 (exN i) exU).filter vx_no).all (fun w => decide (w = .methodLink "" 0 (Bundle.initS (exN i))) || (goodWord w && decide (w ∈ lw_tbl)) || XD.any (fun x => decide (w = .declares x)) || XC.any (fun q => decide (w = .castable q.1 q.2)))
theorem ats_0 : atsOK 0 = true := by decide +kernel
theorem ats_1 : atsOK 1 = true := by decide +kernel
theorem ats_2 : atsOK 2 = true := by decide +kernel
theorem ats_3 : atsOK 3 = true := by decide +kernel
theorem ats_5 : atsOK 5 = true := by decide +kernel
theorem ats_all {i : Nat} (hi : i < 6) (h4 : i ≠ 4) : atsOK i = true := by
  match i, hi with
  | 0, _ => exact ats_0
  | 1, _ => exact ats_1
  | 2, _ => exact ats_2
  | 3, _ => exact ats_3
  | 4, _ => exact absurd rfl h4
  | 5, _ => exact ats_5
theorem exini_all {i : Nat} (hi : i < 6) : Cond.initialized (exN i) ∈ L0 := by
  have h : ∀ i, i < 6 → (goodWord (Cond.initialized (exN i)) && decide (Cond.initialized (exN i) ∈ lw_tbl)) = true := by decide +kernel
  have h9 := h i hi
  rw [Bool.and_eq_true] at h9
  exact List.mem_filter.mpr ⟨of_decide_eq_true h9.2, h9.1⟩
theorem exfit {i : Nat} (hi : i < 6) : Bundle.fit (exN i) = true := by
  have h : ∀ i, i < 6 → Bundle.fit (exN i) = true := by decide +kernel
  exact h i hi
theorem exUfit : ∀ n ∈ exU, Bundle.fit n = true := by decide +kernel
theorem own_atoms {own : String} {ic : Nat} {X : String} {ns : List String} {w : Cond} (h : w ∈ Bundle.ownAtoms own ic X ns) : w = .methodLink own ic (Bundle.initS X) ∨ w ∈ Bundle.ownAtoms "" 0 X ns := by
  unfold Bundle.ownAtoms at h ⊢
  rcases List.mem_append.mp h with h | h
  · exact Or.inr (List.mem_append_left _ h)
  · rcases List.mem_cons.mp h with h | h
    · exact Or.inl h
    · exact Or.inr (List.mem_append_right _ (List.mem_cons_of_mem _ h))
theorem ats_word {own : String} {ic i : Nat} (hi : i < 6) (h4 : i ≠ 4) {w : Cond} (hw : w ∈ vx_atS own ic (exN i) exU) : w = .methodLink own ic (Bundle.initS (exN i)) ∨ w = .methodLink "" 0 (Bundle.initS (exN i)) ∨ w ∈ L0 ∨ (∃ x ∈ XD, w = .declares x) ∨ ∃ q ∈ XC, w = .castable q.1 q.2 := by
  obtain ⟨h1, h2⟩ := List.mem_filter.mp hw
  rcases own_atoms h1 with h | h
  · exact Or.inl h
  · refine Or.inr ?_
    have h9 := List.all_eq_true.mp (ats_all hi h4) w (List.mem_filter.mpr ⟨h, h2⟩)
    simp only [Bool.or_eq_true, Bool.and_eq_true, decide_eq_true_eq, List.any_eq_true] at h9
    rcases h9 with ((h9 | h9) | ⟨x, hx, h9⟩) | ⟨x, hx, h9⟩
    · exact Or.inl h9
    · exact Or.inr (Or.inl (List.mem_filter.mpr ⟨h9.2, h9.1⟩))
    · exact Or.inr (Or.inr (Or.inl ⟨x, hx, h9⟩))
    · exact Or.inr (Or.inr (Or.inr ⟨x, hx, h9⟩))
/-- with no link of the empty name among the words -/
theorem ats_no {own : String} {ic i : Nat} (hi : i < 6) (ho : own ≠ "") : (∀ w ∈ vx_atS own ic (exN i) exU, w ≠ .methodLink "" 0 (Bundle.initS (exN i))) := by
  intro w hw he
  obtain ⟨h1, -⟩ := List.mem_filter.mp hw
  subst he
  unfold Bundle.ownAtoms at h1
  have key : ∀ i, i < 6 → decide (Cond.methodLink "" 0 (Bundle.initS (exN i)) ∈ Bundle.throwableAtoms ++ Bundle.throwableSAtoms ++ Bundle.chainSAtoms (exN i) exU) = false := by decide +kernel
  rcases List.mem_append.mp h1 with h | h
  · exact absurd h (of_decide_eq_false (key i hi))
  · rcases List.mem_cons.mp h with h | h
    · injection h with h _ _
      exact ho h.symm
    · simp at h
def nsOK : Bool := ((nsA "" 0).filter vx_no).all (fun w => decide (w = .methodLink "" 0 (Bundle.initS nsX)) || (goodWord w && decide (w ∈ lw_tbl)) || XD.any (fun x => decide (w = .declares x)) || XC.any (fun q => decide (w = .castable q.1 q.2)))
theorem ns_ok : nsOK = true := by decide +kernel
theorem ns_atoms {own : String} {ic : Nat} {w : Cond} (h : w ∈ nsA own ic) : w = .methodLink own ic (Bundle.initS nsX) ∨ w ∈ nsA "" 0 := by
  unfold nsA at h ⊢
  rcases List.mem_append.mp h with h | h
  · exact Or.inr (List.mem_append_left _ h)
  · rcases List.mem_cons.mp h with h | h
    · exact Or.inl h
    · exact Or.inr (List.mem_append_right _ (List.mem_cons_of_mem _ h))
theorem ns_word {own : String} {ic : Nat} {w : Cond} (hw : w ∈ (nsA own ic).filter vx_no) : w = .methodLink own ic (Bundle.initS nsX) ∨ w = .methodLink "" 0 (Bundle.initS nsX) ∨ w ∈ L0 ∨ (∃ x ∈ XD, w = .declares x) ∨ ∃ q ∈ XC, w = .castable q.1 q.2 := by
  obtain ⟨h1, h2⟩ := List.mem_filter.mp hw
  rcases ns_atoms h1 with h | h
  · exact Or.inl h
  · refine Or.inr ?_
    have h9 := List.all_eq_true.mp ns_ok w (List.mem_filter.mpr ⟨h, h2⟩)
    simp only [Bool.or_eq_true, Bool.and_eq_true, decide_eq_true_eq, List.any_eq_true] at h9
    rcases h9 with ((h9 | h9) | ⟨x, hx, h9⟩) | ⟨x, hx, h9⟩
    · exact Or.inl h9
    · exact Or.inr (Or.inl (List.mem_filter.mpr ⟨h9.2, h9.1⟩))
    · exact Or.inr (Or.inr (Or.inl ⟨x, hx, h9⟩))
    · exact Or.inr (Or.inr (Or.inr ⟨x, hx, h9⟩))
theorem ns_no {own : String} {ic : Nat} (ho : own ≠ "") : (∀ w ∈ (nsA own ic).filter vx_no, w ≠ .methodLink "" 0 (Bundle.initS nsX)) := by
  intro w hw he
  obtain ⟨h1, -⟩ := List.mem_filter.mp hw
  subst he
  unfold nsA at h1
  have key : decide (Cond.methodLink "" 0 (Bundle.initS nsX) ∈ Bundle.throwableAtoms ++ Bundle.throwableSAtoms ++ (Bundle.passSAtoms nsX nsY 13 nsB ++ Bundle.chainSAtoms nsY ["java/lang/Exception"])) = false := by decide +kernel
  rcases List.mem_append.mp h1 with h | h
  · exact absurd h (of_decide_eq_false key)
  · rcases List.mem_cons.mp h with h | h
    · injection h with h _ _
      exact ho h.symm
    · simp at h
def mloc : List MV → List MV
  | [] => []
  | v :: vs => if two v then v :: vT 9 0 :: mloc vs else v :: mloc vs
def mlocs (as : List MV) (n : Nat) : List MV := mloc as ++ List.replicate (n - (mloc as).length) (vT 9 0)
theorem lps_junk {ρ : Nat → Nat} {bs : Nat} : ∀ (k i : Nat), lps ρ bs i (List.replicate k (vT 9 0)) = [] := by
  intro k
  induction k with
  | zero => intro i; rfl
  | succ k ih => intro i; rw [List.replicate_succ, lps, if_neg (by decide), ih]
theorem lps_args {ρ : Nat → Nat} {bs k : Nat} : ∀ (as : List MV) (i : Nat), as.all live = true → lps ρ bs i (mloc as ++ List.replicate k (vT 9 0)) = lv_args i (as.map (vr ρ bs)) := by
  intro as
  induction as with
  | nil => intro i _; exact lps_junk k i
  | cons v vs ih =>
    intro i h
    rw [List.all_cons, Bool.and_eq_true] at h
    rw [List.map_cons, lv_args, mloc]
    by_cases h2 : two v = true
    · rw [if_pos h2, List.cons_append, List.cons_append, lps, if_pos h.1, lps, if_neg (by decide), ih (i + 1 + 1) h.2, if_pos (by rw [cat_vr2]; unfold cat; rw [if_pos h2])]
    · rw [if_neg h2, List.cons_append, lps, if_pos h.1, ih (i + 1) h.2, if_neg (by rw [cat_vr2]; unfold cat; rw [if_neg h2]; decide)]
theorem mloc_len {ρ : Nat → Nat} {bs : Nat} : ∀ (as : List MV), (lg_sl (as.map (vr ρ bs))).length = (mloc as).length := by
  intro as
  induction as with
  | nil => rfl
  | cons v vs ih =>
    rw [List.map_cons, mloc]
    show (lg_sl ([vr ρ bs v] ++ vs.map (vr ρ bs))).length = _
    unfold lg_sl at ih ⊢
    rw [List.flatMap_append, List.length_append, ih, List.flatMap_cons, List.flatMap_nil, List.append_nil, cat_vr2]
    unfold cat
    by_cases h2 : two v = true
    · rw [if_pos h2, if_pos rfl, if_pos h2]
      show 2 + _ = _ + 1 + 1
      omega
    · rw [if_neg h2, if_neg (by decide), if_neg h2]
      show 1 + _ = _ + 1
      omega
def retOK : Option FieldType → MV → Prop
  | some .int, .inl _ => True
  | some .boolean, .inl z => z = 0 ∨ z = 1
  | some .char, .inl z => 0 ≤ z ∧ z < 65536
  | some (.object _), .inr (.inl _) => True
  | some (.array _), .inr (.inl _) => True
  | some .long, .inr (.inr (1, _)) => True
  | some .float, .inr (.inr (2, _)) => True
  | some .double, .inr (.inr (3, _)) => True
  | none, .inr (.inr (8, _)) => True
  | _, .inr (.inr (t, _)) => 20 ≤ t
  | _, _ => False
theorem retOK_i {o : Option FieldType} {z : Int} (h : retOK o (vI z)) : o = some .int ∨ (o = some .boolean ∧ (z = 0 ∨ z = 1)) ∨ (o = some .char ∧ 0 ≤ z ∧ z < 65536) := by
  rcases o with _ | ty
  · exact h.elim
  · cases ty <;> first | exact (False.elim h) | exact Or.inl rfl | exact Or.inr (Or.inl ⟨rfl, h⟩) | exact Or.inr (Or.inr ⟨rfl, h⟩)
theorem retOK_a {o : Option FieldType} {a : Nat} (h : retOK o (vA a)) : (∃ t, o = some (.object t)) ∨ (∃ t, o = some (.array t)) := by
  rcases o with _ | ty
  · exact h.elim
  · cases ty <;> first | exact (False.elim h) | exact Or.inl ⟨_, rfl⟩ | exact Or.inr ⟨_, rfl⟩
theorem retOK_t {o : Option FieldType} {t : Nat} {z : Int} (h : retOK o (vT t z)) (ht : t < 20) : (t = 1 ∧ o = some .long) ∨ (t = 2 ∧ o = some .float) ∨ (t = 3 ∧ o = some .double) ∨ (t = 8 ∧ o = none) := by
  unfold retOK at h
  split at h <;> simp_all <;> omega
set_option maxHeartbeats 2000000 in
theorem fin_of {m : MI} {mc ms d : Nat} {out : MV × St} {p : Program} {l : Launch} {e : Env} {R : Room} {s : State} {mid : MethodId} {args : Array Value} {below : List Frame} {meth : Method} {c : Code} {dC : Nat → ClassId} {dI : Nat → Nat → Nat} {dA : Nat → ClassId} {N0 : Nat} {ρ0 : Nat → Nat} {σ : St}
    (hS : Sta (fun _ => 0) d m p l R s mid args meth c dC dI dA N0 0 noX) (hR : R.cells = mc ∧ R.slots = ms) (hr : meth.sig.returnType = m.2.2.2.1) (hre : retOK m.2.2.2.1 out.1) (hne : m.1.cls ≠ "") :
    FinC m p l e R s mid args below meth c (vx_MQ below (fun _ st o t => QC dC dI dA N0 ρ0 σ out st o t) (fun E st t => QX dC dI dA N0 ρ0 σ out E st t) args s mc ms (fun q : Nat => N0 ≤ q)) dC dI dA N0 0 ρ0 σ.2.2 noX out := by
  obtain ⟨hx, hb, hml, hown, hts, hlk, hst, hK, hN, hXW, hZW, hRf, hRl, hnm, htb, hX⟩ := id hS
  obtain ⟨hR1, hR2⟩ := hR
  have htab : ∀ pc, m.2.2.2.2.1 = [] → ∀ x ∈ c.exceptionTable.toList, covers x pc = false := by
    intro pc hh x hx9
    rw [htb, hh] at hx9
    cases hx9
  refine ⟨?_, ?_, ?_⟩
  · intro H locs cells slots ρ LS pc hD hsz hd hok h20
    obtain ⟨hH, hSS, he, hc, h5, h6⟩ := hD
    have q1 : cells ≤ mc := by rw [← hR1]; exact h5
    have q2 : slots ≤ ms := by rw [← hR2]; exact h6
    have hn : ∀ i, out.1 ≠ vT (20 + i) 0 := fun i hi => by have := h20 _ _ hi; omega
    have hQ : ∀ t : State, t.heap = H → s.WarmedH t.vm → QC dC dI dA N0 ρ0 σ out s (.returned (rv ρ out.1)) t :=
      fun t ht hW => ⟨ρ, rfl, hn, hok, he, hc, by rw [ht]; exact hH, hSS.F ht⟩
    refine W.widen (k := mc) (n := ms) q1 q2 (vx_ret ?_)
    rcases out with ⟨v, σ'⟩
    dsimp only at *
    rcases v with z | a | ⟨t, z⟩
    · rcases retOK_i hre with h | ⟨h, h2⟩ | ⟨h, h2⟩
      · exact W.zret (ty := .int) hx hb (hr.trans h) rfl hQ hSS.2.2 hd hlk
      · exact W.zret (ty := .boolean) hx hb (hr.trans h) (by rcases h2 with rfl | rfl <;> rfl) hQ hSS.2.2 hd hlk
      · obtain ⟨n9, rfl⟩ := Int.eq_ofNat_of_zero_le h2.1
        exact W.zret (ty := .char) hx hb (hr.trans h) (by rw [show Int32.ofInt (n9 : Int) = nI n9 from Int32.ofInt_eq_ofNat]; exact (pk_charN (by have := h2.2; omega)).1) hQ hSS.2.2 hd hlk
    · rcases retOK_a hre with ⟨ty, h⟩ | ⟨ty, h⟩
      · exact W.aret hx hb (hr.trans h) (Or.inl ⟨_, rfl⟩) (Or.inr ⟨_, rfl⟩) hQ hSS.2.2 hd hlk
      · exact W.aret hx hb (hr.trans h) (Or.inr ⟨_, rfl⟩) (Or.inr ⟨_, rfl⟩) hQ hSS.2.2 hd hlk
    · rcases retOK_t hre (h20 _ _ rfl) with ⟨rfl, h⟩ | ⟨rfl, h⟩ | ⟨rfl, h⟩ | ⟨rfl, h⟩
      · exact W.lret hx hb (hr.trans h) hQ hSS.2.2 hd hlk
      · exact W.fret hx hb (hr.trans h) hQ hSS.2.2 hd hlk
      · exact W.dret hx hb (hr.trans h) hQ hSS.2.2 hd hlk
      · exact W.vret hx hb (hr.trans h) hQ hSS.2.2 hd hlk
  · intro H locs cells slots ρ LS pc i st hi hi6 hf6 hD hsz hw hh hsum
    obtain ⟨⟨hP, hDD, hM⟩, hSS, he, hc, h5, h6⟩ := hD
    have h5 : cells + 1 ≤ R.cells := h5
    have h6 : slots + 6 ≤ R.slots := h6
    have hXC : ∀ t : State, s.vm.Alike t.vm → H.size ≤ t.heap.size → (∀ q : Nat, q < H.size → t.heap[q]? = H[q]?) → QX dC dI dA N0 ρ0 σ out (exN i) s t := by
      intro t ht hz hk
      refine ⟨ρ, i, hi, hi6, rfl, he, hc, ⟨hP.kept (fun k q hq => hk _ (hP k q hq).lt), hDD, hM⟩, ⟨Nat.le_trans hSS.1 hz, fun q q1 q2 => by rw [hk q (Nat.lt_of_lt_of_le q1 hSS.1)]; exact hSS.2.1 q q1 q2⟩⟩
    by_cases h4 : i = 4
    · subst h4
      have common : ∀ ic : Nat, Cond.methodLink m.1.cls ic (Bundle.initS nsX) ∈ L0 → (∀ w ∈ (nsA m.1.cls ic).filter vx_no, w.before args s = true) ∧ ∀ w ∈ (nsA m.1.cls ic).filter vx_no, vx_ot w = true := by
        intro ic hl
        refine ⟨fun w hw => ?_, fun w hw => ?_⟩
        · rcases ns_word hw with rfl | h | h | ⟨x, hx, rfl⟩ | ⟨x, hx, rfl⟩
          · exact hts _ hl
          · exact absurd h (ns_no hne w hw)
          · exact hts _ h
          · exact va_Nw.use rfl (hXW.2.2.1 x hx)
          · exact va_Nw.use rfl (hXW.2.2.2.1 x hx)
        · rcases ns_word hw with rfl | h | h | ⟨x, hx, rfl⟩ | ⟨x, hx, rfl⟩
          · rfl
          · exact absurd h (ns_no hne w hw)
          · unfold vx_ot; rw [L0_good h]; exact Bool.or_true _
          · rfl
          · rfl
      have hg2 : ∀ ik ic : Nat, Cond.classLink m.1.cls ik nsX ∈ L0 → (∀ w ∈ (nsA m.1.cls ic).filter vx_no, vx_ot w = true) → ∀ w ∈ Cond.classLink m.1.cls ik nsX :: Cond.initialized nsX :: (nsA m.1.cls ic).filter vx_no, vx_ot w = true := by
        intro ik ic h1 h2 w hw
        rcases List.mem_cons.mp hw with rfl | hw
        · rfl
        · rcases List.mem_cons.mp hw with rfl | hw
          · rfl
          · exact h2 w hw
      rcases hw with ⟨ik, is, ic, tx, d0, d3, d4, d6, d9, w1, w2, w3⟩ | ⟨ik, is, ic, tx, d0, d3, d4, d6, d9, w1, w2, w3⟩
      · obtain ⟨sa, hsa⟩ := hXW.2.2.2.2.1 _ w2
        obtain ⟨c1, c2⟩ := common ic w3
        exact ns_throw (A := fun q : Nat => N0 ≤ q) (sa := sa) (text := tx) hx hb hst hown (hts _ w1) (hts _ (exini_all (i := 4) (by decide))) hsa c1 (hg2 ik ic w1 c2) hZW.1 hZW.2.1 hSS (hsz.trans hml.symm) d0 d3 d4 d6 d9 (htab _ hh) (by omega) (by omega) h5 h6 hlk hXC hSS.2.2 (by omega) (by omega)
      · obtain ⟨sa, hsa⟩ := hXW.2.2.2.2.1 _ w2
        obtain ⟨c1, c2⟩ := common ic w3
        exact ns_throwW (A := fun q : Nat => N0 ≤ q) (sa := sa) (text := tx) hx hb hst hown (hts _ w1) (hts _ (exini_all (i := 4) (by decide))) hsa c1 (hg2 ik ic w1 c2) hZW.1 hZW.2.1 hSS (hsz.trans hml.symm) d0 d3 d4 d6 d9 (htab _ hh) (by omega) (by omega) h5 h6 hlk hXC hSS.2.2 (by omega) (by omega)
    have common : ∀ ic : Nat, Cond.methodLink m.1.cls ic (Bundle.initS (exN i)) ∈ L0 → (∀ w ∈ vx_atS m.1.cls ic (exN i) exU, w.before args s = true) ∧ ∀ w ∈ vx_atS m.1.cls ic (exN i) exU, vx_ot w = true := by
      intro ic hl
      refine ⟨fun w hw => ?_, fun w hw => ?_⟩
      · rcases ats_word hi6 h4 hw with rfl | h | h | ⟨x, hx, rfl⟩ | ⟨x, hx, rfl⟩
        · exact hts _ hl
        · exact absurd h (ats_no hi6 hne w hw)
        · exact hts _ h
        · exact va_Nw.use rfl (hXW.2.2.1 x hx)
        · exact va_Nw.use rfl (hXW.2.2.2.1 x hx)
      · rcases ats_word hi6 h4 hw with rfl | h | h | ⟨x, hx, rfl⟩ | ⟨x, hx, rfl⟩
        · rfl
        · exact absurd h (ats_no hi6 hne w hw)
        · unfold vx_ot; rw [L0_good h]; exact Bool.or_true _
        · rfl
        · rfl
    have hg2 : ∀ ik ic : Nat, Cond.classLink m.1.cls ik (exN i) ∈ L0 → (∀ w ∈ vx_atS m.1.cls ic (exN i) exU, vx_ot w = true) → ∀ w ∈ Cond.classLink m.1.cls ik (exN i) :: Cond.initialized (exN i) :: vx_atS m.1.cls ic (exN i) exU, vx_ot w = true := by
      intro ik ic h1 h2 w hw
      rcases List.mem_cons.mp hw with rfl | hw
      · rfl
      · rcases List.mem_cons.mp hw with rfl | hw
        · rfl
        · exact h2 w hw
    rcases hw with ⟨ik, is, ic, tx, d0, d3, d4, d6, d9, w1, w2, w3⟩ | ⟨ik, is, ic, tx, d0, d3, d4, d6, d9, w1, w2, w3⟩
    · obtain ⟨sa, hsa⟩ := hXW.2.2.2.2.1 _ w2
      obtain ⟨c1, c2⟩ := common ic w3
      exact vx_throwS (names := exU) (A := fun q : Nat => N0 ≤ q) (sa := sa) (text := tx) hx hb hst hown (exfit hi6) exUfit (hts _ w1) (hts _ (exini_all hi6)) hsa c1 (hg2 ik ic w1 c2) hZW.1 hZW.2.1 hSS (hsz.trans hml.symm) d0 d3 d4 d6 d9 (htab _ hh) (by show 2 + 3 < _; omega) (by show _ + (13 * (2 + 1) + 43) ≤ _; omega) h5 h6 hlk hXC hSS.2.2 (by omega) (by omega)
    · obtain ⟨sa, hsa⟩ := hXW.2.2.2.2.1 _ w2
      obtain ⟨c1, c2⟩ := common ic w3
      exact vx_throwSW (names := exU) (A := fun q : Nat => N0 ≤ q) (sa := sa) (text := tx) hx hb hst hown (exfit hi6) exUfit (hts _ w1) (hts _ (exini_all hi6)) hsa c1 (hg2 ik ic w1 c2) hZW.1 hZW.2.1 hSS (hsz.trans hml.symm) d0 d3 d4 d6 d9 (htab _ hh) (by show 2 + 3 < _; omega) (by show _ + (13 * (2 + 1) + 43) ≤ _; omega) h5 h6 hlk hXC hSS.2.2 (by omega) (by omega)
  · intro H locs cells slots ρ LS pc i st q ce hi hi6 hD hsz hh hce hcv hcl
    obtain ⟨hH, hSS, he, hc, h5, h6⟩ := hD
    exact vx_out (htab _ hh) hlk hce hcv hcl (fun t ht hal => ⟨ρ, i, hi, hi6, rfl, he, hc, by rw [ht]; exact hH, hSS.F ht⟩) hSS.2.2 (by have : cells + 0 ≤ R.cells := h5; omega) (by have : slots + 0 ≤ R.slots := h6; omega)
set_option maxHeartbeats 1000000 in
/-- a method's contract out of the walk of its body -/
theorem con_of_go {m : MI} {d mc ms : Nat} {as : List MV} {σ : St} {out : MV × St} {n : Nat} (hmb : MB m n) (hre : retOK m.2.2.2.1 out.1) (hlen : (mloc as).length ≤ m.2.2.1) (hlv : as.all live = true) (hne : m.1.cls ≠ "")
    (h : Go (fun _ => 0) d m (mc, ms) 0 (mlocs as m.2.2.1) [] σ out) : Con d m mc ms as σ out := by
  intro hoa l hst dC dI dA N0 ρ
  have body : ∀ (p : Program) (e : Env) (s : State) (mid : MethodId) (args : Array Value) (below : List Frame) (meth : Method) (c : Code) (s₁ : State), BodyLoose p l m.1 (headSpec (wsM m) (rmOf d mc ms)) m.2.1 m.2.2.1 m.2.2.2.1 e s mid args below meth c s₁ → c.maxLocals = m.2.2.1 → c.exceptionTable.toList = tableOf m.2.2.2.2.1 →
      (args = (as.map (vr ρ 0)).toArray ∧ UW dC dI dA N0 ρ σ s) → W p l e (headSpec (wsM m) (rmOf d mc ms)).room s mid args below meth c s.heap [] 0 0 (vx_MQ below (fun _ st o t => QC dC dI dA N0 ρ σ out st o t) (fun E st t => QX dC dI dA N0 ρ σ out E st t) args s mc ms (fun q : Nat => N0 ≤ q)) (entryFrame mid args m.2.2.1) := by
    intro p e s mid args below meth c s₁ B hml htb ⟨ha, hN, hH, hK, hXW, hZW⟩
    subst ha
    have hts := atoms_spec (ws := wsM m) B.pre
    have hown : s.vm.findClass m.1.cls = some mid.cls := findClass_of_methodNamed B.named
    have hS : Sta (fun _ => 0) d m p l (rmOf d mc ms) s mid (as.map (vr ρ 0)).toArray meth c dC dI dA N0 0 noX :=
      ⟨B.exec, B.bytes, hml, hown, fun w hw => hts w (List.mem_cons_of_mem _ hw), B.notSynchronized, hst, hK, hN, hXW, hZW, Nat.le_refl _, Nat.le_refl _, (name_of_methodNamed B.named B.method).1, htb, fun z hz => hz.elim⟩
    have hl := lv_entry (as.map (vr ρ 0)) (n := m.2.2.1) (by rw [mloc_len]; exact hlen)
    rw [lg_entry_eq]
    refine h p l e (rmOf d mc ms) s mid _ below meth c _ dC dI dA N0 0 ρ σ.2.2 noX hS (fin_of hS ⟨rfl, rfl⟩ B.returns hre hne) s.heap [] 0 0 ρ _ ⟨hH, va_S.rf, fun _ _ => rfl, Nat.le_refl _, by show 0 + mc ≤ mc; omega, by show 0 + ms ≤ ms; omega⟩ ⟨?_, ?_, ?_⟩ (fun _ h => absurd h List.not_mem_nil)
    · unfold mlocs
      rw [lps_args _ _ hlv]
      exact hl
    · unfold mlocs
      rw [List.length_append, List.length_replicate]
      omega
    · intro v hv
      have hml9 : ∀ (as : List MV), (∀ v ∈ as, okv σ.2.2 noX v) → ∀ v ∈ mloc as, okv σ.2.2 noX v := by
        intro as
        induction as with
        | nil => intro _ v hv; cases hv
        | cons w ws ih =>
          intro hw v hv
          rw [mloc] at hv
          split at hv
          · rcases List.mem_cons.mp hv with rfl | hv
            · exact hw _ List.mem_cons_self
            · rcases List.mem_cons.mp hv with rfl | hv
              · trivial
              · exact ih (fun w h => hw w (List.mem_cons_of_mem _ h)) v hv
          · rcases List.mem_cons.mp hv with rfl | hv
            · exact hw _ List.mem_cons_self
            · exact ih (fun w h => hw w (List.mem_cons_of_mem _ h)) v hv
      rcases List.mem_append.mp hv with hv | hv
      · exact hml9 as hoa v hv
      · rw [List.eq_of_mem_replicate hv]; trivial
  by_cases hh : m.2.2.2.2.1 = []
  · exact vx_ofW (cc := m.2.1) (maxL := m.2.2.1) (ret := m.2.2.2.1) hmb.2.2.2.2 (wsM0 hh) (fun p e s mid args below meth c s₁ B hml ht hP => body p e s mid args below meth c s₁ B hml (by
      rw [hh]
      exact List.eq_nil_iff_forall_not_mem.mpr (fun x hx => ht x hx)) hP)
  · exact vx_ofWH (cc := m.2.1) (maxL := m.2.2.1) (ret := m.2.2.2.1) (hh := m.2.2.2.2.1) hmb.2.2.2.2 (wsM1 hh) (fun p e s mid args below meth c s₁ B hml hP => body p e s mid args below meth c s₁ B hml (by
      have hts := atoms_spec (ws := wsM m) B.pre
      have h9 := hts _ (show headW m ∈ wsM m from List.mem_cons_self)
      unfold headW at h9
      rw [if_neg hh] at h9
      exact vx_table (x := m.1) B h9) hP)
end GoEnds
