section GoRules
variable {xs : Nat → Int} {d : Nat} {m : MI} {b : Nat × Nat} {pc : Nat} {ls st : List MV} {σ : St} {out : MV × St}
theorem at_of {m : MI} (hT : tabOK m = true) (i j : Nat) {pc : Nat} {ins : Instr} {n : Nat} (h : (m.2.2.2.2.2[i]?.bind (fun r => r[j]?)) = some (pc, ins, n)) : At m pc ins n := by
  obtain ⟨r, h1, h2⟩ := Option.bind_eq_some_iff.mp h
  have h3 := List.all_eq_true.mp hT r (List.mem_of_getElem? h1)
  have h4 := List.all_eq_true.mp h3 _ (List.mem_of_getElem? h2)
  have h5 : decode m.2.1 pc = .ok (ins, n) := of_decide_eq_true h4
  exact h5
theorem in32_ext {x : Int} (h : in32 x) : (Int32.ofInt x).toInt = x := by
  rw [Int32.toInt_ofInt]
  obtain ⟨h1, h2⟩ := h
  unfold Int.bmod
  simp only [Int32.size]
  split <;> omega
theorem in64_ext {x : Int} (h : in64 x) : (Int64.ofInt x).toInt = x := by
  rw [Int64.toInt_ofInt]
  obtain ⟨h1, h2⟩ := h
  unfold Int.bmod
  simp only [Int64.size]
  split <;> omega
theorem of_lt {x y : Int} (hx : in32 x) (hy : in32 y) : Int32.ofInt x < Int32.ofInt y ↔ x < y := by
  rw [Int32.lt_iff_toInt_lt, in32_ext hx, in32_ext hy]
theorem of_le {x y : Int} (hx : in32 x) (hy : in32 y) : Int32.ofInt x ≤ Int32.ofInt y ↔ x ≤ y := by
  rw [Int32.le_iff_toInt_le, in32_ext hx, in32_ext hy]
theorem of_eq {x y : Int} (hx : in32 x) (hy : in32 y) : Int32.ofInt x = Int32.ofInt y ↔ x = y := by
  rw [← Int32.toInt_inj, in32_ext hx, in32_ext hy]
theorem z32 : in32 0 := by unfold in32; omega
theorem of_clamp {x : Int} (hx : in32 x) (h : 0 ≤ x) : (Int32.ofInt x).toNatClampNeg = x.toNat := by
  show (Int32.ofInt x).toInt.toNat = x.toNat
  rw [in32_ext hx]
theorem of_in {x : Int} {n : Nat} (hx : in32 x) (h : 0 ≤ x) (h2 : x < n) : vp_in (Int32.ofInt x) n := by
  rw [vp_in_iff, in32_ext hx]
  exact ⟨h, h2⟩
theorem okv_mono {c c' : Nat} {X : Int → Prop} (h : c ≤ c') {v : MV} (hv : okv c X v) : okv c' X v := by
  rcases v with z | a | ⟨t, z⟩
  · exact hv
  · exact Nat.lt_of_lt_of_le hv h
  · unfold okv at hv ⊢
    split <;> simp_all
theorem vr_ext {ρ ρ' : Nat → Nat} {bs c : Nat} {X : Int → Prop} (h : ∀ i, i < c → ρ' i = ρ i) {v : MV} (hv : okv c X v) : vr ρ' bs v = vr ρ bs v := by
  rcases v with z | a | ⟨t, z⟩
  · rfl
  · exact congrArg Value.ref (h a hv)
  · unfold vr
    split <;> simp_all
theorem map_ext {ρ ρ' : Nat → Nat} {bs c : Nat} {X : Int → Prop} (h : ∀ i, i < c → ρ' i = ρ i) : ∀ {st : List MV}, (∀ v ∈ st, okv c X v) → st.map (vr ρ' bs) = st.map (vr ρ bs) := by
  intro st
  induction st with
  | nil => intro _; rfl
  | cons v vs ih =>
    intro hv
    rw [List.map_cons, List.map_cons, vr_ext h (hv v List.mem_cons_self), ih fun w hw => hv w (List.mem_cons_of_mem _ hw)]
theorem lps_ext {ρ ρ' : Nat → Nat} {bs c : Nat} {X : Int → Prop} (h : ∀ i, i < c → ρ' i = ρ i) : ∀ {ls : List MV} {i : Nat}, (∀ v ∈ ls, okv c X v) → lps ρ' bs i ls = lps ρ bs i ls := by
  intro ls
  induction ls with
  | nil => intro i _; rfl
  | cons v vs ih =>
    intro i hv
    rw [lps, lps, vr_ext h (hv v List.mem_cons_self), ih fun w hw => hv w (List.mem_cons_of_mem _ hw)]
theorem lps_in {ρ : Nat → Nat} {bs : Nat} : ∀ {ls : List MV} {i j : Nat} {v : MV}, ls[j]? = some v → live v = true → (i + j, vr ρ bs v) ∈ lps ρ bs i ls := by
  intro ls
  induction ls with
  | nil => intro i j v h; simp at h
  | cons w ws ih =>
    intro i j v h hl
    cases j with
    | zero =>
      simp at h
      subst h
      rw [lps, if_pos hl]
      exact List.mem_cons_self
    | succ j =>
      have h' : ws[j]? = some v := by simpa using h
      have := ih (i := i + 1) h' hl
      rw [show i + 1 + j = i + (j + 1) by omega] at this
      rw [lps]
      split
      · exact List.mem_cons_of_mem _ this
      · exact this
theorem FrR.get {bs nL : Nat} {ρ : Nat → Nat} {X : Int → Prop} {c : Nat} {LS : Array Slot} {ls : List MV} (h : FrR bs nL ρ X c LS ls) {i : Nat} {v : MV} (hi : ls[i]? = some v) (hl : live v = true) : LS[i]? = some (.val (vr ρ bs v)) := by
  have := lps_in (ρ := ρ) (bs := bs) (i := 0) hi hl
  rw [Nat.zero_add] at this
  exact h.1.2.2 _ this
theorem FrR.ok {bs nL : Nat} {ρ : Nat → Nat} {X : Int → Prop} {c : Nat} {LS : Array Slot} {ls : List MV} (h : FrR bs nL ρ X c LS ls) {i : Nat} {v : MV} (hi : ls[i]? = some v) : okv c X v := h.2.2 v (List.mem_of_getElem? hi)
theorem FrR.size {bs nL : Nat} {ρ : Nat → Nat} {X : Int → Prop} {c : Nat} {LS : Array Slot} {ls : List MV} (h : FrR bs nL ρ X c LS ls) : LS.size = nL := h.1.1
/-- the place ahead holds no value of two slots -/
def nc2 (ls : List MV) : Nat → Bool
  | 0 => true
  | i + 1 => match ls[i]? with
    | some v => !two v
    | none => true
theorem cat_vr {ρ : Nat → Nat} {bs : Nat} {v : MV} (h : two v = false) : (vr ρ bs v).category ≠ 2 := by
  rcases v with z | a | ⟨t, z⟩
  · simp [vr, Value.category]
  · simp [vr, Value.category]
  · unfold two at h
    unfold vr
    split <;> simp_all [Value.category]
theorem cat_vr1 {ρ : Nat → Nat} {bs : Nat} {v : MV} (h : two v = false) : (vr ρ bs v).category = 1 := by
  rcases lv_cat (vr ρ bs v) with h1 | h1
  · exact h1
  · exact absurd h1 (cat_vr h)
theorem cat_vr2 {ρ : Nat → Nat} {bs : Nat} {v : MV} : (vr ρ bs v).category = cat v := by
  rcases v with z | a | ⟨t, z⟩
  · rfl
  · rfl
  · unfold vr cat two
    split <;> simp_all [Value.category]
theorem cats {ρ : Nat → Nat} {bs : Nat} (st : List MV) : ((st.map (vr ρ bs)).map fun v => v.category) = st.map cat := by
  rw [List.map_map]
  exact List.map_congr_left fun v _ => cat_vr2
theorem lps_mem {ρ : Nat → Nat} {bs : Nat} : ∀ {ls : List MV} {i : Nat} {q : Nat × Value}, q ∈ lps ρ bs i ls → ∃ (j : Nat) (v : MV), ls[j]? = some v ∧ live v = true ∧ q = (i + j, vr ρ bs v) := by
  intro ls
  induction ls with
  | nil => intro i q h; simp [lps] at h
  | cons w ws ih =>
    intro i q h
    rw [lps] at h
    split at h
    · rename_i hw
      rcases List.mem_cons.mp h with h | h
      · exact ⟨0, w, rfl, hw, h⟩
      · obtain ⟨j, v, h1, h2, h3⟩ := ih h
        exact ⟨j + 1, v, by simpa using h1, h2, by rw [h3]; congr 1; omega⟩
    · obtain ⟨j, v, h1, h2, h3⟩ := ih h
      exact ⟨j + 1, v, by simpa using h1, h2, by rw [h3]; congr 1; omega⟩
theorem FrR.set1 {bs nL : Nat} {ρ : Nat → Nat} {X : Int → Prop} {c : Nat} {LS LS' : Array Slot} {ls : List MV} (h : FrR bs nL ρ X c LS ls) {i : Nat} {v : MV} (hi : i < nL) (hn : nc2 ls i = true) (hv : okv c X v)
    (h' : lv_has LS' nL ((i, vr ρ bs v) :: (lps ρ bs 0 ls).filter (fun q => !(q.1 == i) && !(q.1 + 1 == i && q.2.category == 2)))) : FrR bs nL ρ X c LS' (ls.set i v) := by
  obtain ⟨h1, h2, h3⟩ := h
  refine ⟨⟨h'.1, h'.2.1, fun q hq => ?_⟩, by rw [List.length_set]; exact h2, fun w hw => ?_⟩
  · obtain ⟨j, w, e1, e2, e3⟩ := lps_mem hq
    rw [Nat.zero_add] at e3
    subst e3
    by_cases hj : j = i
    · subst hj
      rw [List.getElem?_set_self (by omega)] at e1
      cases e1
      exact h'.2.2 _ List.mem_cons_self
    · rw [List.getElem?_set_ne (fun q => hj q.symm)] at e1
      refine h'.2.2 _ (List.mem_cons_of_mem _ (List.mem_filter.mpr ⟨?_, ?_⟩))
      · have := lps_in (ρ := ρ) (bs := bs) (i := 0) e1 e2
        rwa [Nat.zero_add] at this
      · simp only [Bool.and_eq_true, Bool.not_eq_true', beq_eq_false_iff_ne, ne_eq, Bool.and_eq_false_iff]
        refine ⟨hj, ?_⟩
        by_cases hji : j + 1 = i
        · refine Or.inr ?_
          subst hji
          simp only [nc2, e1, Bool.not_eq_true'] at hn
          exact cat_vr hn
        · exact Or.inl hji
  · rcases List.mem_or_eq_of_mem_set hw with hw | hw
    · exact h3 w hw
    · rw [hw]; exact hv
theorem FrR.set2 {bs nL : Nat} {ρ : Nat → Nat} {X : Int → Prop} {c : Nat} {LS LS' : Array Slot} {ls : List MV} (h : FrR bs nL ρ X c LS ls) {i : Nat} {v : MV} (hi : i + 1 < nL) (hn : nc2 ls i = true) (hv : okv c X v)
    (h' : lv_has LS' nL ((i, vr ρ bs v) :: (lps ρ bs 0 ls).filter (fun q => !(q.1 == i) && (!(q.1 == i + 1) && !(q.1 + 1 == i && q.2.category == 2))))) : FrR bs nL ρ X c LS' ((ls.set i v).set (i + 1) (vT 9 0)) := by
  obtain ⟨h1, h2, h3⟩ := h
  refine ⟨⟨h'.1, h'.2.1, fun q hq => ?_⟩, by rw [List.length_set, List.length_set]; exact h2, fun w hw => ?_⟩
  · obtain ⟨j, w, e1, e2, e3⟩ := lps_mem hq
    rw [Nat.zero_add] at e3
    subst e3
    by_cases hj1 : j = i + 1
    · subst hj1
      rw [List.getElem?_set_self (by rw [List.length_set]; omega)] at e1
      cases e1
      simp [live] at e2
    rw [List.getElem?_set_ne (fun q => hj1 q.symm)] at e1
    by_cases hj : j = i
    · subst hj
      rw [List.getElem?_set_self (by omega)] at e1
      cases e1
      exact h'.2.2 _ List.mem_cons_self
    · rw [List.getElem?_set_ne (fun q => hj q.symm)] at e1
      refine h'.2.2 _ (List.mem_cons_of_mem _ (List.mem_filter.mpr ⟨?_, ?_⟩))
      · have := lps_in (ρ := ρ) (bs := bs) (i := 0) e1 e2
        rwa [Nat.zero_add] at this
      · simp only [Bool.and_eq_true, Bool.not_eq_true', beq_eq_false_iff_ne, ne_eq, Bool.and_eq_false_iff]
        refine ⟨hj, hj1, ?_⟩
        by_cases hji : j + 1 = i
        · refine Or.inr ?_
          subst hji
          simp only [nc2, e1, Bool.not_eq_true'] at hn
          exact cat_vr hn
        · exact Or.inl hji
  · rcases List.mem_or_eq_of_mem_set hw with hw | hw
    · rcases List.mem_or_eq_of_mem_set hw with hw | hw
      · exact h3 w hw
      · rw [hw]; exact hv
    · rw [hw]; trivial
theorem FrR.ext {bs nL : Nat} {ρ ρ' : Nat → Nat} {X : Int → Prop} {c c' : Nat} {LS : Array Slot} {ls : List MV} (h : FrR bs nL ρ X c LS ls) (he : ∀ i, i < c → ρ' i = ρ i) (hc : c ≤ c') : FrR bs nL ρ' X c' LS ls := by
  obtain ⟨h1, h2, h3⟩ := h
  exact ⟨by rw [lps_ext he h3]; exact h1, h2, fun v hv => okv_mono hc (h3 v hv)⟩
/-- a step that touches the stack alone -/
theorem Go.pure {pc' : Nat} {st' : List MV} (k : Go xs d m b pc' ls st' σ out)
    (h : ∀ (p : Program) (l : Launch) (e : Env) (R : Room) (s : State) (mid : MethodId) (args : Array Value) (below : List Frame) (meth : Method) (c : Code) (Q : State → Prop) (bs : Nat) (ρ : Nat → Nat) (X : Int → Prop) (H : Heap) (locs : List Loc) (cells slots : Nat) (LS : Array Slot),
      p.tables.exec = Jvm.exec → c.code = m.2.1 → FrR bs m.2.2.1 ρ X σ.2.2 LS ls → (∀ v ∈ st, okv σ.2.2 X v) →
      (∀ v ∈ st', okv σ.2.2 X v) ∧ (W p l e R s mid args below meth c H locs cells slots Q (F0 mid pc' LS (st'.map (vr ρ bs))) → W p l e R s mid args below meth c H locs cells slots Q (F0 mid pc LS (st.map (vr ρ bs))))) :
    Go xs d m b pc ls st σ out := by
  intro p l e R s mid args below meth c Q dC dI dA N0 bs ρ0 c0 X hS hF H locs cells slots ρ LS hD hL ho
  obtain ⟨h1, h2⟩ := h p l e R s mid args below meth c Q bs ρ X H locs cells slots LS hS.1 hS.2.1 hL ho
  exact h2 (k p l e R s mid args below meth c Q dC dI dA N0 bs ρ0 c0 X hS hF H locs cells slots ρ LS hD hL h1)
theorem okc {c : Nat} {X : Int → Prop} {v : MV} {st : List MV} (h : okv c X v) (t : ∀ w ∈ st, okv c X w) : ∀ w ∈ v :: st, okv c X w := fun w hw => (List.mem_cons.mp hw).elim (fun e => by rw [e]; exact h) (t w)
theorem okt {c : Nat} {X : Int → Prop} {v : MV} {st : List MV} (h : ∀ w ∈ v :: st, okv c X w) : ∀ w ∈ st, okv c X w := fun w hw => h w (List.mem_cons_of_mem _ hw)
theorem okh {c : Nat} {X : Int → Prop} {v : MV} {st : List MV} (h : ∀ w ∈ v :: st, okv c X w) : okv c X v := h v List.mem_cons_self
-- constants
theorem go_iconst {n : Int} (hd : At m pc (.iconst n) 1) (hn : in32 n) (k : Go xs d m b (pc + 1) ls (vI n :: st) σ out) : Go xs d m b pc ls st σ out :=
  k.pure fun p l e R s mid args below meth c Q bs ρ X H locs cells slots LS hx hb hL ho => ⟨okc hn ho, fun kk => lv_iconst hx hb hd rfl kk⟩
theorem go_bipush {n : Int} (hd : At m pc (.bipush n) 2) (hn : -128 ≤ n ∧ n < 128) (k : Go xs d m b (pc + 2) ls (vI n :: st) σ out) : Go xs d m b pc ls st σ out :=
  k.pure fun p l e R s mid args below meth c Q bs ρ X H locs cells slots LS hx hb hL ho => ⟨okc (by unfold okv in32; omega) ho, fun kk => lv_bipush hx hb hd (by
    rw [← Int32.toInt_inj, in32_ext (by unfold in32; omega), Int8.toInt_toInt32, Int8.toInt_ofInt]
    unfold Int.bmod; simp only [Int8.size]; split <;> omega) kk⟩
theorem go_sipush {n : Int} (hd : At m pc (.sipush n) 3) (hn : -32768 ≤ n ∧ n < 32768) (k : Go xs d m b (pc + 3) ls (vI n :: st) σ out) : Go xs d m b pc ls st σ out :=
  k.pure fun p l e R s mid args below meth c Q bs ρ X H locs cells slots LS hx hb hL ho => ⟨okc (by unfold okv in32; omega) ho, fun kk => lv_sipush hx hb hd (by
    rw [← Int32.toInt_inj, in32_ext (by unfold in32; omega), Int16.toInt_toInt32, Int16.toInt_ofInt]
    unfold Int.bmod; simp only [Int16.size]; split <;> omega) kk⟩
theorem go_lconst {n : Fin 2} (hd : At m pc (.lconst n) 1) (k : Go xs d m b (pc + 1) ls (vT 1 (n.val : Int) :: st) σ out) : Go xs d m b pc ls st σ out :=
  k.pure fun p l e R s mid args below meth c Q bs ρ X H locs cells slots LS hx hb hL ho => ⟨okc (by have := n.isLt; show in64 _; unfold in64; omega) ho, fun kk => lv_lconst hx hb hd rfl kk⟩
-- loads
theorem go_iload {i n : Nat} {x : Int} (hd : At m pc (.iload i) n) (hl : ls[i]? = some (vI x)) (hn : n = 2) (k : Go xs d m b (pc + 2) ls (vI x :: st) σ out) : Go xs d m b pc ls st σ out :=
  k.pure fun p l e R s mid args below meth c Q bs ρ X H locs cells slots LS hx hb hL ho => ⟨okc (hL.ok hl) ho, fun kk => lv_iload hx hb (hn ▸ hd) (hL.get hl rfl) kk⟩
theorem go_iload_n {i : Fin 4} {x : Int} (hd : At m pc (.iload_n i) 1) (hl : ls[i.val]? = some (vI x)) (k : Go xs d m b (pc + 1) ls (vI x :: st) σ out) : Go xs d m b pc ls st σ out :=
  k.pure fun p l e R s mid args below meth c Q bs ρ X H locs cells slots LS hx hb hL ho => ⟨okc (hL.ok hl) ho, fun kk => lv_iload_n hx hb hd rfl (hL.get hl rfl) kk⟩
theorem go_aload {i : Nat} {a : Nat} (hd : At m pc (.aload i) 2) (hl : ls[i]? = some (vA a)) (k : Go xs d m b (pc + 2) ls (vA a :: st) σ out) : Go xs d m b pc ls st σ out :=
  k.pure fun p l e R s mid args below meth c Q bs ρ X H locs cells slots LS hx hb hL ho => ⟨okc (hL.ok hl) ho, fun kk => lv_aload hx hb hd (hL.get hl rfl) kk⟩
theorem go_aload_n {i : Fin 4} {a : Nat} (hd : At m pc (.aload_n i) 1) (hl : ls[i.val]? = some (vA a)) (k : Go xs d m b (pc + 1) ls (vA a :: st) σ out) : Go xs d m b pc ls st σ out :=
  k.pure fun p l e R s mid args below meth c Q bs ρ X H locs cells slots LS hx hb hL ho => ⟨okc (hL.ok hl) ho, fun kk => lv_aload_n hx hb hd rfl (hL.get hl rfl) kk⟩
/-- the script's own reference -/
theorem go_aload_s {i : Fin 4} {z : Int} (hd : At m pc (.aload_n i) 1) (hl : ls[i.val]? = some (vT 6 z)) (k : Go xs d m b (pc + 1) ls (vT 6 z :: st) σ out) : Go xs d m b pc ls st σ out :=
  k.pure fun p l e R s mid args below meth c Q bs ρ X H locs cells slots LS hx hb hL ho => ⟨okc (hL.ok hl) ho, fun kk => lv_aload_n hx hb hd rfl (hL.get hl rfl) kk⟩
theorem go_lload {i : Nat} {x : Int} (hd : At m pc (.lload i) 2) (hl : ls[i]? = some (vT 1 x)) (k : Go xs d m b (pc + 2) ls (vT 1 x :: st) σ out) : Go xs d m b pc ls st σ out :=
  k.pure fun p l e R s mid args below meth c Q bs ρ X H locs cells slots LS hx hb hL ho => ⟨okc (hL.ok hl) ho, fun kk => lv_lload hx hb hd (hL.get hl rfl) kk⟩
theorem go_fload {i : Nat} {x : Int} (hd : At m pc (.fload i) 2) (hl : ls[i]? = some (vT 2 x)) (k : Go xs d m b (pc + 2) ls (vT 2 x :: st) σ out) : Go xs d m b pc ls st σ out :=
  k.pure fun p l e R s mid args below meth c Q bs ρ X H locs cells slots LS hx hb hL ho => ⟨okc (hL.ok hl) ho, fun kk => lv_fload hx hb hd (hL.get hl rfl) kk⟩
theorem go_fload_n {i : Fin 4} {x : Int} (hd : At m pc (.fload_n i) 1) (hl : ls[i.val]? = some (vT 2 x)) (k : Go xs d m b (pc + 1) ls (vT 2 x :: st) σ out) : Go xs d m b pc ls st σ out :=
  k.pure fun p l e R s mid args below meth c Q bs ρ X H locs cells slots LS hx hb hL ho => ⟨okc (hL.ok hl) ho, fun kk => lv_fload_n hx hb hd rfl (hL.get hl rfl) kk⟩
theorem go_dload {i : Nat} {x : Int} (hd : At m pc (.dload i) 2) (hl : ls[i]? = some (vT 3 x)) (k : Go xs d m b (pc + 2) ls (vT 3 x :: st) σ out) : Go xs d m b pc ls st σ out :=
  k.pure fun p l e R s mid args below meth c Q bs ρ X H locs cells slots LS hx hb hL ho => ⟨okc (hL.ok hl) ho, fun kk => lv_dload hx hb hd (hL.get hl rfl) kk⟩
theorem go_dload_n {i : Fin 4} {x : Int} (hd : At m pc (.dload_n i) 1) (hl : ls[i.val]? = some (vT 3 x)) (k : Go xs d m b (pc + 1) ls (vT 3 x :: st) σ out) : Go xs d m b pc ls st σ out :=
  k.pure fun p l e R s mid args below meth c Q bs ρ X H locs cells slots LS hx hb hL ho => ⟨okc (hL.ok hl) ho, fun kk => lv_dload_n hx hb hd rfl (hL.get hl rfl) kk⟩
-- arithmetic
theorem go_iadd {x y : Int} (hd : At m pc .iadd 1) (hr : in32 (x + y)) (k : Go xs d m b (pc + 1) ls (vI (x + y) :: st) σ out) : Go xs d m b pc ls (vI y :: vI x :: st) σ out :=
  k.pure fun p l e R s mid args below meth c Q bs ρ X H locs cells slots LS hx hb hL ho => ⟨okc hr (okt (okt ho)), fun kk => lv_iadd hx hb hd (by rw [← Int32.ofInt_add]; exact kk)⟩
theorem go_isub {x y : Int} (hd : At m pc .isub 1) (hr : in32 (x - y)) (k : Go xs d m b (pc + 1) ls (vI (x - y) :: st) σ out) : Go xs d m b pc ls (vI y :: vI x :: st) σ out :=
  k.pure fun p l e R s mid args below meth c Q bs ρ X H locs cells slots LS hx hb hL ho => ⟨okc hr (okt (okt ho)), fun kk => lv_isub hx hb hd (by rw [← Int32.ofInt_sub]; exact kk)⟩
theorem go_imul {x y : Int} (hd : At m pc .imul 1) (hr : in32 (x * y)) (k : Go xs d m b (pc + 1) ls (vI (x * y) :: st) σ out) : Go xs d m b pc ls (vI y :: vI x :: st) σ out :=
  k.pure fun p l e R s mid args below meth c Q bs ρ X H locs cells slots LS hx hb hL ho => ⟨okc hr (okt (okt ho)), fun kk => lv_imul hx hb hd (by rw [← Int32.ofInt_mul]; exact kk)⟩
theorem of_div {x y : Int} (hx : in32 x) (hy : in32 y) (h0 : 0 ≤ x) (h1 : 0 < y) : Int32.ofInt x / Int32.ofInt y = Int32.ofInt (x / y) := by
  have hq : 0 ≤ x / y := Int.ediv_nonneg h0 (by omega)
  have hq2 : x / y ≤ x := Int.ediv_le_self y h0
  have ht : in32 (x / y) := by unfold in32 at *; omega
  rw [← Int32.toInt_inj, in32_ext ht, Int32.toInt_div, in32_ext hx, in32_ext hy, Int.tdiv_eq_ediv_of_nonneg h0]
  have h9 := in32_ext ht
  rw [Int32.toInt_ofInt] at h9
  exact h9
theorem go_idiv {x y : Int} (hd : At m pc .idiv 1) (h0 : 0 ≤ x) (h1 : 0 < y) (k : Go xs d m b (pc + 1) ls (vI (x / y) :: st) σ out) : Go xs d m b pc ls (vI y :: vI x :: st) σ out :=
  k.pure fun p l e R s mid args below meth c Q bs ρ X H locs cells slots LS hx hb hL ho => ⟨okc (by
    have hq : 0 ≤ x / y := Int.ediv_nonneg h0 (by omega)
    have hq2 : x / y ≤ x := Int.ediv_le_self y h0
    have h3 : in32 x := okh (okt ho)
    show in32 _; unfold in32 at *; omega) (okt (okt ho)), fun kk => lv_idiv hx hb hd (by
      have h3 : in32 y := okh ho
      intro q
      have := (of_eq h3 z32).mp q
      omega) (by rw [of_div (okh (okt ho)) (okh ho) h0 h1]; exact kk)⟩
theorem go_irem {x y : Int} (hd : At m pc .irem 1) (h0 : 0 ≤ x) (h1 : 0 < y) (k : Go xs d m b (pc + 1) ls (vI (x % y) :: st) σ out) : Go xs d m b pc ls (vI y :: vI x :: st) σ out :=
  k.pure fun p l e R s mid args below meth c Q bs ρ X H locs cells slots LS hx hb hL ho => ⟨okc (by
    have hq : 0 ≤ x % y := Int.emod_nonneg x (by omega)
    have hq2 : x % y < y := Int.emod_lt_of_pos x h1
    have h3 : in32 y := okh ho
    show in32 _; unfold in32 at *; omega) (okt (okt ho)), fun kk => lv_irem hx hb hd (by
      have h3 : in32 y := okh ho
      intro q
      have := (of_eq h3 z32).mp q
      omega) (by
        rw [of_div (okh (okt ho)) (okh ho) h0 h1, ← Int32.ofInt_mul, ← Int32.ofInt_sub, show x - x / y * y = x % y by rw [Int.emod_def, Int.mul_comm]]
        exact kk)⟩
theorem of_bv (z : Int) (k : Nat) (hk : k ∣ 2 ^ 32) (h0 : 0 < k) : (Int32.ofInt z).toBitVec.toNat % k = (z % (k : Int)).toNat := by
  have h1 : (Int32.ofInt z).toBitVec.toNat = (z % (2 ^ 32 : Nat)).toNat := by
    show (BitVec.ofInt 32 z).toNat = _
    rw [BitVec.toNat_ofInt]
  rw [h1]
  have h2 : (0 : Int) ≤ z % (2 ^ 32 : Nat) := Int.emod_nonneg _ (by decide)
  have h3 : (0 : Int) ≤ z % (k : Int) := Int.emod_nonneg _ (by omega)
  apply Int.ofNat.inj
  show (((z % (2 ^ 32 : Nat)).toNat % k : Nat) : Int) = ((z % (k : Int)).toNat : Int)
  rw [Int.natCast_emod, Int.toNat_of_nonneg h2, Int.toNat_of_nonneg h3]
  exact Int.emod_emod_of_dvd z (Int.natCast_dvd_natCast.mpr hk)
theorem nI_ofZ {n : Nat} {z : Int} (h : (n : Int) = z) : nI n = Int32.ofInt z := by subst h; exact Int32.ofInt_eq_ofNat.symm
theorem go_i2c {x : Int} (hd : At m pc .i2c 1) (k : Go xs d m b (pc + 1) ls (vI (x % 65536) :: st) σ out) : Go xs d m b pc ls (vI x :: st) σ out :=
  k.pure fun p l e R s mid args below meth c Q bs ρ X H locs cells slots LS hx hb hL ho => ⟨okc (by
    show in32 _; unfold in32; omega) (okt ho), fun kk => lv_i2c hx hb hd (by
      rw [pk_char, of_bv x 65536 (by decide) (by decide)]
      exact nI_ofZ (Int.toNat_of_nonneg (Int.emod_nonneg _ (by decide)))) kk⟩
theorem go_iand63 {x : Int} (hd : At m pc .iand 1) (k : Go xs d m b (pc + 1) ls (vI (x % 64) :: st) σ out) : Go xs d m b pc ls (vI 63 :: vI x :: st) σ out :=
  k.pure fun p l e R s mid args below meth c Q bs ρ X H locs cells slots LS hx hb hL ho => ⟨okc (by
    show in32 _; unfold in32; omega) (okt (okt ho)), fun kk => lv_iand hx hb hd (by
      rw [show Int32.ofInt 63 = (63 : Int32) from rfl, pk_and _ 6 rfl, of_bv x (2 ^ 6) (by decide) (by decide)]
      rw [show ((2 ^ 6 : Nat) : Int) = 64 from rfl, nI_ofZ (z := x % 64) (Int.toNat_of_nonneg (Int.emod_nonneg _ (by decide)))]
      exact kk)⟩
theorem go_i2l {x : Int} (hd : At m pc .i2l 1) (k : Go xs d m b (pc + 1) ls (vT 1 x :: st) σ out) : Go xs d m b pc ls (vI x :: st) σ out :=
  k.pure fun p l e R s mid args below meth c Q bs ρ X H locs cells slots LS hx hb hL ho => ⟨okc (by
    have h : in32 x := okh ho
    show in64 _; unfold in64; unfold in32 at h; omega) (okt ho), fun kk => lv_i2l hx hb hd (by
      have h : in32 x := okh ho
      rw [← Int64.toInt_inj, Int32.toInt_toInt64, in32_ext h, in64_ext (by unfold in64; unfold in32 at h; omega)]) kk⟩
theorem go_ladd {x y : Int} (hd : At m pc .ladd 1) (hr : in64 (x + y)) (k : Go xs d m b (pc + 1) ls (vT 1 (x + y) :: st) σ out) : Go xs d m b pc ls (vT 1 y :: vT 1 x :: st) σ out :=
  k.pure fun p l e R s mid args below meth c Q bs ρ X H locs cells slots LS hx hb hL ho => ⟨okc hr (okt (okt ho)), fun kk => lv_ladd hx hb hd (by rw [← Int64.ofInt_add]; exact kk)⟩
theorem go_lsub {x y : Int} (hd : At m pc .lsub 1) (hr : in64 (x - y)) (k : Go xs d m b (pc + 1) ls (vT 1 (x - y) :: st) σ out) : Go xs d m b pc ls (vT 1 y :: vT 1 x :: st) σ out :=
  k.pure fun p l e R s mid args below meth c Q bs ρ X H locs cells slots LS hx hb hL ho => ⟨okc hr (okt (okt ho)), fun kk => lv_lsub hx hb hd (by rw [← Int64.ofInt_sub]; exact kk)⟩
def cmpZ (x y : Int) : Int := if x < y then -1 else if x = y then 0 else 1
theorem lg_cmpZ {x y : Int} (hx : in64 x) (hy : in64 y) : lg_cmp (Int64.ofInt x) (Int64.ofInt y) = Int32.ofInt (cmpZ x y) := by
  unfold lg_cmp cmpZ
  simp only [Int64.lt_iff_toInt_lt, ← Int64.toInt_inj, in64_ext hx, in64_ext hy]
  repeat' split
  all_goals first | rfl | omega
theorem go_lcmp {x y : Int} (hd : At m pc .lcmp 1) (k : Go xs d m b (pc + 1) ls (vI (cmpZ x y) :: st) σ out) : Go xs d m b pc ls (vT 1 y :: vT 1 x :: st) σ out :=
  k.pure fun p l e R s mid args below meth c Q bs ρ X H locs cells slots LS hx hb hL ho => ⟨okc (by
    show in32 _; unfold in32 cmpZ; repeat' split
    all_goals omega) (okt (okt ho)), fun kk => W.lcmp hx hb hd (by rw [lg_cmpZ (okh (okt ho)) (okh ho)]; exact kk)⟩
-- floats and doubles
abbrev vF (x : UInt32) : MV := vT 2 (x.toNat : Int)
abbrev vD (x : UInt64) : MV := vT 3 (x.toNat : Int)
theorem vr_F {ρ : Nat → Nat} {bs : Nat} (x : UInt32) : vr ρ bs (vF x) = .float x := congrArg Value.float (by rw [Int.toNat_natCast]; exact UInt32.ofNat_toNat)
theorem vr_D {ρ : Nat → Nat} {bs : Nat} (x : UInt64) : vr ρ bs (vD x) = .double x := congrArg Value.double (by rw [Int.toNat_natCast]; exact UInt64.ofNat_toNat)
theorem ok_F {c : Nat} {X : Int → Prop} (x : UInt32) : okv c X (vF x) := by
  have := x.toNat_lt
  show 0 ≤ (x.toNat : Int) ∧ (x.toNat : Int) < 4294967296
  omega
theorem ok_D {c : Nat} {X : Int → Prop} (x : UInt64) : okv c X (vD x) := by
  have := x.toNat_lt
  show 0 ≤ (x.toNat : Int) ∧ (x.toNat : Int) < 18446744073709551616
  omega
theorem go_i2f {x : Int} (hd : At m pc .i2f 1) (k : Go xs d m b (pc + 1) ls (vF (FP.i2f (Int32.ofInt x)) :: st) σ out) : Go xs d m b pc ls (vI x :: st) σ out :=
  k.pure fun p l e R s mid args below meth c Q bs ρ X H locs cells slots LS hx hb hL ho => ⟨okc (ok_F _) (okt ho), fun kk => lv_i2f hx hb hd (by rw [List.map_cons, vr_F] at kk; exact kk)⟩
theorem go_i2d {x : Int} (hd : At m pc .i2d 1) (k : Go xs d m b (pc + 1) ls (vD (FP.i2d (Int32.ofInt x)) :: st) σ out) : Go xs d m b pc ls (vI x :: st) σ out :=
  k.pure fun p l e R s mid args below meth c Q bs ρ X H locs cells slots LS hx hb hL ho => ⟨okc (ok_D _) (okt ho), fun kk => lv_i2d hx hb hd (by rw [List.map_cons, vr_D] at kk; exact kk)⟩
theorem go_f2d {x : UInt32} (hd : At m pc .f2d 1) (hn : vf_n64 (FP.f2d x)) (k : Go xs d m b (pc + 1) ls (vD (FP.f2d x) :: st) σ out) : Go xs d m b pc ls (vF x :: st) σ out :=
  k.pure fun p l e R s mid args below meth c Q bs ρ X H locs cells slots LS hx hb hL ho => ⟨okc (ok_D _) (okt ho), fun kk => by
    rw [List.map_cons, vr_D] at kk; rw [List.map_cons, vr_F]; exact lv_f2d hx hb hd hn kk⟩
theorem go_f2i {x : UInt32} (hd : At m pc .f2i 1) (k : Go xs d m b (pc + 1) ls (vI (FP.f2i x).toInt :: st) σ out) : Go xs d m b pc ls (vF x :: st) σ out :=
  k.pure fun p l e R s mid args below meth c Q bs ρ X H locs cells slots LS hx hb hL ho => ⟨okc (by
    show in32 _; have h1 := (FP.f2i x).le_toInt; have h2 := (FP.f2i x).toInt_lt; unfold in32; omega) (okt ho), fun kk => by
    rw [List.map_cons, vr_F]; refine lv_f2i hx hb hd ?_; rw [List.map_cons, show vr ρ bs (vI (FP.f2i x).toInt) = .int (FP.f2i x) from congrArg Value.int (Int32.ofInt_toInt _)] at kk; exact kk⟩
theorem go_d2l {x : UInt64} (hd : At m pc .d2l 1) (k : Go xs d m b (pc + 1) ls (vT 1 (FP.d2l x).toInt :: st) σ out) : Go xs d m b pc ls (vD x :: st) σ out :=
  k.pure fun p l e R s mid args below meth c Q bs ρ X H locs cells slots LS hx hb hL ho => ⟨okc (by
    show in64 _; have h1 := (FP.d2l x).le_toInt; have h2 := (FP.d2l x).toInt_lt; unfold in64; omega) (okt ho), fun kk => by
    rw [List.map_cons, vr_D]; refine lv_d2l hx hb hd ?_; rw [List.map_cons, show vr ρ bs (vT 1 (FP.d2l x).toInt) = .long (FP.d2l x) from congrArg Value.long (Int64.ofInt_toInt _)] at kk; exact kk⟩
theorem go_fsub {x y : UInt32} (hd : At m pc .fsub 1) (hn : vf_n32 (FP.fsub x y)) (k : Go xs d m b (pc + 1) ls (vF (FP.fsub x y) :: st) σ out) : Go xs d m b pc ls (vF y :: vF x :: st) σ out :=
  k.pure fun p l e R s mid args below meth c Q bs ρ X H locs cells slots LS hx hb hL ho => ⟨okc (ok_F _) (okt (okt ho)), fun kk => by
    rw [List.map_cons, vr_F] at kk; rw [List.map_cons, List.map_cons, vr_F, vr_F]; exact lv_fsub hx hb hd hn kk⟩
theorem go_fmul {x y : UInt32} (hd : At m pc .fmul 1) (hn : vf_n32 (FP.fmul x y)) (k : Go xs d m b (pc + 1) ls (vF (FP.fmul x y) :: st) σ out) : Go xs d m b pc ls (vF y :: vF x :: st) σ out :=
  k.pure fun p l e R s mid args below meth c Q bs ρ X H locs cells slots LS hx hb hL ho => ⟨okc (ok_F _) (okt (okt ho)), fun kk => by
    rw [List.map_cons, vr_F] at kk; rw [List.map_cons, List.map_cons, vr_F, vr_F]; exact lv_fmul hx hb hd hn kk⟩
theorem go_fdiv {x y : UInt32} (hd : At m pc .fdiv 1) (hn : vf_n32 (FP.fdiv x y)) (k : Go xs d m b (pc + 1) ls (vF (FP.fdiv x y) :: st) σ out) : Go xs d m b pc ls (vF y :: vF x :: st) σ out :=
  k.pure fun p l e R s mid args below meth c Q bs ρ X H locs cells slots LS hx hb hL ho => ⟨okc (ok_F _) (okt (okt ho)), fun kk => by
    rw [List.map_cons, vr_F] at kk; rw [List.map_cons, List.map_cons, vr_F, vr_F]; exact lv_fdiv hx hb hd hn kk⟩
theorem go_dsub {x y : UInt64} (hd : At m pc .dsub 1) (hn : vf_n64 (FP.dsub x y)) (k : Go xs d m b (pc + 1) ls (vD (FP.dsub x y) :: st) σ out) : Go xs d m b pc ls (vD y :: vD x :: st) σ out :=
  k.pure fun p l e R s mid args below meth c Q bs ρ X H locs cells slots LS hx hb hL ho => ⟨okc (ok_D _) (okt (okt ho)), fun kk => by
    rw [List.map_cons, vr_D] at kk; rw [List.map_cons, List.map_cons, vr_D, vr_D]; exact lv_dsub hx hb hd hn kk⟩
theorem go_dmul {x y : UInt64} (hd : At m pc .dmul 1) (hn : vf_n64 (FP.dmul x y)) (k : Go xs d m b (pc + 1) ls (vD (FP.dmul x y) :: st) σ out) : Go xs d m b pc ls (vD y :: vD x :: st) σ out :=
  k.pure fun p l e R s mid args below meth c Q bs ρ X H locs cells slots LS hx hb hL ho => ⟨okc (ok_D _) (okt (okt ho)), fun kk => by
    rw [List.map_cons, vr_D] at kk; rw [List.map_cons, List.map_cons, vr_D, vr_D]; exact lv_dmul hx hb hd hn kk⟩
theorem go_ddiv {x y : UInt64} (hd : At m pc .ddiv 1) (hn : vf_n64 (FP.ddiv x y)) (k : Go xs d m b (pc + 1) ls (vD (FP.ddiv x y) :: st) σ out) : Go xs d m b pc ls (vD y :: vD x :: st) σ out :=
  k.pure fun p l e R s mid args below meth c Q bs ρ X H locs cells slots LS hx hb hL ho => ⟨okc (ok_D _) (okt (okt ho)), fun kk => by
    rw [List.map_cons, vr_D] at kk; rw [List.map_cons, List.map_cons, vr_D, vr_D]; exact lv_ddiv hx hb hd hn kk⟩
theorem go_fcmp {x y : UInt32} {op : CmpOp} (hd : At m pc (.fcmp op) 1) (k : Go xs d m b (pc + 1) ls (vI (Op.cmpValue (FP.fcmp x y) op).toInt :: st) σ out) : Go xs d m b pc ls (vF y :: vF x :: st) σ out :=
  k.pure fun p l e R s mid args below meth c Q bs ρ X H locs cells slots LS hx hb hL ho => ⟨okc (by
    show in32 _; have h1 := (Op.cmpValue (FP.fcmp x y) op).le_toInt; have h2 := (Op.cmpValue (FP.fcmp x y) op).toInt_lt; unfold in32; omega) (okt (okt ho)), fun kk => by
    rw [List.map_cons, List.map_cons, vr_F, vr_F]; refine lv_fcmp hx hb hd ?_; rw [List.map_cons, show vr ρ bs (vI (Op.cmpValue (FP.fcmp x y) op).toInt) = .int (Op.cmpValue (FP.fcmp x y) op) from congrArg Value.int (Int32.ofInt_toInt _)] at kk; exact kk⟩
theorem go_dcmp {x y : UInt64} {op : CmpOp} (hd : At m pc (.dcmp op) 1) (k : Go xs d m b (pc + 1) ls (vI (Op.cmpValue (FP.dcmp x y) op).toInt :: st) σ out) : Go xs d m b pc ls (vD y :: vD x :: st) σ out :=
  k.pure fun p l e R s mid args below meth c Q bs ρ X H locs cells slots LS hx hb hL ho => ⟨okc (by
    show in32 _; have h1 := (Op.cmpValue (FP.dcmp x y) op).le_toInt; have h2 := (Op.cmpValue (FP.dcmp x y) op).toInt_lt; unfold in32; omega) (okt (okt ho)), fun kk => by
    rw [List.map_cons, List.map_cons, vr_D, vr_D]; refine lv_dcmp hx hb hd ?_; rw [List.map_cons, show vr ρ bs (vI (Op.cmpValue (FP.dcmp x y) op).toInt) = .int (Op.cmpValue (FP.dcmp x y) op) from congrArg Value.int (Int32.ofInt_toInt _)] at kk; exact kk⟩
theorem go_fconst0 (hd : At m pc (.fconst 0) 1) (k : Go xs d m b (pc + 1) ls (vF FP.fconst0 :: st) σ out) : Go xs d m b pc ls st σ out :=
  k.pure fun p l e R s mid args below meth c Q bs ρ X H locs cells slots LS hx hb hL ho => ⟨okc (ok_F _) ho, fun kk => lv_fconst0 hx hb hd (by rw [List.map_cons, vr_F] at kk; exact kk)⟩
theorem go_fconst1 (hd : At m pc (.fconst 1) 1) (k : Go xs d m b (pc + 1) ls (vF FP.fconst1 :: st) σ out) : Go xs d m b pc ls st σ out :=
  k.pure fun p l e R s mid args below meth c Q bs ρ X H locs cells slots LS hx hb hL ho => ⟨okc (ok_F _) ho, fun kk => lv_fconst1 hx hb hd (by rw [List.map_cons, vr_F] at kk; exact kk)⟩
theorem go_fconst2 (hd : At m pc (.fconst 2) 1) (k : Go xs d m b (pc + 1) ls (vF FP.fconst2 :: st) σ out) : Go xs d m b pc ls st σ out :=
  k.pure fun p l e R s mid args below meth c Q bs ρ X H locs cells slots LS hx hb hL ho => ⟨okc (ok_F _) ho, fun kk => lv_fconst2 hx hb hd (by rw [List.map_cons, vr_F] at kk; exact kk)⟩
theorem go_dconst0 (hd : At m pc (.dconst 0) 1) (k : Go xs d m b (pc + 1) ls (vD FP.dconst0 :: st) σ out) : Go xs d m b pc ls st σ out :=
  k.pure fun p l e R s mid args below meth c Q bs ρ X H locs cells slots LS hx hb hL ho => ⟨okc (ok_D _) ho, fun kk => lv_dconst0 hx hb hd (by rw [List.map_cons, vr_D] at kk; exact kk)⟩
theorem go_dconst1 (hd : At m pc (.dconst 1) 1) (k : Go xs d m b (pc + 1) ls (vD FP.dconst1 :: st) σ out) : Go xs d m b pc ls st σ out :=
  k.pure fun p l e R s mid args below meth c Q bs ρ X H locs cells slots LS hx hb hL ho => ⟨okc (ok_D _) ho, fun kk => lv_dconst1 hx hb hd (by rw [List.map_cons, vr_D] at kk; exact kk)⟩
theorem go_ishl {x y : Int} (hd : At m pc .ishl 1) (k : Go xs d m b (pc + 1) ls (vI (Int32.ofInt x <<< (Int32.ofInt y &&& 31)).toInt :: st) σ out) : Go xs d m b pc ls (vI y :: vI x :: st) σ out :=
  k.pure fun p l e R s mid args below meth c Q bs ρ X H locs cells slots LS hx hb hL ho => ⟨okc (by
    show in32 _; have h1 := (Int32.ofInt x <<< (Int32.ofInt y &&& 31)).le_toInt; have h2 := (Int32.ofInt x <<< (Int32.ofInt y &&& 31)).toInt_lt; unfold in32; omega) (okt (okt ho)), fun kk => lv_ishl hx hb hd (by rw [List.map_cons, show vr ρ bs (vI (Int32.ofInt x <<< (Int32.ofInt y &&& 31)).toInt) = .int (Int32.ofInt x <<< (Int32.ofInt y &&& 31)) from congrArg Value.int (Int32.ofInt_toInt _)] at kk; exact kk)⟩
theorem go_lshl {x y : Int} (hd : At m pc .lshl 1) (k : Go xs d m b (pc + 1) ls (vT 1 (Int64.ofInt x <<< ((Int32.ofInt y).toInt64 &&& 63)).toInt :: st) σ out) : Go xs d m b pc ls (vI y :: vT 1 x :: st) σ out :=
  k.pure fun p l e R s mid args below meth c Q bs ρ X H locs cells slots LS hx hb hL ho => ⟨okc (by
    show in64 _; have h1 := (Int64.ofInt x <<< ((Int32.ofInt y).toInt64 &&& 63)).le_toInt; have h2 := (Int64.ofInt x <<< ((Int32.ofInt y).toInt64 &&& 63)).toInt_lt; unfold in64; omega) (okt (okt ho)), fun kk => lv_lshl hx hb hd rfl (by rw [List.map_cons, show vr ρ bs (vT 1 (Int64.ofInt x <<< ((Int32.ofInt y).toInt64 &&& 63)).toInt) = .long (Int64.ofInt x <<< ((Int32.ofInt y).toInt64 &&& 63)) from congrArg Value.long (Int64.ofInt_toInt _)] at kk; exact kk)⟩
-- the stack
theorem go_dup {v : MV} (hd : At m pc .dup 1) (h1 : two v = false) (k : Go xs d m b (pc + 1) ls (v :: v :: st) σ out) : Go xs d m b pc ls (v :: st) σ out :=
  k.pure fun p l e R s mid args below meth c Q bs ρ X H locs cells slots LS hx hb hL ho => ⟨okc (okh ho) ho, fun kk => lv_dup hx hb hd (cat_vr1 h1) kk⟩
theorem go_dup2 {v w : MV} (hd : At m pc .dup2 1) (h1 : two v = false) (h2 : two w = false) (k : Go xs d m b (pc + 1) ls (v :: w :: v :: w :: st) σ out) : Go xs d m b pc ls (v :: w :: st) σ out :=
  k.pure fun p l e R s mid args below meth c Q bs ρ X H locs cells slots LS hx hb hL ho => ⟨okc (okh ho) (okc (okh (okt ho)) ho), fun kk => lv_dup2_11 hx hb hd (cat_vr1 h1) (cat_vr1 h2) kk⟩
theorem go_pop {v : MV} (hd : At m pc .pop 1) (h1 : two v = false) (k : Go xs d m b (pc + 1) ls st σ out) : Go xs d m b pc ls (v :: st) σ out :=
  k.pure fun p l e R s mid args below meth c Q bs ρ X H locs cells slots LS hx hb hL ho => ⟨okt ho, fun kk => lv_pop hx hb hd (cat_vr1 h1) kk⟩
theorem go_goto {off : Int} {tgt : Nat} (hd : At m pc (.goto off) 3) (ht : (pc : Int) + off = (tgt : Int)) (k : Go xs d m b tgt ls st σ out) : Go xs d m b pc ls st σ out :=
  k.pure fun p l e R s mid args below meth c Q bs ρ X H locs cells slots LS hx hb hL ho => ⟨ho, fun kk => lv_goto hx hb hd ht kk⟩
-- stores into locals
theorem go_istore {i : Nat} {x : Int} (hd : At m pc (.istore i) 2) (hi : decide (i < m.2.2.1) = true) (hn : nc2 ls i = true) (k : Go xs d m b (pc + 2) (ls.set i (vI x)) st σ out) : Go xs d m b pc ls (vI x :: st) σ out := by
  intro p l e R s mid args below meth c Q dC dI dA N0 bs ρ0 c0 X hS hF H locs cells slots ρ LS hD hL ho
  refine lv_istore hS.1 hS.2.1 hd hL.1 (of_decide_eq_true hi) rfl (fun LS' h' => ?_)
  exact k p l e R s mid args below meth c Q dC dI dA N0 bs ρ0 c0 X hS hF H locs cells slots ρ LS' hD (hL.set1 (v := vI x) (of_decide_eq_true hi) hn (okh ho) h') (okt ho)
theorem go_istore_n {i : Fin 4} {x : Int} (hd : At m pc (.istore_n i) 1) (hi : decide (i.val < m.2.2.1) = true) (hn : nc2 ls i.val = true) (k : Go xs d m b (pc + 1) (ls.set i.val (vI x)) st σ out) : Go xs d m b pc ls (vI x :: st) σ out := by
  intro p l e R s mid args below meth c Q dC dI dA N0 bs ρ0 c0 X hS hF H locs cells slots ρ LS hD hL ho
  refine lv_istore_n hS.1 hS.2.1 hd rfl hL.1 (of_decide_eq_true hi) rfl (fun LS' h' => ?_)
  exact k p l e R s mid args below meth c Q dC dI dA N0 bs ρ0 c0 X hS hF H locs cells slots ρ LS' hD (hL.set1 (v := vI x) (of_decide_eq_true hi) hn (okh ho) h') (okt ho)
theorem go_astore {i : Nat} {x : Nat} (hd : At m pc (.astore i) 2) (hi : decide (i < m.2.2.1) = true) (hn : nc2 ls i = true) (k : Go xs d m b (pc + 2) (ls.set i (vA x)) st σ out) : Go xs d m b pc ls (vA x :: st) σ out := by
  intro p l e R s mid args below meth c Q dC dI dA N0 bs ρ0 c0 X hS hF H locs cells slots ρ LS hD hL ho
  refine lv_astore hS.1 hS.2.1 hd hL.1 (of_decide_eq_true hi) rfl (fun LS' h' => ?_)
  exact k p l e R s mid args below meth c Q dC dI dA N0 bs ρ0 c0 X hS hF H locs cells slots ρ LS' hD (hL.set1 (v := vA x) (of_decide_eq_true hi) hn (okh ho) h') (okt ho)
theorem go_astore_n {i : Fin 4} {x : Nat} (hd : At m pc (.astore_n i) 1) (hi : decide (i.val < m.2.2.1) = true) (hn : nc2 ls i.val = true) (k : Go xs d m b (pc + 1) (ls.set i.val (vA x)) st σ out) : Go xs d m b pc ls (vA x :: st) σ out := by
  intro p l e R s mid args below meth c Q dC dI dA N0 bs ρ0 c0 X hS hF H locs cells slots ρ LS hD hL ho
  refine lv_astore_n hS.1 hS.2.1 hd rfl hL.1 (of_decide_eq_true hi) rfl (fun LS' h' => ?_)
  exact k p l e R s mid args below meth c Q dC dI dA N0 bs ρ0 c0 X hS hF H locs cells slots ρ LS' hD (hL.set1 (v := vA x) (of_decide_eq_true hi) hn (okh ho) h') (okt ho)
theorem go_lstore {i : Nat} {x : Int} (hd : At m pc (.lstore i) 2) (hi : decide (i + 1 < m.2.2.1) = true) (hn : nc2 ls i = true) (k : Go xs d m b (pc + 2) ((ls.set i (vT 1 x)).set (i + 1) (vT 9 0)) st σ out) : Go xs d m b pc ls (vT 1 x :: st) σ out := by
  intro p l e R s mid args below meth c Q dC dI dA N0 bs ρ0 c0 X hS hF H locs cells slots ρ LS hD hL ho
  refine lv_lstore hS.1 hS.2.1 hd hL.1 (of_decide_eq_true hi) rfl (fun LS' h' => ?_)
  exact k p l e R s mid args below meth c Q dC dI dA N0 bs ρ0 c0 X hS hF H locs cells slots ρ LS' hD (hL.set2 (v := vT 1 x) (of_decide_eq_true hi) hn (okh ho) h') (okt ho)
theorem go_lstore_n {i : Fin 4} {x : Int} (hd : At m pc (.lstore_n i) 1) (hi : decide (i.val + 1 < m.2.2.1) = true) (hn : nc2 ls i.val = true) (k : Go xs d m b (pc + 1) ((ls.set i.val (vT 1 x)).set (i.val + 1) (vT 9 0)) st σ out) : Go xs d m b pc ls (vT 1 x :: st) σ out := by
  intro p l e R s mid args below meth c Q dC dI dA N0 bs ρ0 c0 X hS hF H locs cells slots ρ LS hD hL ho
  refine lv_lstore_n hS.1 hS.2.1 hd rfl hL.1 (of_decide_eq_true hi) rfl (fun LS' h' => ?_)
  exact k p l e R s mid args below meth c Q dC dI dA N0 bs ρ0 c0 X hS hF H locs cells slots ρ LS' hD (hL.set2 (v := vT 1 x) (of_decide_eq_true hi) hn (okh ho) h') (okt ho)
theorem go_fstore {i : Nat} {x : Int} (hd : At m pc (.fstore i) 2) (hi : decide (i < m.2.2.1) = true) (hn : nc2 ls i = true) (k : Go xs d m b (pc + 2) (ls.set i (vT 2 x)) st σ out) : Go xs d m b pc ls (vT 2 x :: st) σ out := by
  intro p l e R s mid args below meth c Q dC dI dA N0 bs ρ0 c0 X hS hF H locs cells slots ρ LS hD hL ho
  refine lv_fstore hS.1 hS.2.1 hd hL.1 (of_decide_eq_true hi) rfl (fun LS' h' => ?_)
  exact k p l e R s mid args below meth c Q dC dI dA N0 bs ρ0 c0 X hS hF H locs cells slots ρ LS' hD (hL.set1 (v := vT 2 x) (of_decide_eq_true hi) hn (okh ho) h') (okt ho)
theorem go_fstore_n {i : Fin 4} {x : Int} (hd : At m pc (.fstore_n i) 1) (hi : decide (i.val < m.2.2.1) = true) (hn : nc2 ls i.val = true) (k : Go xs d m b (pc + 1) (ls.set i.val (vT 2 x)) st σ out) : Go xs d m b pc ls (vT 2 x :: st) σ out := by
  intro p l e R s mid args below meth c Q dC dI dA N0 bs ρ0 c0 X hS hF H locs cells slots ρ LS hD hL ho
  refine lv_fstore_n hS.1 hS.2.1 hd rfl hL.1 (of_decide_eq_true hi) rfl (fun LS' h' => ?_)
  exact k p l e R s mid args below meth c Q dC dI dA N0 bs ρ0 c0 X hS hF H locs cells slots ρ LS' hD (hL.set1 (v := vT 2 x) (of_decide_eq_true hi) hn (okh ho) h') (okt ho)
theorem go_dstore {i : Nat} {x : Int} (hd : At m pc (.dstore i) 2) (hi : decide (i + 1 < m.2.2.1) = true) (hn : nc2 ls i = true) (k : Go xs d m b (pc + 2) ((ls.set i (vT 3 x)).set (i + 1) (vT 9 0)) st σ out) : Go xs d m b pc ls (vT 3 x :: st) σ out := by
  intro p l e R s mid args below meth c Q dC dI dA N0 bs ρ0 c0 X hS hF H locs cells slots ρ LS hD hL ho
  refine lv_dstore hS.1 hS.2.1 hd hL.1 (of_decide_eq_true hi) rfl (fun LS' h' => ?_)
  exact k p l e R s mid args below meth c Q dC dI dA N0 bs ρ0 c0 X hS hF H locs cells slots ρ LS' hD (hL.set2 (v := vT 3 x) (of_decide_eq_true hi) hn (okh ho) h') (okt ho)
theorem go_dstore_n {i : Fin 4} {x : Int} (hd : At m pc (.dstore_n i) 1) (hi : decide (i.val + 1 < m.2.2.1) = true) (hn : nc2 ls i.val = true) (k : Go xs d m b (pc + 1) ((ls.set i.val (vT 3 x)).set (i.val + 1) (vT 9 0)) st σ out) : Go xs d m b pc ls (vT 3 x :: st) σ out := by
  intro p l e R s mid args below meth c Q dC dI dA N0 bs ρ0 c0 X hS hF H locs cells slots ρ LS hD hL ho
  refine lv_dstore_n hS.1 hS.2.1 hd rfl hL.1 (of_decide_eq_true hi) rfl (fun LS' h' => ?_)
  exact k p l e R s mid args below meth c Q dC dI dA N0 bs ρ0 c0 X hS hF H locs cells slots ρ LS' hD (hL.set2 (v := vT 3 x) (of_decide_eq_true hi) hn (okh ho) h') (okt ho)
theorem go_iinc {i : Nat} {n x : Int} (hd : At m pc (.iinc i n) 3) (hl : ls[i]? = some (vI x)) (hr : in32 (x + n)) (hi : decide (i < m.2.2.1) = true) (hn : nc2 ls i = true) (k : Go xs d m b (pc + 3) (ls.set i (vI (x + n))) st σ out) : Go xs d m b pc ls st σ out := by
  intro p l e R s mid args below meth c Q dC dI dA N0 bs ρ0 c0 X hS hF H locs cells slots ρ LS hD hL ho
  have hm : (i, Value.int (Int32.ofInt x)) ∈ lps ρ bs 0 ls := by
    have := lps_in (ρ := ρ) (bs := bs) (i := 0) hl rfl
    rwa [Nat.zero_add] at this
  obtain ⟨kk, hk⟩ := List.getElem?_of_mem hm
  refine lv_iinc (v := Int32.ofInt (x + n)) hS.1 hS.2.1 hd hL.1 hk (by rw [Int32.ofInt_add]) (of_decide_eq_true hi) rfl (fun LS' h' => ?_)
  exact k p l e R s mid args below meth c Q dC dI dA N0 bs ρ0 c0 X hS hF H locs cells slots ρ LS' hD (hL.set1 (v := vI (x + n)) (of_decide_eq_true hi) hn hr h') ho
-- branches
theorem go_icmp_eq {x y : Int} {off : Int} {tgt : Nat} (hd : At m pc (.if_icmp .eq off) 3) (ht : (pc : Int) + off = (tgt : Int)) (kt : x = y → Go xs d m b tgt ls st σ out) (kf : ¬ x = y → Go xs d m b (pc + 3) ls st σ out) : Go xs d m b pc ls (vI y :: vI x :: st) σ out := by
  intro p l e R s mid args below meth c Q dC dI dA N0 bs ρ0 c0 X hS hF H locs cells slots ρ LS hD hL ho
  exact lv_icmp_eq hS.1 hS.2.1 hd ht (fun h => (show _ from (fun h => kt ((of_eq (okh (okt ho)) (okh ho)).mp h)) h p l e R s mid args below meth c Q dC dI dA N0 bs ρ0 c0 X hS hF H locs cells slots ρ LS hD hL (okt (okt ho))) ) (fun h => (show _ from (fun h => kf (by by_cases h8 : x = y; exact absurd ((of_eq (okh (okt ho)) (okh ho)).mpr h8) h; omega)) h p l e R s mid args below meth c Q dC dI dA N0 bs ρ0 c0 X hS hF H locs cells slots ρ LS hD hL (okt (okt ho))) )
theorem go_if_eq {x : Int} {off : Int} {tgt : Nat} (hd : At m pc (.ifCond .eq off) 3) (ht : (pc : Int) + off = (tgt : Int)) (kt : x = 0 → Go xs d m b tgt ls st σ out) (kf : ¬ x = 0 → Go xs d m b (pc + 3) ls st σ out) : Go xs d m b pc ls (vI x :: st) σ out := by
  intro p l e R s mid args below meth c Q dC dI dA N0 bs ρ0 c0 X hS hF H locs cells slots ρ LS hD hL ho
  exact lv_if_eq hS.1 hS.2.1 hd ht (fun h => (show _ from (fun h => kt ((of_eq (okh ho) z32).mp h)) h p l e R s mid args below meth c Q dC dI dA N0 bs ρ0 c0 X hS hF H locs cells slots ρ LS hD hL (okt ho)) ) (fun h => (show _ from (fun h => kf (by by_cases h8 : x = 0; exact absurd ((of_eq (okh ho) z32).mpr h8) h; omega)) h p l e R s mid args below meth c Q dC dI dA N0 bs ρ0 c0 X hS hF H locs cells slots ρ LS hD hL (okt ho)) )
theorem go_icmp_ne {x y : Int} {off : Int} {tgt : Nat} (hd : At m pc (.if_icmp .ne off) 3) (ht : (pc : Int) + off = (tgt : Int)) (kt : ¬ x = y → Go xs d m b tgt ls st σ out) (kf : x = y → Go xs d m b (pc + 3) ls st σ out) : Go xs d m b pc ls (vI y :: vI x :: st) σ out := by
  intro p l e R s mid args below meth c Q dC dI dA N0 bs ρ0 c0 X hS hF H locs cells slots ρ LS hD hL ho
  exact lv_icmp_ne hS.1 hS.2.1 hd ht (fun h => (show _ from (fun h => kt (fun e => h ((of_eq (okh (okt ho)) (okh ho)).mpr e))) h p l e R s mid args below meth c Q dC dI dA N0 bs ρ0 c0 X hS hF H locs cells slots ρ LS hD hL (okt (okt ho))) ) (fun h => (show _ from (fun h => kf ((of_eq (okh (okt ho)) (okh ho)).mp h)) h p l e R s mid args below meth c Q dC dI dA N0 bs ρ0 c0 X hS hF H locs cells slots ρ LS hD hL (okt (okt ho))) )
theorem go_if_ne {x : Int} {off : Int} {tgt : Nat} (hd : At m pc (.ifCond .ne off) 3) (ht : (pc : Int) + off = (tgt : Int)) (kt : ¬ x = 0 → Go xs d m b tgt ls st σ out) (kf : x = 0 → Go xs d m b (pc + 3) ls st σ out) : Go xs d m b pc ls (vI x :: st) σ out := by
  intro p l e R s mid args below meth c Q dC dI dA N0 bs ρ0 c0 X hS hF H locs cells slots ρ LS hD hL ho
  exact lv_if_ne hS.1 hS.2.1 hd ht (fun h => (show _ from (fun h => kt (fun e => h ((of_eq (okh ho) z32).mpr e))) h p l e R s mid args below meth c Q dC dI dA N0 bs ρ0 c0 X hS hF H locs cells slots ρ LS hD hL (okt ho)) ) (fun h => (show _ from (fun h => kf ((of_eq (okh ho) z32).mp h)) h p l e R s mid args below meth c Q dC dI dA N0 bs ρ0 c0 X hS hF H locs cells slots ρ LS hD hL (okt ho)) )
theorem go_icmp_lt {x y : Int} {off : Int} {tgt : Nat} (hd : At m pc (.if_icmp .lt off) 3) (ht : (pc : Int) + off = (tgt : Int)) (kt : x < y → Go xs d m b tgt ls st σ out) (kf : y ≤ x → Go xs d m b (pc + 3) ls st σ out) : Go xs d m b pc ls (vI y :: vI x :: st) σ out := by
  intro p l e R s mid args below meth c Q dC dI dA N0 bs ρ0 c0 X hS hF H locs cells slots ρ LS hD hL ho
  exact lv_icmp_lt hS.1 hS.2.1 hd ht (fun h => (show _ from (fun h => kt ((of_lt (okh (okt ho)) (okh ho)).mp h)) h p l e R s mid args below meth c Q dC dI dA N0 bs ρ0 c0 X hS hF H locs cells slots ρ LS hD hL (okt (okt ho))) ) (fun h => (show _ from (fun h => kf (by by_cases h8 : x < y; exact absurd ((of_lt (okh (okt ho)) (okh ho)).mpr h8) h; omega)) h p l e R s mid args below meth c Q dC dI dA N0 bs ρ0 c0 X hS hF H locs cells slots ρ LS hD hL (okt (okt ho))) )
theorem go_if_lt {x : Int} {off : Int} {tgt : Nat} (hd : At m pc (.ifCond .lt off) 3) (ht : (pc : Int) + off = (tgt : Int)) (kt : x < 0 → Go xs d m b tgt ls st σ out) (kf : 0 ≤ x → Go xs d m b (pc + 3) ls st σ out) : Go xs d m b pc ls (vI x :: st) σ out := by
  intro p l e R s mid args below meth c Q dC dI dA N0 bs ρ0 c0 X hS hF H locs cells slots ρ LS hD hL ho
  exact lv_if_lt hS.1 hS.2.1 hd ht (fun h => (show _ from (fun h => kt ((of_lt (okh ho) z32).mp h)) h p l e R s mid args below meth c Q dC dI dA N0 bs ρ0 c0 X hS hF H locs cells slots ρ LS hD hL (okt ho)) ) (fun h => (show _ from (fun h => kf (by by_cases h8 : x < 0; exact absurd ((of_lt (okh ho) z32).mpr h8) h; omega)) h p l e R s mid args below meth c Q dC dI dA N0 bs ρ0 c0 X hS hF H locs cells slots ρ LS hD hL (okt ho)) )
theorem go_icmp_ge {x y : Int} {off : Int} {tgt : Nat} (hd : At m pc (.if_icmp .ge off) 3) (ht : (pc : Int) + off = (tgt : Int)) (kt : y ≤ x → Go xs d m b tgt ls st σ out) (kf : x < y → Go xs d m b (pc + 3) ls st σ out) : Go xs d m b pc ls (vI y :: vI x :: st) σ out := by
  intro p l e R s mid args below meth c Q dC dI dA N0 bs ρ0 c0 X hS hF H locs cells slots ρ LS hD hL ho
  exact lv_icmp_ge hS.1 hS.2.1 hd ht (fun h => (show _ from (fun h => kt ((of_le (okh ho) (okh (okt ho))).mp h)) h p l e R s mid args below meth c Q dC dI dA N0 bs ρ0 c0 X hS hF H locs cells slots ρ LS hD hL (okt (okt ho))) ) (fun h => (show _ from (fun h => kf (by by_cases h8 : y ≤ x; exact absurd ((of_le (okh ho) (okh (okt ho))).mpr h8) h; omega)) h p l e R s mid args below meth c Q dC dI dA N0 bs ρ0 c0 X hS hF H locs cells slots ρ LS hD hL (okt (okt ho))) )
theorem go_if_ge {x : Int} {off : Int} {tgt : Nat} (hd : At m pc (.ifCond .ge off) 3) (ht : (pc : Int) + off = (tgt : Int)) (kt : 0 ≤ x → Go xs d m b tgt ls st σ out) (kf : x < 0 → Go xs d m b (pc + 3) ls st σ out) : Go xs d m b pc ls (vI x :: st) σ out := by
  intro p l e R s mid args below meth c Q dC dI dA N0 bs ρ0 c0 X hS hF H locs cells slots ρ LS hD hL ho
  exact lv_if_ge hS.1 hS.2.1 hd ht (fun h => (show _ from (fun h => kt ((of_le z32 (okh ho)).mp h)) h p l e R s mid args below meth c Q dC dI dA N0 bs ρ0 c0 X hS hF H locs cells slots ρ LS hD hL (okt ho)) ) (fun h => (show _ from (fun h => kf (by by_cases h8 : 0 ≤ x; exact absurd ((of_le z32 (okh ho)).mpr h8) h; omega)) h p l e R s mid args below meth c Q dC dI dA N0 bs ρ0 c0 X hS hF H locs cells slots ρ LS hD hL (okt ho)) )
theorem go_icmp_gt {x y : Int} {off : Int} {tgt : Nat} (hd : At m pc (.if_icmp .gt off) 3) (ht : (pc : Int) + off = (tgt : Int)) (kt : y < x → Go xs d m b tgt ls st σ out) (kf : x ≤ y → Go xs d m b (pc + 3) ls st σ out) : Go xs d m b pc ls (vI y :: vI x :: st) σ out := by
  intro p l e R s mid args below meth c Q dC dI dA N0 bs ρ0 c0 X hS hF H locs cells slots ρ LS hD hL ho
  exact lv_icmp_gt hS.1 hS.2.1 hd ht (fun h => (show _ from (fun h => kt ((of_lt (okh ho) (okh (okt ho))).mp h)) h p l e R s mid args below meth c Q dC dI dA N0 bs ρ0 c0 X hS hF H locs cells slots ρ LS hD hL (okt (okt ho))) ) (fun h => (show _ from (fun h => kf (by by_cases h8 : y < x; exact absurd ((of_lt (okh ho) (okh (okt ho))).mpr h8) h; omega)) h p l e R s mid args below meth c Q dC dI dA N0 bs ρ0 c0 X hS hF H locs cells slots ρ LS hD hL (okt (okt ho))) )
theorem go_if_gt {x : Int} {off : Int} {tgt : Nat} (hd : At m pc (.ifCond .gt off) 3) (ht : (pc : Int) + off = (tgt : Int)) (kt : 0 < x → Go xs d m b tgt ls st σ out) (kf : x ≤ 0 → Go xs d m b (pc + 3) ls st σ out) : Go xs d m b pc ls (vI x :: st) σ out := by
  intro p l e R s mid args below meth c Q dC dI dA N0 bs ρ0 c0 X hS hF H locs cells slots ρ LS hD hL ho
  exact lv_if_gt hS.1 hS.2.1 hd ht (fun h => (show _ from (fun h => kt ((of_lt z32 (okh ho)).mp h)) h p l e R s mid args below meth c Q dC dI dA N0 bs ρ0 c0 X hS hF H locs cells slots ρ LS hD hL (okt ho)) ) (fun h => (show _ from (fun h => kf (by by_cases h8 : 0 < x; exact absurd ((of_lt z32 (okh ho)).mpr h8) h; omega)) h p l e R s mid args below meth c Q dC dI dA N0 bs ρ0 c0 X hS hF H locs cells slots ρ LS hD hL (okt ho)) )
theorem go_icmp_le {x y : Int} {off : Int} {tgt : Nat} (hd : At m pc (.if_icmp .le off) 3) (ht : (pc : Int) + off = (tgt : Int)) (kt : x ≤ y → Go xs d m b tgt ls st σ out) (kf : y < x → Go xs d m b (pc + 3) ls st σ out) : Go xs d m b pc ls (vI y :: vI x :: st) σ out := by
  intro p l e R s mid args below meth c Q dC dI dA N0 bs ρ0 c0 X hS hF H locs cells slots ρ LS hD hL ho
  exact lv_icmp_le hS.1 hS.2.1 hd ht (fun h => (show _ from (fun h => kt ((of_le (okh (okt ho)) (okh ho)).mp h)) h p l e R s mid args below meth c Q dC dI dA N0 bs ρ0 c0 X hS hF H locs cells slots ρ LS hD hL (okt (okt ho))) ) (fun h => (show _ from (fun h => kf (by by_cases h8 : x ≤ y; exact absurd ((of_le (okh (okt ho)) (okh ho)).mpr h8) h; omega)) h p l e R s mid args below meth c Q dC dI dA N0 bs ρ0 c0 X hS hF H locs cells slots ρ LS hD hL (okt (okt ho))) )
theorem go_if_le {x : Int} {off : Int} {tgt : Nat} (hd : At m pc (.ifCond .le off) 3) (ht : (pc : Int) + off = (tgt : Int)) (kt : x ≤ 0 → Go xs d m b tgt ls st σ out) (kf : 0 < x → Go xs d m b (pc + 3) ls st σ out) : Go xs d m b pc ls (vI x :: st) σ out := by
  intro p l e R s mid args below meth c Q dC dI dA N0 bs ρ0 c0 X hS hF H locs cells slots ρ LS hD hL ho
  exact lv_if_le hS.1 hS.2.1 hd ht (fun h => (show _ from (fun h => kt ((of_le (okh ho) z32).mp h)) h p l e R s mid args below meth c Q dC dI dA N0 bs ρ0 c0 X hS hF H locs cells slots ρ LS hD hL (okt ho)) ) (fun h => (show _ from (fun h => kf (by by_cases h8 : x ≤ 0; exact absurd ((of_le (okh ho) z32).mpr h8) h; omega)) h p l e R s mid args below meth c Q dC dI dA N0 bs ρ0 c0 X hS hF H locs cells slots ρ LS hD hL (okt ho)) )
theorem go_tableIn {x dflt lo hi off : Int} {offs : Array Int} {n tgt : Nat} (hd : At m pc (.tableswitch dflt lo hi offs) n) (h1 : lo ≤ x) (h2 : x ≤ hi) (ho9 : offs[(x - lo).toNat]? = some off) (ht : (pc : Int) + off = (tgt : Int)) (k : Go xs d m b tgt ls st σ out) : Go xs d m b pc ls (vI x :: st) σ out :=
  k.pure fun p l e R s mid args below meth c Q bs ρ X H locs cells slots LS hx hb hL ho => ⟨okt ho, fun kk => by
    have e9 : (Int32.ofInt x).toInt = x := in32_ext (okh ho)
    exact lv_tableIn hx hb hd (by rw [e9]; omega) (by rw [e9]; omega) (by rw [e9]; exact ho9) ht kk⟩
theorem go_tableOut {x dflt lo hi : Int} {offs : Array Int} {n tgt : Nat} (hd : At m pc (.tableswitch dflt lo hi offs) n) (h : x < lo ∨ hi < x) (ht : (pc : Int) + dflt = (tgt : Int)) (k : Go xs d m b tgt ls st σ out) : Go xs d m b pc ls (vI x :: st) σ out :=
  k.pure fun p l e R s mid args below meth c Q bs ρ X H locs cells slots LS hx hb hL ho => ⟨okt ho, fun kk => by
    have e9 : (Int32.ofInt x).toInt = x := in32_ext (okh ho)
    exact lv_tableOut hx hb hd (by rw [e9]; exact h) ht kk⟩
theorem go_lookup {x dflt off : Int} {ps : Array (Int × Int)} {n tgt : Nat} (hd : At m pc (.lookupswitch dflt ps) n) (hp : (ps.toList.zip (ps.toList.drop 1)).all (fun (a, next) => a.1 < next.1) = true) (ho9 : Op.lookupswitch.offset ps.toList dflt x = off) (ht : (pc : Int) + off = (tgt : Int)) (k : Go xs d m b tgt ls st σ out) : Go xs d m b pc ls (vI x :: st) σ out :=
  k.pure fun p l e R s mid args below meth c Q bs ρ X H locs cells slots LS hx hb hL ho => ⟨okt ho, fun kk => by
    have e9 : (Int32.ofInt x).toInt = x := in32_ext (okh ho)
    exact lv_lookup hx hb hd hp (by rw [e9]; exact ho9) ht kk⟩
end GoRules
