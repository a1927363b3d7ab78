/-! The law's documents: what their methods do. -/
section Doc
abbrev Un : Type := Int × Int × Int
/-- a unit's letter, writer, eraser -/
def uv (σ : St) (u : Nat) : Un := (σ.1 u 0, σ.1 u 1, σ.1 u 2)
/-- a document of the law's: itself and its rows -/
def DocT (σ : St) (d U A S : Nat) : Prop := (GamD σ d = (21, 0) ∧ GamD σ U = (3, 210) ∧ GamD σ A = (0, 61) ∧ GamD σ S = (2, 61)) ∧ (σ.2.1 d 1 = some U ∧ σ.2.1 d 3 = some A ∧ σ.2.1 d 4 = some S) ∧ (109 ≤ d ∧ 109 ≤ U ∧ 109 ≤ A ∧ 109 ≤ S) ∧ d < σ.2.2 ∧ U < σ.2.2 ∧ A < σ.2.2 ∧ S < σ.2.2
/-- its units -/
def DocU (σ : St) (d U : Nat) (us : List Nat) : Prop := σ.1 d 0 = (us.length : Int) ∧ us.length ≤ 200 ∧ (∀ i, i < us.length → σ.2.1 U i = us[i]?) ∧ us.Nodup ∧ ∀ u ∈ us, GamD σ u = (22, 0) ∧ 109 ≤ u ∧ u < σ.2.2
/-- its changes -/
def DocL (σ : St) (d A S : Nat) (ch : Int) (au sg : Int → Int) : Prop := σ.1 d 2 = ch ∧ (0 ≤ ch ∧ ch ≤ 60) ∧ ∀ c, 0 ≤ c → c < ch → (σ.1 A c.toNat = au c ∧ σ.1 S c.toNat = sg c) ∧ 0 ≤ sg c ∧ sg c < 65536
def UnW (ch : Int) (v : Un) : Prop := (0 ≤ v.1 ∧ v.1 < 65536) ∧ (-1 ≤ v.2.1 ∧ v.2.1 < ch) ∧ -1 ≤ v.2.2 ∧ v.2.2 < ch
def DocR (σ : St) (d U A S : Nat) (us : List Nat) (vs : List Un) (ch : Int) (au sg : Int → Int) : Prop := DocT σ d U A S ∧ DocU σ d U us ∧ us.map (uv σ) = vs ∧ (∀ v ∈ vs, UnW ch v) ∧ DocL σ d A S ch au sg
variable {σ : St} {d U A S : Nat} {us : List Nat} {vs : List Un} {ch : Int} {au sg : Int → Int}
theorem DocR.len (h : DocR σ d U A S us vs ch au sg) : vs.length = us.length := by rw [← h.2.2.1, List.length_map]
theorem DocR.unit (h : DocR σ d U A S us vs ch au sg) {i : Int} (h0 : 0 ≤ i) (h1 : i < us.length) : ∃ u v, us[i.toNat]? = some u ∧ vs[i.toNat]? = some v ∧ vs.drop i.toNat = v :: vs.drop (i + 1).toNat ∧ us.drop i.toNat = u :: us.drop (i + 1).toNat ∧ σ.2.1 U i.toNat = some u ∧ GamD σ u = (22, 0) ∧ σ.1 u 0 = v.1 ∧ σ.1 u 1 = v.2.1 ∧ σ.1 u 2 = v.2.2 ∧ UnW ch v ∧ u ∈ us ∧ 109 ≤ u ∧ u < σ.2.2 := by
  obtain ⟨hT, ⟨u1, u2, u3, u4, u5⟩, hv, hw, hL⟩ := h
  have hi : i.toNat < us.length := by omega
  have hi2 : i.toNat < vs.length := by rw [← hv, List.length_map]; exact hi
  have e1 : us[i.toNat]? = some us[i.toNat] := List.getElem?_eq_getElem hi
  have e2 : vs[i.toNat]? = some (uv σ us[i.toNat]) := by
    rw [← hv, List.getElem?_map, e1]
    rfl
  have hm : us[i.toNat] ∈ us := List.getElem_mem hi
  have e3 : (i + 1).toNat = i.toNat + 1 := by omega
  refine ⟨us[i.toNat], uv σ us[i.toNat], e1, e2, ?_, ?_, ?_, (u5 _ hm).1, rfl, rfl, rfl, hw _ (List.mem_of_getElem? e2), hm, (u5 _ hm).2.1, (u5 _ hm).2.2⟩
  · rw [e3, List.drop_eq_getElem_cons hi2]
    congr 1
    rw [List.getElem?_eq_getElem hi2] at e2
    exact Option.some.inj e2
  · rw [e3, List.drop_eq_getElem_cons hi]
  · rw [u3 _ hi, e1]
theorem drop_end {α : Type} {l : List α} {i : Int} (h : (l.length : Int) ≤ i) : l.drop i.toNat = [] := List.drop_eq_nil_of_le (by omega)
/-- how many are seen -/
def cntS : List Un → Int
  | [] => 0
  | v :: t => (if v.2.2 < 0 then 1 else 0) + cntS t
/-- how many a change concerns -/
def cntC (c : Int) : List Un → Int
  | [] => 0
  | v :: t => (if v.2.1 = c ∨ v.2.2 = c then 1 else 0) + cntC c t
/-- how many stand ahead of a place -/
def atL : List Un → Int → Int
  | [], _ => 0
  | v :: t, l => if 0 ≤ v.2.2 ∨ 0 < l then 1 + atL t (if v.2.2 < 0 then l - 1 else l) else 0
theorem cntS_le : ∀ vs : List Un, 0 ≤ cntS vs ∧ cntS vs ≤ vs.length
  | [] => ⟨Int.le_refl _, Int.le_refl _⟩
  | v :: t => by
    have := cntS_le t
    rw [cntS, List.length_cons]
    split <;> omega
theorem cntC_le {c : Int} : ∀ vs : List Un, 0 ≤ cntC c vs ∧ cntC c vs ≤ vs.length
  | [] => ⟨Int.le_refl _, Int.le_refl _⟩
  | v :: t => by
    have := cntC_le (c := c) t
    rw [cntC, List.length_cons]
    split <;> omega
theorem atL_le : ∀ (vs : List Un) (l : Int), 0 ≤ atL vs l ∧ atL vs l ≤ vs.length
  | [], l => ⟨Int.le_refl _, Int.le_refl _⟩
  | v :: t, l => by
    have := atL_le t (if v.2.2 < 0 then l - 1 else l)
    rw [atL, List.length_cons]
    split <;> omega
theorem lp_length (h : DocR σ d U A S us vs ch au sg) : ∀ (m : Nat) (b : Nat × Nat) (i k : Int), 0 ≤ i → i + m = us.length → 0 ≤ k → k ≤ i → Go (fun _ => 0) 0 mX11_length b 4 [vA d, vI k, vI i] [] σ (vI (k + cntS (vs.drop i.toNat)), σ) := by
  intro m
  obtain ⟨⟨⟨hgd, hgU, hgA, hgS⟩, ⟨hpU, hpA, hpS⟩, hge, hlt⟩, ⟨hn, hn2, -, -, -⟩, -, -, hch, hch2, hcl⟩ := id h
  induction m with
  | zero =>
    intro b i k h0 hi hk0 hk
    rw [drop_end (l := vs) (by rw [h.len]; omega)]
    refine go_iload_n (at_of tX11_length 0 4 rfl) rfl ?_
    refine go_aload_n (at_of tX11_length 0 5 rfl) rfl ?_
    refine go_getfD fl_X11_24 rfl (by first | exact hgd | (simp (disch := omega) only [GamD_P1, GamD_M1, GamD_R1]; exact hgd)) (at_of tX11_length 0 6 rfl) ?_
    refine go_icmp_ge (tgt := 38) (at_of tX11_length 0 7 rfl) (by decide) (fun h9 => ?_) (fun h9 => ?_)
    rotate_left
    · exfalso; omega
    refine go_iload_n (at_of tX11_length 1 6 rfl) rfl ?_
    exact go_reti (at_of tX11_length 1 7 rfl) (le_i (by rw [cntS]; omega))
  | succ m ih =>
    intro b i k h0 hi hk0 hk
    obtain ⟨u, v, hu1, hv1, hvd, hud, hpu, hgu, hl0, hl1, hl2, hvw, hum, hu9, hult⟩ := h.unit h0 (by omega)
    obtain ⟨⟨hw1, hw2⟩, ⟨hw3, hw4⟩, hw5, hw6⟩ := id hvw
    rw [hvd, cntS]
    have hc := cntS_le (vs.drop (i + 1).toNat)
    rw [List.length_drop, h.len] at hc
    refine go_iload_n (at_of tX11_length 0 4 rfl) rfl ?_
    refine go_aload_n (at_of tX11_length 0 5 rfl) rfl ?_
    refine go_getfD fl_X11_24 rfl (by first | exact hgd | (simp (disch := omega) only [GamD_P1, GamD_M1, GamD_R1]; exact hgd)) (at_of tX11_length 0 6 rfl) ?_
    refine go_icmp_ge (tgt := 38) (at_of tX11_length 0 7 rfl) (by decide) (fun h9 => ?_) (fun h9 => ?_)
    · exfalso; omega
    refine go_iload_n (at_of tX11_length 0 8 rfl) rfl ?_
    refine go_aload_n (at_of tX11_length 0 9 rfl) rfl ?_
    refine go_getrD (q := U) fl_X11_9 rfl (by first | exact hgd | (simp (disch := omega) only [GamD_P1, GamD_M1, GamD_R1]; exact hgd)) hpU (at_of tX11_length 0 10 rfl) ?_
    refine go_iload_n (at_of tX11_length 0 11 rfl) rfl ?_
    refine go_aaldD (by first | exact hgU | (simp (disch := omega) only [GamD_P1, GamD_M1, GamD_R1]; exact hgU)) (Or.inl rfl) (by omega) (by omega) hpu (at_of tX11_length 0 12 rfl) ?_
    refine go_getfD fl_X11_35 rfl (by first | exact hgu | (simp (disch := omega) only [GamD_P1, GamD_M1, GamD_R1]; exact hgu)) (at_of tX11_length 0 13 rfl) ?_
    refine go_if_ge (tgt := 29) (at_of tX11_length 0 14 rfl) (by decide) (fun h22 => ?_) (fun h22 => ?_)
    · first
      | exfalso; omega
      | refine go_iconst (at_of tX11_length 1 1 rfl) (by unfold in32; omega) ?_
        refine go_iadd (at_of tX11_length 1 2 rfl) (by unfold in32; omega) ?_
        refine go_istore_n (at_of tX11_length 1 3 rfl) rfl rfl ?_
        refine go_iinc (at_of tX11_length 1 4 rfl) rfl (by unfold in32; omega) rfl rfl ?_
        refine go_goto (tgt := 4) (at_of tX11_length 1 5 rfl) (by decide) ?_
        exact Go.eqo (le_i (by split <;> omega)) (ih _ (i + 1) _ (by omega) (by omega) (by omega) (by omega))
    · first
      | exfalso; omega
      | refine go_iconst (at_of tX11_length 0 15 rfl) (by unfold in32; omega) ?_
        refine go_goto (tgt := 30) (at_of tX11_length 1 0 rfl) (by decide) ?_
        refine go_iadd (at_of tX11_length 1 2 rfl) (by unfold in32; omega) ?_
        refine go_istore_n (at_of tX11_length 1 3 rfl) rfl rfl ?_
        refine go_iinc (at_of tX11_length 1 4 rfl) rfl (by unfold in32; omega) rfl rfl ?_
        refine go_goto (tgt := 4) (at_of tX11_length 1 5 rfl) (by decide) ?_
        exact Go.eqo (le_i (by split <;> omega)) (ih _ (i + 1) _ (by omega) (by omega) (by omega) (by omega))
theorem con_lenD (h : DocR σ d U A S us vs ch au sg) : Con 0 mX11_length 0 0 [vA d] σ (vI (cntS vs), σ) := by
  refine con_of_go mfX11_length.1 trivial (Nat.le_of_ble_eq_true rfl) rfl (by decide) ?_
  show Go _ _ _ _ 0 [vA _, vT 9 0, vT 9 0] [] _ _
  refine go_iconst (at_of tX11_length 0 0 rfl) (by unfold in32; omega) ?_
  refine go_istore_n (at_of tX11_length 0 1 rfl) rfl rfl ?_
  refine go_iconst (at_of tX11_length 0 2 rfl) (by unfold in32; omega) ?_
  refine go_istore_n (at_of tX11_length 0 3 rfl) rfl rfl ?_
  exact Go.eqo (le_i (by rw [show (0 : Int).toNat = 0 from rfl, List.drop_zero]; omega)) (lp_length h us.length _ 0 0 (by omega) (by omega) (by omega) (by omega))

theorem lp_at (h : DocR σ d U A S us vs ch au sg) {p : Int} : ∀ (m : Nat) (b : Nat × Nat) (i l : Int), 0 ≤ i → i + m = us.length → (0 ≤ l ∧ l < 1000) → Go (fun _ => 0) 0 mX11_at b 4 [vA d, vI p, vI l, vI i] [] σ (vI (i + atL (vs.drop i.toNat) l), σ) := by
  intro m
  obtain ⟨⟨⟨hgd, hgU, hgA, hgS⟩, ⟨hpU, hpA, hpS⟩, hge, hlt⟩, ⟨hn, hn2, -, -, -⟩, -, -, hch, hch2, hcl⟩ := id h
  induction m with
  | zero =>
    intro b i l h0 hi hl
    rw [drop_end (l := vs) (by rw [h.len]; omega)]
    refine go_iload_n (at_of tX11_at 0 4 rfl) rfl ?_
    refine go_aload_n (at_of tX11_at 0 5 rfl) rfl ?_
    refine go_getfD fl_X11_24 rfl (by first | exact hgd | (simp (disch := omega) only [GamD_P1, GamD_M1, GamD_R1]; exact hgd)) (at_of tX11_at 0 6 rfl) ?_
    refine go_icmp_ge (tgt := 54) (at_of tX11_at 0 7 rfl) (by decide) (fun h9 => ?_) (fun h9 => ?_)
    rotate_left
    · exfalso; omega
    refine go_iload_n (at_of tX11_at 1 14 rfl) rfl ?_
    exact go_reti (at_of tX11_at 1 15 rfl) (le_i (by rw [atL]; omega))
  | succ m ih =>
    intro b i l h0 hi hl
    obtain ⟨u, v, hu1, hv1, hvd, hud, hpu, hgu, hl0, hl1, hl2, hvw, hum, hu9, hult⟩ := h.unit h0 (by omega)
    obtain ⟨⟨hw1, hw2⟩, ⟨hw3, hw4⟩, hw5, hw6⟩ := id hvw
    rw [hvd, atL]
    refine go_iload_n (at_of tX11_at 0 4 rfl) rfl ?_
    refine go_aload_n (at_of tX11_at 0 5 rfl) rfl ?_
    refine go_getfD fl_X11_24 rfl (by first | exact hgd | (simp (disch := omega) only [GamD_P1, GamD_M1, GamD_R1]; exact hgd)) (at_of tX11_at 0 6 rfl) ?_
    refine go_icmp_ge (tgt := 54) (at_of tX11_at 0 7 rfl) (by decide) (fun h9 => ?_) (fun h9 => ?_)
    · exfalso; omega
    refine go_aload_n (at_of tX11_at 0 8 rfl) rfl ?_
    refine go_getrD (q := U) fl_X11_9 rfl (by first | exact hgd | (simp (disch := omega) only [GamD_P1, GamD_M1, GamD_R1]; exact hgd)) hpU (at_of tX11_at 0 9 rfl) ?_
    refine go_iload_n (at_of tX11_at 0 10 rfl) rfl ?_
    refine go_aaldD (by first | exact hgU | (simp (disch := omega) only [GamD_P1, GamD_M1, GamD_R1]; exact hgU)) (Or.inl rfl) (by omega) (by omega) hpu (at_of tX11_at 0 11 rfl) ?_
    refine go_getfD fl_X11_35 rfl (by first | exact hgu | (simp (disch := omega) only [GamD_P1, GamD_M1, GamD_R1]; exact hgu)) (at_of tX11_at 0 12 rfl) ?_
    refine go_if_ge (tgt := 28) (at_of tX11_at 0 13 rfl) (by decide) (fun h21 => ?_) (fun h21 => ?_)
    · first
      | exfalso; omega
      | refine go_iload_n (at_of tX11_at 1 0 rfl) rfl ?_
        refine go_aload_n (at_of tX11_at 1 1 rfl) rfl ?_
        refine go_getrD (q := U) fl_X11_9 rfl (by first | exact hgd | (simp (disch := omega) only [GamD_P1, GamD_M1, GamD_R1]; exact hgd)) hpU (at_of tX11_at 1 2 rfl) ?_
        refine go_iload_n (at_of tX11_at 1 3 rfl) rfl ?_
        refine go_aaldD (by first | exact hgU | (simp (disch := omega) only [GamD_P1, GamD_M1, GamD_R1]; exact hgU)) (Or.inl rfl) (by omega) (by omega) hpu (at_of tX11_at 1 4 rfl) ?_
        refine go_getfD fl_X11_35 rfl (by first | exact hgu | (simp (disch := omega) only [GamD_P1, GamD_M1, GamD_R1]; exact hgu)) (at_of tX11_at 1 5 rfl) ?_
        refine go_if_ge (tgt := 45) (at_of tX11_at 1 6 rfl) (by decide) (fun h38 => ?_) (fun h38 => ?_)
        · first
          | exfalso; omega
          | refine go_iconst (at_of tX11_at 1 9 rfl) (by unfold in32; omega) ?_
            refine go_isub (at_of tX11_at 1 10 rfl) (by unfold in32; omega) ?_
            refine go_istore_n (at_of tX11_at 1 11 rfl) rfl rfl ?_
            refine go_iinc (at_of tX11_at 1 12 rfl) rfl (by unfold in32; omega) rfl rfl ?_
            refine go_goto (tgt := 4) (at_of tX11_at 1 13 rfl) (by decide) ?_
            exact Go.eqo (le_i (by first | (rw [if_pos (by omega), if_pos (by omega)]; omega) | (rw [if_pos (by omega), if_neg (by omega), Int.sub_zero]; omega))) (ih _ (i + 1) _ (by omega) (by omega) (by omega))
        · first
          | exfalso; omega
          | refine go_iconst (at_of tX11_at 1 7 rfl) (by unfold in32; omega) ?_
            refine go_goto (tgt := 46) (at_of tX11_at 1 8 rfl) (by decide) ?_
            refine go_isub (at_of tX11_at 1 10 rfl) (by unfold in32; omega) ?_
            refine go_istore_n (at_of tX11_at 1 11 rfl) rfl rfl ?_
            refine go_iinc (at_of tX11_at 1 12 rfl) rfl (by unfold in32; omega) rfl rfl ?_
            refine go_goto (tgt := 4) (at_of tX11_at 1 13 rfl) (by decide) ?_
            exact Go.eqo (le_i (by first | (rw [if_pos (by omega), if_pos (by omega)]; omega) | (rw [if_pos (by omega), if_neg (by omega), Int.sub_zero]; omega))) (ih _ (i + 1) _ (by omega) (by omega) (by omega))
    · first
      | exfalso; omega
      | refine go_iload_n (at_of tX11_at 0 14 rfl) rfl ?_
        refine go_if_le (tgt := 54) (at_of tX11_at 0 15 rfl) (by decide) (fun h25 => ?_) (fun h25 => ?_)
        · first
          | exfalso; omega
          | refine go_iload_n (at_of tX11_at 1 14 rfl) rfl ?_
            exact go_reti (at_of tX11_at 1 15 rfl) (le_i (by rw [if_neg (by omega)]; omega))
        · first
          | exfalso; omega
          | refine go_iload_n (at_of tX11_at 1 0 rfl) rfl ?_
            refine go_aload_n (at_of tX11_at 1 1 rfl) rfl ?_
            refine go_getrD (q := U) fl_X11_9 rfl (by first | exact hgd | (simp (disch := omega) only [GamD_P1, GamD_M1, GamD_R1]; exact hgd)) hpU (at_of tX11_at 1 2 rfl) ?_
            refine go_iload_n (at_of tX11_at 1 3 rfl) rfl ?_
            refine go_aaldD (by first | exact hgU | (simp (disch := omega) only [GamD_P1, GamD_M1, GamD_R1]; exact hgU)) (Or.inl rfl) (by omega) (by omega) hpu (at_of tX11_at 1 4 rfl) ?_
            refine go_getfD fl_X11_35 rfl (by first | exact hgu | (simp (disch := omega) only [GamD_P1, GamD_M1, GamD_R1]; exact hgu)) (at_of tX11_at 1 5 rfl) ?_
            refine go_if_ge (tgt := 45) (at_of tX11_at 1 6 rfl) (by decide) (fun h38 => ?_) (fun h38 => ?_)
            · first
              | exfalso; omega
              | refine go_iconst (at_of tX11_at 1 9 rfl) (by unfold in32; omega) ?_
                refine go_isub (at_of tX11_at 1 10 rfl) (by unfold in32; omega) ?_
                refine go_istore_n (at_of tX11_at 1 11 rfl) rfl rfl ?_
                refine go_iinc (at_of tX11_at 1 12 rfl) rfl (by unfold in32; omega) rfl rfl ?_
                refine go_goto (tgt := 4) (at_of tX11_at 1 13 rfl) (by decide) ?_
                exact Go.eqo (le_i (by first | (rw [if_pos (by omega), if_pos (by omega)]; omega) | (rw [if_pos (by omega), if_neg (by omega), Int.sub_zero]; omega))) (ih _ (i + 1) _ (by omega) (by omega) (by omega))
            · first
              | exfalso; omega
              | refine go_iconst (at_of tX11_at 1 7 rfl) (by unfold in32; omega) ?_
                refine go_goto (tgt := 46) (at_of tX11_at 1 8 rfl) (by decide) ?_
                refine go_isub (at_of tX11_at 1 10 rfl) (by unfold in32; omega) ?_
                refine go_istore_n (at_of tX11_at 1 11 rfl) rfl rfl ?_
                refine go_iinc (at_of tX11_at 1 12 rfl) rfl (by unfold in32; omega) rfl rfl ?_
                refine go_goto (tgt := 4) (at_of tX11_at 1 13 rfl) (by decide) ?_
                exact Go.eqo (le_i (by first | (rw [if_pos (by omega), if_pos (by omega)]; omega) | (rw [if_pos (by omega), if_neg (by omega), Int.sub_zero]; omega))) (ih _ (i + 1) _ (by omega) (by omega) (by omega))
theorem con_atD (h : DocR σ d U A S us vs ch au sg) {p : Int} (hp : 0 ≤ p ∧ p < 1000) : Con 0 mX11_at 0 0 [vA d, vI p] σ (vI (atL vs p), σ) := by
  refine con_of_go mfX11_at.1 trivial (Nat.le_of_ble_eq_true rfl) rfl (by decide) ?_
  show Go _ _ _ _ 0 [vA _, vI _, vT 9 0, vT 9 0] [] _ _
  refine go_iload_n (at_of tX11_at 0 0 rfl) rfl ?_
  refine go_istore_n (at_of tX11_at 0 1 rfl) rfl rfl ?_
  refine go_iconst (at_of tX11_at 0 2 rfl) (by unfold in32; omega) ?_
  refine go_istore_n (at_of tX11_at 0 3 rfl) rfl rfl ?_
  exact Go.eqo (le_i (by rw [show (0 : Int).toNat = 0 from rfl, List.drop_zero]; omega)) (lp_at h us.length _ 0 _ (by omega) (by omega) hp)

theorem lp_units (h : DocR σ d U A S us vs ch au sg) {c : Int} : ∀ (m : Nat) (b : Nat × Nat) (i k : Int), 0 ≤ i → i + m = us.length → 0 ≤ k → k ≤ i → Go (fun _ => 0) 0 mX11_units b 4 [vA d, vI c, vI k, vI i] [] σ (vI (k + cntC c (vs.drop i.toNat)), σ) := by
  intro m
  obtain ⟨⟨⟨hgd, hgU, hgA, hgS⟩, ⟨hpU, hpA, hpS⟩, hge, hlt⟩, ⟨hn, hn2, -, -, -⟩, -, -, hch, hch2, hcl⟩ := id h
  induction m with
  | zero =>
    intro b i k h0 hi hk0 hk
    rw [drop_end (l := vs) (by rw [h.len]; omega)]
    refine go_iload_n (at_of tX11_units 0 4 rfl) rfl ?_
    refine go_aload_n (at_of tX11_units 0 5 rfl) rfl ?_
    refine go_getfD fl_X11_24 rfl (by first | exact hgd | (simp (disch := omega) only [GamD_P1, GamD_M1, GamD_R1]; exact hgd)) (at_of tX11_units 0 6 rfl) ?_
    refine go_icmp_ge (tgt := 52) (at_of tX11_units 0 7 rfl) (by decide) (fun h9 => ?_) (fun h9 => ?_)
    rotate_left
    · exfalso; omega
    refine go_iload_n (at_of tX11_units 1 14 rfl) rfl ?_
    exact go_reti (at_of tX11_units 1 15 rfl) (le_i (by rw [cntC]; omega))
  | succ m ih =>
    intro b i k h0 hi hk0 hk
    obtain ⟨u, v, hu1, hv1, hvd, hud, hpu, hgu, hl0, hl1, hl2, hvw, hum, hu9, hult⟩ := h.unit h0 (by omega)
    obtain ⟨⟨hw1, hw2⟩, ⟨hw3, hw4⟩, hw5, hw6⟩ := id hvw
    rw [hvd, cntC]
    have hc := cntC_le (c := c) (vs.drop (i + 1).toNat)
    rw [List.length_drop, h.len] at hc
    refine go_iload_n (at_of tX11_units 0 4 rfl) rfl ?_
    refine go_aload_n (at_of tX11_units 0 5 rfl) rfl ?_
    refine go_getfD fl_X11_24 rfl (by first | exact hgd | (simp (disch := omega) only [GamD_P1, GamD_M1, GamD_R1]; exact hgd)) (at_of tX11_units 0 6 rfl) ?_
    refine go_icmp_ge (tgt := 52) (at_of tX11_units 0 7 rfl) (by decide) (fun h9 => ?_) (fun h9 => ?_)
    · exfalso; omega
    refine go_iload_n (at_of tX11_units 0 8 rfl) rfl ?_
    refine go_aload_n (at_of tX11_units 0 9 rfl) rfl ?_
    refine go_getrD (q := U) fl_X11_9 rfl (by first | exact hgd | (simp (disch := omega) only [GamD_P1, GamD_M1, GamD_R1]; exact hgd)) hpU (at_of tX11_units 0 10 rfl) ?_
    refine go_iload_n (at_of tX11_units 0 11 rfl) rfl ?_
    refine go_aaldD (by first | exact hgU | (simp (disch := omega) only [GamD_P1, GamD_M1, GamD_R1]; exact hgU)) (Or.inl rfl) (by omega) (by omega) hpu (at_of tX11_units 0 12 rfl) ?_
    refine go_getfD fl_X11_42 rfl (by first | exact hgu | (simp (disch := omega) only [GamD_P1, GamD_M1, GamD_R1]; exact hgu)) (at_of tX11_units 0 13 rfl) ?_
    refine go_iload_n (at_of tX11_units 0 14 rfl) rfl ?_
    refine go_icmp_eq (tgt := 39) (at_of tX11_units 0 15 rfl) (by decide) (fun h23 => ?_) (fun h23 => ?_)
    · first
      | exfalso; omega
      | refine go_iconst (at_of tX11_units 1 7 rfl) (by unfold in32; omega) ?_
        refine go_goto (tgt := 44) (at_of tX11_units 1 8 rfl) (by decide) ?_
        refine go_iadd (at_of tX11_units 1 10 rfl) (by unfold in32; omega) ?_
        refine go_istore_n (at_of tX11_units 1 11 rfl) rfl rfl ?_
        refine go_iinc (at_of tX11_units 1 12 rfl) rfl (by unfold in32; omega) rfl rfl ?_
        refine go_goto (tgt := 4) (at_of tX11_units 1 13 rfl) (by decide) ?_
        exact Go.eqo (le_i (by split <;> omega)) (ih _ (i + 1) _ (by omega) (by omega) (by omega) (by omega))
    · first
      | exfalso; omega
      | refine go_aload_n (at_of tX11_units 1 0 rfl) rfl ?_
        refine go_getrD (q := U) fl_X11_9 rfl (by first | exact hgd | (simp (disch := omega) only [GamD_P1, GamD_M1, GamD_R1]; exact hgd)) hpU (at_of tX11_units 1 1 rfl) ?_
        refine go_iload_n (at_of tX11_units 1 2 rfl) rfl ?_
        refine go_aaldD (by first | exact hgU | (simp (disch := omega) only [GamD_P1, GamD_M1, GamD_R1]; exact hgU)) (Or.inl rfl) (by omega) (by omega) hpu (at_of tX11_units 1 3 rfl) ?_
        refine go_getfD fl_X11_35 rfl (by first | exact hgu | (simp (disch := omega) only [GamD_P1, GamD_M1, GamD_R1]; exact hgu)) (at_of tX11_units 1 4 rfl) ?_
        refine go_iload_n (at_of tX11_units 1 5 rfl) rfl ?_
        refine go_icmp_ne (tgt := 43) (at_of tX11_units 1 6 rfl) (by decide) (fun h36 => ?_) (fun h36 => ?_)
        · first
          | exfalso; omega
          | refine go_iconst (at_of tX11_units 1 9 rfl) (by unfold in32; omega) ?_
            refine go_iadd (at_of tX11_units 1 10 rfl) (by unfold in32; omega) ?_
            refine go_istore_n (at_of tX11_units 1 11 rfl) rfl rfl ?_
            refine go_iinc (at_of tX11_units 1 12 rfl) rfl (by unfold in32; omega) rfl rfl ?_
            refine go_goto (tgt := 4) (at_of tX11_units 1 13 rfl) (by decide) ?_
            exact Go.eqo (le_i (by split <;> omega)) (ih _ (i + 1) _ (by omega) (by omega) (by omega) (by omega))
        · first
          | exfalso; omega
          | refine go_iconst (at_of tX11_units 1 7 rfl) (by unfold in32; omega) ?_
            refine go_goto (tgt := 44) (at_of tX11_units 1 8 rfl) (by decide) ?_
            refine go_iadd (at_of tX11_units 1 10 rfl) (by unfold in32; omega) ?_
            refine go_istore_n (at_of tX11_units 1 11 rfl) rfl rfl ?_
            refine go_iinc (at_of tX11_units 1 12 rfl) rfl (by unfold in32; omega) rfl rfl ?_
            refine go_goto (tgt := 4) (at_of tX11_units 1 13 rfl) (by decide) ?_
            exact Go.eqo (le_i (by split <;> omega)) (ih _ (i + 1) _ (by omega) (by omega) (by omega) (by omega))
theorem con_unitsD (h : DocR σ d U A S us vs ch au sg) {c : Int} : Con 0 mX11_units 0 0 [vA d, vI c] σ (vI (cntC c vs), σ) := by
  refine con_of_go mfX11_units.1 trivial (Nat.le_of_ble_eq_true rfl) rfl (by decide) ?_
  show Go _ _ _ _ 0 [vA _, vI _, vT 9 0, vT 9 0] [] _ _
  refine go_iconst (at_of tX11_units 0 0 rfl) (by unfold in32; omega) ?_
  refine go_istore_n (at_of tX11_units 0 1 rfl) rfl rfl ?_
  refine go_iconst (at_of tX11_units 0 2 rfl) (by unfold in32; omega) ?_
  refine go_istore_n (at_of tX11_units 0 3 rfl) rfl rfl ?_
  exact Go.eqo (le_i (by rw [show (0 : Int).toNat = 0 from rfl, List.drop_zero]; omega)) (lp_units h us.length _ 0 0 (by omega) (by omega) (by omega) (by omega))

def chS (σ : St) (d A S : Nat) (ch a : Int) : St := P1 (M1 (M1 σ A ch a) S ch 119) d 2 (ch + 1)
theorem DocR.ne (h : DocR σ d U A S us vs ch au sg) : (d ≠ U ∧ d ≠ A ∧ d ≠ S ∧ U ≠ A ∧ U ≠ S ∧ A ≠ S) ∧ ∀ u ∈ us, u ≠ d ∧ u ≠ U ∧ u ≠ A ∧ u ≠ S := by
  obtain ⟨⟨⟨g1, g2, g3, g4⟩, -⟩, ⟨-, -, -, -, u5⟩, -⟩ := h
  have key : ∀ {x y : Nat} {p q : Nat × Nat}, GamD σ x = p → GamD σ y = q → p ≠ q → x ≠ y := fun hx hy hn e => hn (by rw [← hx, ← hy, e])
  exact ⟨⟨key g1 g2 (by decide), key g1 g3 (by decide), key g1 g4 (by decide), key g2 g3 (by decide), key g2 g4 (by decide), key g3 g4 (by decide)⟩, fun u hu => ⟨key (u5 u hu).1 g1 (by decide), key (u5 u hu).1 g2 (by decide), key (u5 u hu).1 g3 (by decide), key (u5 u hu).1 g4 (by decide)⟩⟩
theorem con_changeD (h : DocR σ d U A S us vs ch au sg) {a : Int} (hc : ch < 60) : Con 0 mX11_change 0 0 [vA d, vI a] σ (vI ch, chS σ d A S ch a) := by
  obtain ⟨⟨⟨hgd, hgU, hgA, hgS⟩, ⟨hpU, hpA, hpS⟩, hge, hlt⟩, ⟨hn, hn2, -, -, -⟩, -, -, hch, hch2, hcl⟩ := id h
  obtain ⟨⟨n1, n2, n3, n4, n5, n6⟩, -⟩ := h.ne
  have e1 : (M1 σ A ch a).1 d 2 = ch := by rw [M1_ne n2, hch]
  have e2 : (M1 (M1 σ A ch a) S ch 119).1 d 2 = ch := by rw [M1_ne n3, e1]
  have e3 : (chS σ d A S ch a).1 d 2 = ch + 1 := P1_eq
  refine con_of_go mfX11_change.1 trivial (Nat.le_of_ble_eq_true rfl) rfl (by decide) ?_
  show Go _ _ _ _ 0 [vA _, vI _] [] _ _
  refine go_aload_n (at_of tX11_change 0 0 rfl) rfl ?_
  refine go_getrD (q := A) fl_X11_15 rfl (by first | exact hgd | (simp (disch := omega) only [GamD_P1, GamD_M1, GamD_R1]; exact hgd)) hpA (at_of tX11_change 0 1 rfl) ?_
  refine go_aload_n (at_of tX11_change 0 2 rfl) rfl ?_
  refine go_getfD fl_X11_32 rfl (by first | exact hgd | (simp (disch := omega) only [GamD_P1, GamD_M1, GamD_R1]; exact hgd)) (at_of tX11_change 0 3 rfl) ?_
  rw [hch]
  refine go_iload_n (at_of tX11_change 0 4 rfl) rfl ?_
  refine go_iast1D (by first | exact hgA | (simp (disch := omega) only [GamD_P1, GamD_M1, GamD_R1]; exact hgA)) (by omega) (by omega) (at_of tX11_change 0 5 rfl) ?_
  refine go_aload_n (at_of tX11_change 0 6 rfl) rfl ?_
  refine go_getrD (q := S) fl_X11_19 rfl (by first | exact hgd | (simp (disch := omega) only [GamD_P1, GamD_M1, GamD_R1]; exact hgd)) hpS (at_of tX11_change 0 7 rfl) ?_
  refine go_aload_n (at_of tX11_change 0 8 rfl) rfl ?_
  refine go_getfD fl_X11_32 rfl (by first | exact hgd | (simp (disch := omega) only [GamD_P1, GamD_M1, GamD_R1]; exact hgd)) (at_of tX11_change 0 9 rfl) ?_
  rw [e1]
  refine go_bipush (at_of tX11_change 0 10 rfl) (by decide) ?_
  refine go_cast1D (by first | exact hgS | (simp (disch := omega) only [GamD_P1, GamD_M1, GamD_R1]; exact hgS)) (by omega) (by omega) (by omega) (at_of tX11_change 0 11 rfl) ?_
  refine go_aload_n (at_of tX11_change 0 12 rfl) rfl ?_
  refine go_dup (at_of tX11_change 0 13 rfl) rfl ?_
  refine go_getfD fl_X11_32 rfl (by first | exact hgd | (simp (disch := omega) only [GamD_P1, GamD_M1, GamD_R1]; exact hgd)) (at_of tX11_change 0 14 rfl) ?_
  rw [e2]
  refine go_iconst (at_of tX11_change 0 15 rfl) (by unfold in32; omega) ?_
  refine go_iadd (at_of tX11_change 1 0 rfl) (by unfold in32; omega) ?_
  refine go_put1D fp_X11_32 rfl (Or.inl rfl) (by first | exact hgd | (simp (disch := omega) only [GamD_P1, GamD_M1, GamD_R1]; exact hgd)) (Or.inl (Or.inl rfl)) (at_of tX11_change 1 1 rfl) ?_
  refine go_aload_n (at_of tX11_change 1 2 rfl) rfl ?_
  refine go_getfD fl_X11_32 rfl (by first | exact hgd | (simp (disch := omega) only [GamD_P1, GamD_M1, GamD_R1]; exact hgd)) (at_of tX11_change 1 3 rfl) ?_
  show Go _ _ _ _ _ _ [vI ((chS σ d A S ch a).1 d 2)] (chS σ d A S ch a) _
  rw [e3]
  refine go_iconst (at_of tX11_change 1 4 rfl) (by unfold in32; omega) ?_
  refine go_isub (at_of tX11_change 1 5 rfl) (by unfold in32; omega) ?_
  exact go_reti (at_of tX11_change 1 6 rfl) (le_i (by omega))
end Doc
