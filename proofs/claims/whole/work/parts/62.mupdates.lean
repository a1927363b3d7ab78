/-! The reference: results brought up to date, records merged. -/
section Mod21
variable {σ : St} {R : RowD} {L : LogD} {Q : Int → Int}
def FrV (σ σ' : St) : Prop := σ'.2 = σ.2 ∧ ∀ a j : Nat, ¬ (a = 123 ∨ a = 124 ∨ (126 ≤ a ∧ a ≤ 132) ∨ (a = 109 ∧ (j = 28 ∨ j = 32 ∨ j = 33)) ∨ (a = 110 ∧ 3205 ≤ j ∧ j < 3225)) → σ'.1 a j = σ.1 a j
theorem FrV.refl : FrV σ σ := ⟨rfl, fun _ _ _ => rfl⟩
theorem FrV.trans {σ' σ'' : St} (h : FrV σ σ') (h' : FrV σ' σ'') : FrV σ σ'' := ⟨h'.1.trans h.1, fun a j q => (h'.2 a j q).trans (h.2 a j q)⟩
theorem FrV.str {σ' : St} (h : FrV σ σ') (hS : Str σ.2.1) : Str σ'.2.1 := by rw [h.1]; exact hS
theorem FrY.v {σ' : St} (h : FrY σ σ') : FrV σ σ' := ⟨h.1, fun a j q => h.2 a j (by omega)⟩
theorem FrV.rep {σ' : St} {Q' : Int → Int} (h : FrV σ σ') (hN : RepN (cN σ) (R, L, Q)) (hQ : ∀ f, 0 ≤ f → f < 20 → cN σ' (3205 + f) = Q' f) : RepN (cN σ') (R, L, Q') := by
  obtain ⟨a, b, c, d⟩ := hN
  have e : ∀ x, 0 ≤ x → x < 3205 → cN σ' x = cN σ x := fun x x0 x1 => h.2 110 _ (by omega)
  exact ⟨a.congr2 d.2.1 (fun x q => e x (by omega) (by omega)), b.congr d.2.2.2 (fun x x0 x1 => e x (by omega) (by omega)), hQ, d⟩
/-- what fields and styles have to be for results to be found -/
def UpW (σ : St) (R : RowD) (L : LogD) : Prop := (LastE R ∧ SgW R ∧ MkB R L ∧ RowW R) ∧ LtW R ∧ EndW R ∧ fcN R ≤ 20 ∧ StyM σ ∧ StyW R (σ.1 109 7) ∧ (5 ≤ σ.1 109 19 ∧ σ.1 109 19 ≤ 60) ∧ (2 ≤ σ.1 109 20 ∧ σ.1 109 20 ≤ 40) ∧
  (0 ≤ σ.1 109 13 ∧ σ.1 109 13 ≤ 20) ∧ (∀ i, 0 ≤ i → i ≤ R.2.1 → R.1 1 i ≠ -1 → R.1 1 i < σ.1 109 13) ∧ (∀ f, 0 ≤ f → f < σ.1 109 13 → fkB (σ.1 118 f.toNat) (σ.1 119 f.toNat)) ∧ ∀ j : Nat, j < 15 → 0 ≤ σ.1 121 j ∧ σ.1 121 j ≤ 9999
theorem UpW.wf {Q : Int → Int} (h : UpW σ R L) : WfM (R, L, Q) := h.1
theorem UpW.fr {σ' : St} (h : UpW σ R L) (hF : FrV σ σ') : UpW σ' R L := by
  obtain ⟨a, b, c, d, e, f, g1, g2, i, j, k, l⟩ := h
  have c7 : σ'.1 109 7 = σ.1 109 7 := hF.2 _ _ (by omega)
  have c13 : σ'.1 109 13 = σ.1 109 13 := hF.2 _ _ (by omega)
  have c19 : σ'.1 109 19 = σ.1 109 19 := hF.2 _ _ (by omega)
  have c20 : σ'.1 109 20 = σ.1 109 20 := hF.2 _ _ (by omega)
  refine ⟨a, b, c, d, ⟨by rw [c7]; exact e.1, fun s s0 s1 => ?_⟩, by rw [c7]; exact f, by rw [c19]; exact g1, by rw [c20]; exact g2, by rw [c13]; exact i, by rw [c13]; exact j, fun f f0 f1 => ?_, fun x hx => ?_⟩
  · rw [hF.2 113 _ (by omega)]; exact e.2 s s0 (by rw [c7] at s1; exact s1)
  · rw [hF.2 118 _ (by omega), hF.2 119 _ (by omega)]; exact k f f0 (by rw [c13] at f1; exact f1)
  · rw [hF.2 121 _ (by omega)]; exact l x hx
theorem FrV.kv {σ' : St} (h : FrV σ σ') : KVm σ' = KVm σ := by
  unfold KVm
  rw [show clF σ' 113 8 = clF σ 113 8 by funext x; unfold clF cl; rw [h.2 _ _ (by omega)], show clF σ' 115 8 = clF σ 115 8 by funext x; unfold clF cl; rw [h.2 _ _ (by omega)]]
theorem FrV.vl {σ' : St} (h : FrV σ σ') (rc : Int) : vlM σ' R rc = vlM σ R rc := by
  funext Q f
  unfold vlM
  rw [h.kv, h.2 109 19 (by omega), h.2 109 20 (by omega), h.2 118 _ (by omega), h.2 119 _ (by omega), h.2 121 _ (by omega)]
theorem FrV.hd {σ' : St} (h : FrV σ σ') : hdM σ' = hdM σ := by
  funext f
  exact h.2 120 _ (by omega)
theorem UpW.b (h : UpW σ R L) (hQ : QW Q) : sgS R Q (R.2.1 + 1) ≤ 500 := sgS_bound hQ h.1.1 h.1.2.1 h.2.2.2.1
theorem nwQ_M {rc : Int} (hU : UpW σ R L) (hQ : QW Q) (hr : 0 ≤ rc ∧ rc < 5) : QW (nwQ R (hdM σ) (vlM σ R rc Q) Q) := by
  intro c c0 c1
  unfold nwQ
  split
  · rename_i h
    obtain ⟨j, j0, j1, j2⟩ := (thB_iff hU.1.1.1).mp h.2
    have hB := hU.b hQ
    obtain ⟨a, b, c_, d, e, f, g1, g2, i, jj, k, l⟩ := hU
    have h3 := jj j j0 (by omega) (by omega)
    have h4 := k c c0 (by omega)
    unfold vlM
    by_cases h5 : 0 ≤ σ.1 119 c.toNat ∧ σ.1 119 c.toNat < 3
    · exact valF_le a.1 hB c_ g1.1 g2 (l _ (by omega))
    · unfold fkB at h4
      have h6 : σ.1 118 c.toNat ≠ 114 := by omega
      have e : valF R Q (KVm σ) (σ.1 109 19) (σ.1 109 20) (σ.1 118 c.toNat) (σ.1 119 c.toNat) (σ.1 121 (3 * rc + σ.1 119 c.toNat).toNat) = valF R Q (KVm σ) (σ.1 109 19) (σ.1 109 20) (σ.1 118 c.toNat) (σ.1 119 c.toNat) 0 := by
        unfold valF; rw [if_neg h6, if_neg h6]
      rw [e]
      exact valF_le a.1 hB c_ g1.1 g2 ⟨by omega, by omega⟩
  · exact hQ c c0 c1
theorem m_updates (hS : Str σ.2.1) (hN : RepN (cN σ) (R, L, Q)) (hU : UpW σ R L) (hQW : QW Q) (hc : 0 ≤ σ.1 109 18 ∧ σ.1 109 18 < 5) : ∃ σ', Con 7 mX10_updates 0 0 [vA 109] σ (vI (bI (chB R (hdM σ) (vlM σ R (σ.1 109 18) Q) Q = true)), σ') ∧ FrV σ σ' ∧ RepN (cN σ') (R, L, nwQ R (hdM σ) (vlM σ R (σ.1 109 18) Q) Q) := by
  obtain ⟨F, hFd⟩ : ∃ F, F = σ.1 109 13 := ⟨_, rfl⟩
  have hF20 := hU.2.2.2.2.2.2.2.2.1
  have hFu := hU.2.2.2.2.2.2.2.2.2.1
  obtain ⟨σ1, y1, y2, y3⟩ := m_lays hS hN hU.wf hQW hU.2.1 (hU.b hQW) hU.2.2.2.2.1 hU.2.2.2.2.2.1 hU.2.2.2.2.2.2.1 hU.2.2.2.2.2.2.2.1
  obtain ⟨nw, hnw⟩ : ∃ nw, nw = nwQ R (hdM σ) (vlM σ R (σ.1 109 18) Q) Q := ⟨_, rfl⟩
  rw [← hnw]
  rw [← hFd] at hF20 hFu
  have hch : (∃ g, 0 ≤ g ∧ g < F ∧ nw g ≠ Q g) ↔ chB R (hdM σ) (vlM σ R (σ.1 109 18) Q) Q = true := by
    rw [chB_iff hU.1.1.1]
    constructor
    · rintro ⟨g, g0, g1, g2⟩
      have g3 : hdM σ g = 0 ∧ thB R g = true := Decidable.byContradiction fun q => g2 (by rw [hnw]; exact if_neg q)
      obtain ⟨j, j0, j1, j2⟩ := (thB_iff hU.1.1.1).mp g3.2
      refine ⟨j, j0, j1, by omega, by rw [j2]; exact g3.1, ?_⟩
      rw [j2]
      intro q
      exact g2 (by rw [hnw]; unfold nwQ; rw [if_pos g3]; exact q)
    · rintro ⟨j, j0, j1, j2, j3, j4⟩
      have s1 := (hU.1.2.1 j j0 (by omega)).resolve_left j2
      refine ⟨R.1 1 j, s1.1, hFu j j0 (by omega) j2, ?_⟩
      rw [hnw]
      unfold nwQ
      rw [if_pos ⟨j3, (thB_iff hU.1.1.1).mpr ⟨j, j0, j1, rfl⟩⟩]
      exact j4
  have key : ∀ (m : Nat) (f c : Int) (σa : St), 0 ≤ f → f + m = F → (σa.2 = σ.2 ∧ (∀ a j : Nat, a ≠ 123 → a ≠ 124 → σa.1 a j = σ1.1 a j) ∧ ∀ g, 0 ≤ g → g < f → σa.1 124 g.toNat = nw g) → ((c = 0 ∨ c = 1) ∧ (c = 1 ↔ ∃ g, 0 ≤ g ∧ g < f ∧ nw g ≠ Q g)) → ∃ (σb : St) (cb : Int), (σb.2 = σ.2 ∧ (∀ a j : Nat, a ≠ 123 → a ≠ 124 → σb.1 a j = σ1.1 a j) ∧ ∀ g, 0 ≤ g → g < F → σb.1 124 g.toNat = nw g) ∧ ((cb = 0 ∨ cb = 1) ∧ (cb = 1 ↔ ∃ g, 0 ≤ g ∧ g < F ∧ nw g ≠ Q g)) ∧ ∀ (b : Nat × Nat) (out : MV × St), (∀ b, Go (fun _ => 0) 7 mX10_updates b 92 [vA 109, vI cb, vI F] [] σb out) → Go (fun _ => 0) 7 mX10_updates b 8 [vA 109, vI c, vI f] [] σa out := by
    intro m
    induction m with
    | zero =>
      intro f c σa h0 h1 hI hcc
      obtain rfl : f = F := by omega
      have hS1 : Str σa.2.1 := by rw [hI.1]; exact hS
      have e13 : σa.1 109 13 = f := by rw [hI.2.1 _ _ (by omega) (by omega), y2.2 _ _ (by omega)]; exact hFd.symm
      refine ⟨σa, c, hI, hcc, fun b out K => ?_⟩
      refine go_iload_n (at_of tX10_updates 0 6 rfl) rfl ?_
      refine go_aload_n (at_of tX10_updates 0 7 rfl) rfl ?_
      refine go_getf fl_X10_187 rfl G_109 (at_of tX10_updates 0 8 rfl) ?_
      rw [e13]
      refine go_icmp_ge (tgt := 92) (at_of tX10_updates 0 9 rfl) (by decide) (fun h13 => ?_) (fun h13 => ?_)
      rotate_left
      · exfalso; omega
      exact K _
    | succ m ih =>
      intro f c σa h0 h1 hI hcc
      obtain ⟨i1, i2, i3⟩ := hI
      have hS1 : Str σa.2.1 := by rw [i1]; exact hS
      have e13 : σa.1 109 13 = F := by rw [i2 _ _ (by omega) (by omega), y2.2 _ _ (by omega)]; exact hFd.symm
      have hc0 : cN σa = cN σ := funext fun x => (i2 110 _ (by omega) (by omega)).trans (y2.2 110 _ (by omega))
      have hN1 : RepN (cN σa) (R, L, Q) := by rw [hc0]; exact hN
      have hFY : FrV σ σa := ⟨i1, fun a j q => (i2 a j (by omega) (by omega)).trans (y2.2 a j (by omega))⟩
      have hlk : σa.1 120 f.toNat = hdM σ f := hFY.2 120 _ (by omega)
      have hqf : Q f = σa.1 110 (3205 + f).toNat := (hN1.2.2.1 f h0 (by omega)).symm
      -- what stands behind the state in which the value is put
      have put : ∀ (σx : St), σx.2 = σ.2 → (∀ a j : Nat, a ≠ 123 → a ≠ 124 → σx.1 a j = σ1.1 a j) → (∀ g, 0 ≤ g → g < f → σx.1 124 g.toNat = nw g) → ∀ (c' : Int), ((c' = 0 ∨ c' = 1) ∧ (c' = 1 ↔ ∃ g, 0 ≤ g ∧ g < f + 1 ∧ nw g ≠ Q g)) → ∃ (σb : St) (cb : Int), (σb.2 = σ.2 ∧ (∀ a j : Nat, a ≠ 123 → a ≠ 124 → σb.1 a j = σ1.1 a j) ∧ ∀ g, 0 ≤ g → g < F → σb.1 124 g.toNat = nw g) ∧ ((cb = 0 ∨ cb = 1) ∧ (cb = 1 ↔ ∃ g, 0 ≤ g ∧ g < F ∧ nw g ≠ Q g)) ∧ ∀ (b : Nat × Nat) (out : MV × St), (∀ b, Go (fun _ => 0) 7 mX10_updates b 92 [vA 109, vI cb, vI F] [] σb out) → Go (fun _ => 0) 7 mX10_updates b 8 [vA 109, vI c', vI (f + 1)] [] (M1 σx 124 f (nw f)) out := fun σx hx1 hx2 hx3 c' hc' => by
        refine ih (f + 1) c' (M1 σx 124 f (nw f)) (by omega) (by omega) ⟨hx1, fun a j p q => (M1_ne q).trans (hx2 a j p q), fun g a b => ?_⟩ hc'
        by_cases hg : g = f
        · rw [hg, M1_eq rfl]
        · rw [M1_nj (by omega)]; exact hx3 g a (by omega)
      by_cases hcond : hdM σ f = 0 ∧ thB R f = true
      · have hv : nw f = vlM σ R (σ.1 109 18) Q f := by rw [hnw]; exact if_pos hcond
        have mth := m_isThere hS1 hN1 hU.wf hU.2.1 (f := f) ⟨h0, by omega⟩
        rw [bI_t hcond.2] at mth
        have c20 : σa.1 109 20 = σ.1 109 20 := hFY.2 _ _ (by omega)
        have c18 : σa.1 109 18 = σ.1 109 18 := hFY.2 _ _ (by omega)
        have hLa : LayM σa R Q (KVm σ) (σ.1 109 19) (σ.1 109 20) := by
          refine ⟨fun v a b c d => ?_, fun q a b => ?_, ?_⟩
          · rw [i2 _ _ (by omega) (by omega), i2 _ _ (by omega) (by omega)]; exact y3.1 v a b c d
          · rw [i2 _ _ (by omega) (by omega)]; exact y3.2.1 q a b
          · rw [i2 _ _ (by omega) (by omega)]; exact y3.2.2
        have hkf := hU.2.2.2.2.2.2.2.2.2.2.1 f h0 (by omega)
        obtain ⟨σx, mfo, x2⟩ := m_found hS1 hN1 hU.wf hU.2.2.1 (hU.b hQW) (KV := KVm σ) (w := σ.1 109 19) hU.2.2.2.2.2.2.1.1 (by rw [c20]; exact hU.2.2.2.2.2.2.2.1) (by rw [c20]; exact hLa) (f := f) ⟨h0, by omega⟩ (by rw [c18]; exact hc) (by rw [hFY.2 118 _ (by omega), hFY.2 119 _ (by omega)]; exact hkf)
        have hve : valF R Q (KVm σ) (σ.1 109 19) (σa.1 109 20) (σa.1 118 f.toNat) (σa.1 119 f.toNat) (σa.1 121 (3 * σa.1 109 18 + σa.1 119 f.toNat).toNat) = nw f := by
          rw [hv, c20, c18, hFY.2 118 _ (by omega), hFY.2 119 _ (by omega), hFY.2 121 _ (by omega)]; rfl
        have mfo : Con 6 mX10_found 0 0 [vA 109, vI f] σa (vI (nw f), σx) := by rw [← hve]; exact mfo
        have hS2 : Str σx.2.1 := by rw [x2.1]; exact hS1
        have eqf : σx.1 110 (3205 + f).toNat = Q f := by rw [x2.2 _ _ (by omega)]; exact hqf.symm
        have z2 := fun c' hc' => put σx (x2.1.trans i1) (fun a j p q => (x2.2 a j p).trans (i2 a j p q)) (fun g a b => (x2.2 _ _ (by omega)).trans (i3 g a b)) c' hc'
        by_cases hc1 : c = 1
        · subst hc1
          have h1c : ((1 : Int) = 0 ∨ (1 : Int) = 1) ∧ ((1 : Int) = 1 ↔ ∃ g, 0 ≤ g ∧ g < f + 1 ∧ nw g ≠ Q g) := ⟨Or.inr rfl, fun _ => (hcc.2.mp rfl).imp (fun g q => ⟨q.1, by omega, q.2.2⟩), fun _ => rfl⟩
          obtain ⟨σb, cb, q1, q2, q3⟩ := z2 _ h1c
          refine ⟨σb, cb, q1, q2, fun b out K => ?_⟩
          have z3 := fun b => q3 b out K
          refine go_iload_n (at_of tX10_updates 0 6 rfl) rfl ?_
          refine go_aload_n (at_of tX10_updates 0 7 rfl) rfl ?_
          refine go_getf fl_X10_187 rfl G_109 (at_of tX10_updates 0 8 rfl) ?_
          refine go_icmp_ge (tgt := 92) (at_of tX10_updates 0 9 rfl) (by decide) (fun h13 => ?_) (fun h13 => ?_)
          · exfalso; omega
          refine go_aload_n (at_of tX10_updates 0 10 rfl) rfl ?_
          refine go_getr (q := 124) fl_X10_68 rfl G_109 (by first | exact (hS _ _ rfl).trans rfl | exact (hS1 _ _ rfl).trans rfl | exact (hS2 _ _ rfl).trans rfl | exact (hS3 _ _ rfl).trans rfl | exact (hS4 _ _ rfl).trans rfl) (at_of tX10_updates 0 11 rfl) ?_
          refine go_iload_n (at_of tX10_updates 0 12 rfl) rfl ?_
          refine go_aload_n (at_of tX10_updates 0 13 rfl) rfl ?_
          refine go_getr (q := 120) fl_X10_50 rfl G_109 (by first | exact (hS _ _ rfl).trans rfl | exact (hS1 _ _ rfl).trans rfl | exact (hS2 _ _ rfl).trans rfl | exact (hS3 _ _ rfl).trans rfl | exact (hS4 _ _ rfl).trans rfl) (at_of tX10_updates 0 14 rfl) ?_
          refine go_iload_n (at_of tX10_updates 0 15 rfl) rfl ?_
          refine go_bald G_120 (by omega) (by omega) (at_of tX10_updates 1 0 rfl) ?_
          rw [hlk]
          refine go_if_ne (tgt := 38) (at_of tX10_updates 1 1 rfl) (by decide) (fun h27 => ?_) (fun h27 => ?_)
          · exfalso; exact h27 hcond.1
          refine go_aload_n (at_of tX10_updates 1 2 rfl) rfl ?_
          refine go_iload_n (at_of tX10_updates 1 3 rfl) rfl ?_
          refine go_cV (mth) lk_X10_278 rfl G_109 (at_of tX10_updates 1 4 rfl) rfl (by decide) rfl (Nat.le_of_ble_eq_true rfl) rfl (by first | decide | exact ⟨Nat.zero_le _, Nat.zero_le _⟩) ?_
          refine go_if_ne (tgt := 51) (at_of tX10_updates 1 5 rfl) (by decide) (fun h35 => ?_) (fun h35 => ?_)
          rotate_left
          · exfalso; omega
          refine go_aload_n (at_of tX10_updates 1 13 rfl) rfl ?_
          refine go_iload_n (at_of tX10_updates 1 14 rfl) rfl ?_
          refine go_cV (mfo) lk_X10_281 rfl G_109 (at_of tX10_updates 1 15 rfl) rfl (by decide) rfl (Nat.le_of_ble_eq_true rfl) rfl (by first | decide | exact ⟨Nat.zero_le _, Nat.zero_le _⟩) ?_
          refine go_iast1 G_124 (by omega) (by omega) (at_of tX10_updates 2 0 rfl) ?_
          refine go_iload_n (at_of tX10_updates 2 1 rfl) rfl ?_
          refine go_if_ne (tgt := 80) (at_of tX10_updates 2 2 rfl) (by decide) (fun h58 => ?_) (fun h58 => ?_)
          rotate_left
          · exfalso; omega
          refine go_iconst (at_of tX10_updates 2 14 rfl) (by unfold in32; omega) ?_
          refine go_goto (tgt := 85) (at_of tX10_updates 2 15 rfl) (by decide) ?_
          refine go_istore_n (at_of tX10_updates 3 1 rfl) rfl rfl ?_
          refine go_iinc (at_of tX10_updates 3 2 rfl) rfl (by unfold in32; omega) rfl rfl ?_
          refine go_goto (tgt := 8) (at_of tX10_updates 3 3 rfl) (by decide) ?_
          exact z3 _
        · obtain rfl : c = 0 := by omega
          have hno : ∀ g, 0 ≤ g → g < f → nw g = Q g := fun g a b => Decidable.not_not.mp (fun q => absurd (hcc.2.mpr ⟨g, a, b, q⟩) (by decide))
          by_cases hne : nw f = Q f
          · have h0c : ((0 : Int) = 0 ∨ (0 : Int) = 1) ∧ ((0 : Int) = 1 ↔ ∃ g, 0 ≤ g ∧ g < f + 1 ∧ nw g ≠ Q g) := ⟨Or.inl rfl, fun q => absurd q (by decide), fun ⟨g, a, b, q⟩ => by
              by_cases hg : g = f
              · rw [hg] at q; exact absurd hne q
              · exact absurd (hno g a (by omega)) q⟩
            obtain ⟨σb, cb, q1, q2, q3⟩ := z2 _ h0c
            refine ⟨σb, cb, q1, q2, fun b out K => ?_⟩
            have z3 := fun b => q3 b out K
            refine go_iload_n (at_of tX10_updates 0 6 rfl) rfl ?_
            refine go_aload_n (at_of tX10_updates 0 7 rfl) rfl ?_
            refine go_getf fl_X10_187 rfl G_109 (at_of tX10_updates 0 8 rfl) ?_
            refine go_icmp_ge (tgt := 92) (at_of tX10_updates 0 9 rfl) (by decide) (fun h13 => ?_) (fun h13 => ?_)
            · exfalso; omega
            refine go_aload_n (at_of tX10_updates 0 10 rfl) rfl ?_
            refine go_getr (q := 124) fl_X10_68 rfl G_109 (by first | exact (hS _ _ rfl).trans rfl | exact (hS1 _ _ rfl).trans rfl | exact (hS2 _ _ rfl).trans rfl | exact (hS3 _ _ rfl).trans rfl | exact (hS4 _ _ rfl).trans rfl) (at_of tX10_updates 0 11 rfl) ?_
            refine go_iload_n (at_of tX10_updates 0 12 rfl) rfl ?_
            refine go_aload_n (at_of tX10_updates 0 13 rfl) rfl ?_
            refine go_getr (q := 120) fl_X10_50 rfl G_109 (by first | exact (hS _ _ rfl).trans rfl | exact (hS1 _ _ rfl).trans rfl | exact (hS2 _ _ rfl).trans rfl | exact (hS3 _ _ rfl).trans rfl | exact (hS4 _ _ rfl).trans rfl) (at_of tX10_updates 0 14 rfl) ?_
            refine go_iload_n (at_of tX10_updates 0 15 rfl) rfl ?_
            refine go_bald G_120 (by omega) (by omega) (at_of tX10_updates 1 0 rfl) ?_
            rw [hlk]
            refine go_if_ne (tgt := 38) (at_of tX10_updates 1 1 rfl) (by decide) (fun h27 => ?_) (fun h27 => ?_)
            · exfalso; exact h27 hcond.1
            refine go_aload_n (at_of tX10_updates 1 2 rfl) rfl ?_
            refine go_iload_n (at_of tX10_updates 1 3 rfl) rfl ?_
            refine go_cV (mth) lk_X10_278 rfl G_109 (at_of tX10_updates 1 4 rfl) rfl (by decide) rfl (Nat.le_of_ble_eq_true rfl) rfl (by first | decide | exact ⟨Nat.zero_le _, Nat.zero_le _⟩) ?_
            refine go_if_ne (tgt := 51) (at_of tX10_updates 1 5 rfl) (by decide) (fun h35 => ?_) (fun h35 => ?_)
            rotate_left
            · exfalso; omega
            refine go_aload_n (at_of tX10_updates 1 13 rfl) rfl ?_
            refine go_iload_n (at_of tX10_updates 1 14 rfl) rfl ?_
            refine go_cV (mfo) lk_X10_281 rfl G_109 (at_of tX10_updates 1 15 rfl) rfl (by decide) rfl (Nat.le_of_ble_eq_true rfl) rfl (by first | decide | exact ⟨Nat.zero_le _, Nat.zero_le _⟩) ?_
            refine go_iast1 G_124 (by omega) (by omega) (at_of tX10_updates 2 0 rfl) ?_
            refine go_iload_n (at_of tX10_updates 2 1 rfl) rfl ?_
            refine go_if_ne (tgt := 80) (at_of tX10_updates 2 2 rfl) (by decide) (fun h58 => ?_) (fun h58 => ?_)
            · exfalso; omega
            refine go_aload_n (at_of tX10_updates 2 3 rfl) rfl ?_
            refine go_getr (q := 124) fl_X10_68 rfl G_109 (by first | exact (hS _ _ rfl).trans rfl | exact (hS1 _ _ rfl).trans rfl | exact (hS2 _ _ rfl).trans rfl | exact (hS3 _ _ rfl).trans rfl | exact (hS4 _ _ rfl).trans rfl) (at_of tX10_updates 2 4 rfl) ?_
            refine go_iload_n (at_of tX10_updates 2 5 rfl) rfl ?_
            refine go_iald G_124 (by omega) (by omega) (at_of tX10_updates 2 6 rfl) ?_
            rw [M1_eq rfl]
            refine go_aload_n (at_of tX10_updates 2 7 rfl) rfl ?_
            refine go_getr (q := 110) fl_X10_7 rfl G_109 (by first | exact (hS _ _ rfl).trans rfl | exact (hS1 _ _ rfl).trans rfl | exact (hS2 _ _ rfl).trans rfl | exact (hS3 _ _ rfl).trans rfl | exact (hS4 _ _ rfl).trans rfl) (at_of tX10_updates 2 8 rfl) ?_
            refine go_sipush (at_of tX10_updates 2 9 rfl) (by decide) ?_
            refine go_iload_n (at_of tX10_updates 2 10 rfl) rfl ?_
            refine go_iadd (at_of tX10_updates 2 11 rfl) (by unfold in32; omega) ?_
            refine go_iald G_110 (by omega) (by omega) (at_of tX10_updates 2 12 rfl) ?_
            rw [M1_ne (by omega), eqf]
            refine go_icmp_eq (tgt := 84) (at_of tX10_updates 2 13 rfl) (by decide) (fun h77 => ?_) (fun h77 => ?_)
            rotate_left
            · exfalso; exact h77 hne
            refine go_iconst (at_of tX10_updates 3 0 rfl) (by unfold in32; omega) ?_
            refine go_istore_n (at_of tX10_updates 3 1 rfl) rfl rfl ?_
            refine go_iinc (at_of tX10_updates 3 2 rfl) rfl (by unfold in32; omega) rfl rfl ?_
            refine go_goto (tgt := 8) (at_of tX10_updates 3 3 rfl) (by decide) ?_
            exact z3 _
          · have h2c : ((1 : Int) = 0 ∨ (1 : Int) = 1) ∧ ((1 : Int) = 1 ↔ ∃ g, 0 ≤ g ∧ g < f + 1 ∧ nw g ≠ Q g) := ⟨Or.inr rfl, fun _ => ⟨f, h0, by omega, hne⟩, fun _ => rfl⟩
            obtain ⟨σb, cb, q1, q2, q3⟩ := z2 _ h2c
            refine ⟨σb, cb, q1, q2, fun b out K => ?_⟩
            have z3 := fun b => q3 b out K
            refine go_iload_n (at_of tX10_updates 0 6 rfl) rfl ?_
            refine go_aload_n (at_of tX10_updates 0 7 rfl) rfl ?_
            refine go_getf fl_X10_187 rfl G_109 (at_of tX10_updates 0 8 rfl) ?_
            refine go_icmp_ge (tgt := 92) (at_of tX10_updates 0 9 rfl) (by decide) (fun h13 => ?_) (fun h13 => ?_)
            · exfalso; omega
            refine go_aload_n (at_of tX10_updates 0 10 rfl) rfl ?_
            refine go_getr (q := 124) fl_X10_68 rfl G_109 (by first | exact (hS _ _ rfl).trans rfl | exact (hS1 _ _ rfl).trans rfl | exact (hS2 _ _ rfl).trans rfl | exact (hS3 _ _ rfl).trans rfl | exact (hS4 _ _ rfl).trans rfl) (at_of tX10_updates 0 11 rfl) ?_
            refine go_iload_n (at_of tX10_updates 0 12 rfl) rfl ?_
            refine go_aload_n (at_of tX10_updates 0 13 rfl) rfl ?_
            refine go_getr (q := 120) fl_X10_50 rfl G_109 (by first | exact (hS _ _ rfl).trans rfl | exact (hS1 _ _ rfl).trans rfl | exact (hS2 _ _ rfl).trans rfl | exact (hS3 _ _ rfl).trans rfl | exact (hS4 _ _ rfl).trans rfl) (at_of tX10_updates 0 14 rfl) ?_
            refine go_iload_n (at_of tX10_updates 0 15 rfl) rfl ?_
            refine go_bald G_120 (by omega) (by omega) (at_of tX10_updates 1 0 rfl) ?_
            rw [hlk]
            refine go_if_ne (tgt := 38) (at_of tX10_updates 1 1 rfl) (by decide) (fun h27 => ?_) (fun h27 => ?_)
            · exfalso; exact h27 hcond.1
            refine go_aload_n (at_of tX10_updates 1 2 rfl) rfl ?_
            refine go_iload_n (at_of tX10_updates 1 3 rfl) rfl ?_
            refine go_cV (mth) lk_X10_278 rfl G_109 (at_of tX10_updates 1 4 rfl) rfl (by decide) rfl (Nat.le_of_ble_eq_true rfl) rfl (by first | decide | exact ⟨Nat.zero_le _, Nat.zero_le _⟩) ?_
            refine go_if_ne (tgt := 51) (at_of tX10_updates 1 5 rfl) (by decide) (fun h35 => ?_) (fun h35 => ?_)
            rotate_left
            · exfalso; omega
            refine go_aload_n (at_of tX10_updates 1 13 rfl) rfl ?_
            refine go_iload_n (at_of tX10_updates 1 14 rfl) rfl ?_
            refine go_cV (mfo) lk_X10_281 rfl G_109 (at_of tX10_updates 1 15 rfl) rfl (by decide) rfl (Nat.le_of_ble_eq_true rfl) rfl (by first | decide | exact ⟨Nat.zero_le _, Nat.zero_le _⟩) ?_
            refine go_iast1 G_124 (by omega) (by omega) (at_of tX10_updates 2 0 rfl) ?_
            refine go_iload_n (at_of tX10_updates 2 1 rfl) rfl ?_
            refine go_if_ne (tgt := 80) (at_of tX10_updates 2 2 rfl) (by decide) (fun h58 => ?_) (fun h58 => ?_)
            · exfalso; omega
            refine go_aload_n (at_of tX10_updates 2 3 rfl) rfl ?_
            refine go_getr (q := 124) fl_X10_68 rfl G_109 (by first | exact (hS _ _ rfl).trans rfl | exact (hS1 _ _ rfl).trans rfl | exact (hS2 _ _ rfl).trans rfl | exact (hS3 _ _ rfl).trans rfl | exact (hS4 _ _ rfl).trans rfl) (at_of tX10_updates 2 4 rfl) ?_
            refine go_iload_n (at_of tX10_updates 2 5 rfl) rfl ?_
            refine go_iald G_124 (by omega) (by omega) (at_of tX10_updates 2 6 rfl) ?_
            rw [M1_eq rfl]
            refine go_aload_n (at_of tX10_updates 2 7 rfl) rfl ?_
            refine go_getr (q := 110) fl_X10_7 rfl G_109 (by first | exact (hS _ _ rfl).trans rfl | exact (hS1 _ _ rfl).trans rfl | exact (hS2 _ _ rfl).trans rfl | exact (hS3 _ _ rfl).trans rfl | exact (hS4 _ _ rfl).trans rfl) (at_of tX10_updates 2 8 rfl) ?_
            refine go_sipush (at_of tX10_updates 2 9 rfl) (by decide) ?_
            refine go_iload_n (at_of tX10_updates 2 10 rfl) rfl ?_
            refine go_iadd (at_of tX10_updates 2 11 rfl) (by unfold in32; omega) ?_
            refine go_iald G_110 (by omega) (by omega) (at_of tX10_updates 2 12 rfl) ?_
            rw [M1_ne (by omega), eqf]
            refine go_icmp_eq (tgt := 84) (at_of tX10_updates 2 13 rfl) (by decide) (fun h77 => ?_) (fun h77 => ?_)
            · exfalso; exact hne h77
            refine go_iconst (at_of tX10_updates 2 14 rfl) (by unfold in32; omega) ?_
            refine go_goto (tgt := 85) (at_of tX10_updates 2 15 rfl) (by decide) ?_
            refine go_istore_n (at_of tX10_updates 3 1 rfl) rfl rfl ?_
            refine go_iinc (at_of tX10_updates 3 2 rfl) rfl (by unfold in32; omega) rfl rfl ?_
            refine go_goto (tgt := 8) (at_of tX10_updates 3 3 rfl) (by decide) ?_
            exact z3 _
      · have hv : nw f = Q f := by rw [hnw]; exact if_neg hcond
        have eqf : σa.1 110 (3205 + f).toNat = Q f := hqf.symm
        have z2 := put σa i1 i2 i3
        have hS2 := hS1
        by_cases hl : hdM σ f = 0
        · have mth := m_isThere hS1 hN1 hU.wf hU.2.1 (f := f) ⟨h0, by omega⟩
          rw [bI_f (fun q => hcond ⟨hl, q⟩)] at mth
          by_cases hc1 : c = 1
          · subst hc1
            have h1c : ((1 : Int) = 0 ∨ (1 : Int) = 1) ∧ ((1 : Int) = 1 ↔ ∃ g, 0 ≤ g ∧ g < f + 1 ∧ nw g ≠ Q g) := ⟨Or.inr rfl, fun _ => (hcc.2.mp rfl).imp (fun g q => ⟨q.1, by omega, q.2.2⟩), fun _ => rfl⟩
            obtain ⟨σb, cb, q1, q2, q3⟩ := z2 _ h1c
            refine ⟨σb, cb, q1, q2, fun b out K => ?_⟩
            have z3 := fun b => q3 b out K
            refine go_iload_n (at_of tX10_updates 0 6 rfl) rfl ?_
            refine go_aload_n (at_of tX10_updates 0 7 rfl) rfl ?_
            refine go_getf fl_X10_187 rfl G_109 (at_of tX10_updates 0 8 rfl) ?_
            refine go_icmp_ge (tgt := 92) (at_of tX10_updates 0 9 rfl) (by decide) (fun h13 => ?_) (fun h13 => ?_)
            · exfalso; omega
            refine go_aload_n (at_of tX10_updates 0 10 rfl) rfl ?_
            refine go_getr (q := 124) fl_X10_68 rfl G_109 (by first | exact (hS _ _ rfl).trans rfl | exact (hS1 _ _ rfl).trans rfl | exact (hS2 _ _ rfl).trans rfl | exact (hS3 _ _ rfl).trans rfl | exact (hS4 _ _ rfl).trans rfl) (at_of tX10_updates 0 11 rfl) ?_
            refine go_iload_n (at_of tX10_updates 0 12 rfl) rfl ?_
            refine go_aload_n (at_of tX10_updates 0 13 rfl) rfl ?_
            refine go_getr (q := 120) fl_X10_50 rfl G_109 (by first | exact (hS _ _ rfl).trans rfl | exact (hS1 _ _ rfl).trans rfl | exact (hS2 _ _ rfl).trans rfl | exact (hS3 _ _ rfl).trans rfl | exact (hS4 _ _ rfl).trans rfl) (at_of tX10_updates 0 14 rfl) ?_
            refine go_iload_n (at_of tX10_updates 0 15 rfl) rfl ?_
            refine go_bald G_120 (by omega) (by omega) (at_of tX10_updates 1 0 rfl) ?_
            rw [hlk]
            refine go_if_ne (tgt := 38) (at_of tX10_updates 1 1 rfl) (by decide) (fun h27 => ?_) (fun h27 => ?_)
            · exfalso; exact h27 hl
            refine go_aload_n (at_of tX10_updates 1 2 rfl) rfl ?_
            refine go_iload_n (at_of tX10_updates 1 3 rfl) rfl ?_
            refine go_cV (mth) lk_X10_278 rfl G_109 (at_of tX10_updates 1 4 rfl) rfl (by decide) rfl (Nat.le_of_ble_eq_true rfl) rfl (by first | decide | exact ⟨Nat.zero_le _, Nat.zero_le _⟩) ?_
            refine go_if_ne (tgt := 51) (at_of tX10_updates 1 5 rfl) (by decide) (fun h35 => ?_) (fun h35 => ?_)
            · exfalso; omega
            refine go_aload_n (at_of tX10_updates 1 6 rfl) rfl ?_
            refine go_getr (q := 110) fl_X10_7 rfl G_109 (by first | exact (hS _ _ rfl).trans rfl | exact (hS1 _ _ rfl).trans rfl | exact (hS2 _ _ rfl).trans rfl | exact (hS3 _ _ rfl).trans rfl | exact (hS4 _ _ rfl).trans rfl) (at_of tX10_updates 1 7 rfl) ?_
            refine go_sipush (at_of tX10_updates 1 8 rfl) (by decide) ?_
            refine go_iload_n (at_of tX10_updates 1 9 rfl) rfl ?_
            refine go_iadd (at_of tX10_updates 1 10 rfl) (by unfold in32; omega) ?_
            refine go_iald G_110 (by omega) (by omega) (at_of tX10_updates 1 11 rfl) ?_
            rw [eqf, ← hv]
            refine go_goto (tgt := 56) (at_of tX10_updates 1 12 rfl) (by decide) ?_
            refine go_iast1 G_124 (by omega) (by omega) (at_of tX10_updates 2 0 rfl) ?_
            refine go_iload_n (at_of tX10_updates 2 1 rfl) rfl ?_
            refine go_if_ne (tgt := 80) (at_of tX10_updates 2 2 rfl) (by decide) (fun h58 => ?_) (fun h58 => ?_)
            rotate_left
            · exfalso; omega
            refine go_iconst (at_of tX10_updates 2 14 rfl) (by unfold in32; omega) ?_
            refine go_goto (tgt := 85) (at_of tX10_updates 2 15 rfl) (by decide) ?_
            refine go_istore_n (at_of tX10_updates 3 1 rfl) rfl rfl ?_
            refine go_iinc (at_of tX10_updates 3 2 rfl) rfl (by unfold in32; omega) rfl rfl ?_
            refine go_goto (tgt := 8) (at_of tX10_updates 3 3 rfl) (by decide) ?_
            exact z3 _
          · obtain rfl : c = 0 := by omega
            have hno : ∀ g, 0 ≤ g → g < f → nw g = Q g := fun g a b => Decidable.not_not.mp (fun q => absurd (hcc.2.mpr ⟨g, a, b, q⟩) (by decide))
            by_cases hne : nw f = Q f
            · have h0c : ((0 : Int) = 0 ∨ (0 : Int) = 1) ∧ ((0 : Int) = 1 ↔ ∃ g, 0 ≤ g ∧ g < f + 1 ∧ nw g ≠ Q g) := ⟨Or.inl rfl, fun q => absurd q (by decide), fun ⟨g, a, b, q⟩ => by
                by_cases hg : g = f
                · rw [hg] at q; exact absurd hne q
                · exact absurd (hno g a (by omega)) q⟩
              obtain ⟨σb, cb, q1, q2, q3⟩ := z2 _ h0c
              refine ⟨σb, cb, q1, q2, fun b out K => ?_⟩
              have z3 := fun b => q3 b out K
              refine go_iload_n (at_of tX10_updates 0 6 rfl) rfl ?_
              refine go_aload_n (at_of tX10_updates 0 7 rfl) rfl ?_
              refine go_getf fl_X10_187 rfl G_109 (at_of tX10_updates 0 8 rfl) ?_
              refine go_icmp_ge (tgt := 92) (at_of tX10_updates 0 9 rfl) (by decide) (fun h13 => ?_) (fun h13 => ?_)
              · exfalso; omega
              refine go_aload_n (at_of tX10_updates 0 10 rfl) rfl ?_
              refine go_getr (q := 124) fl_X10_68 rfl G_109 (by first | exact (hS _ _ rfl).trans rfl | exact (hS1 _ _ rfl).trans rfl | exact (hS2 _ _ rfl).trans rfl | exact (hS3 _ _ rfl).trans rfl | exact (hS4 _ _ rfl).trans rfl) (at_of tX10_updates 0 11 rfl) ?_
              refine go_iload_n (at_of tX10_updates 0 12 rfl) rfl ?_
              refine go_aload_n (at_of tX10_updates 0 13 rfl) rfl ?_
              refine go_getr (q := 120) fl_X10_50 rfl G_109 (by first | exact (hS _ _ rfl).trans rfl | exact (hS1 _ _ rfl).trans rfl | exact (hS2 _ _ rfl).trans rfl | exact (hS3 _ _ rfl).trans rfl | exact (hS4 _ _ rfl).trans rfl) (at_of tX10_updates 0 14 rfl) ?_
              refine go_iload_n (at_of tX10_updates 0 15 rfl) rfl ?_
              refine go_bald G_120 (by omega) (by omega) (at_of tX10_updates 1 0 rfl) ?_
              rw [hlk]
              refine go_if_ne (tgt := 38) (at_of tX10_updates 1 1 rfl) (by decide) (fun h27 => ?_) (fun h27 => ?_)
              · exfalso; exact h27 hl
              refine go_aload_n (at_of tX10_updates 1 2 rfl) rfl ?_
              refine go_iload_n (at_of tX10_updates 1 3 rfl) rfl ?_
              refine go_cV (mth) lk_X10_278 rfl G_109 (at_of tX10_updates 1 4 rfl) rfl (by decide) rfl (Nat.le_of_ble_eq_true rfl) rfl (by first | decide | exact ⟨Nat.zero_le _, Nat.zero_le _⟩) ?_
              refine go_if_ne (tgt := 51) (at_of tX10_updates 1 5 rfl) (by decide) (fun h35 => ?_) (fun h35 => ?_)
              · exfalso; omega
              refine go_aload_n (at_of tX10_updates 1 6 rfl) rfl ?_
              refine go_getr (q := 110) fl_X10_7 rfl G_109 (by first | exact (hS _ _ rfl).trans rfl | exact (hS1 _ _ rfl).trans rfl | exact (hS2 _ _ rfl).trans rfl | exact (hS3 _ _ rfl).trans rfl | exact (hS4 _ _ rfl).trans rfl) (at_of tX10_updates 1 7 rfl) ?_
              refine go_sipush (at_of tX10_updates 1 8 rfl) (by decide) ?_
              refine go_iload_n (at_of tX10_updates 1 9 rfl) rfl ?_
              refine go_iadd (at_of tX10_updates 1 10 rfl) (by unfold in32; omega) ?_
              refine go_iald G_110 (by omega) (by omega) (at_of tX10_updates 1 11 rfl) ?_
              rw [eqf, ← hv]
              refine go_goto (tgt := 56) (at_of tX10_updates 1 12 rfl) (by decide) ?_
              refine go_iast1 G_124 (by omega) (by omega) (at_of tX10_updates 2 0 rfl) ?_
              refine go_iload_n (at_of tX10_updates 2 1 rfl) rfl ?_
              refine go_if_ne (tgt := 80) (at_of tX10_updates 2 2 rfl) (by decide) (fun h58 => ?_) (fun h58 => ?_)
              · exfalso; omega
              refine go_aload_n (at_of tX10_updates 2 3 rfl) rfl ?_
              refine go_getr (q := 124) fl_X10_68 rfl G_109 (by first | exact (hS _ _ rfl).trans rfl | exact (hS1 _ _ rfl).trans rfl | exact (hS2 _ _ rfl).trans rfl | exact (hS3 _ _ rfl).trans rfl | exact (hS4 _ _ rfl).trans rfl) (at_of tX10_updates 2 4 rfl) ?_
              refine go_iload_n (at_of tX10_updates 2 5 rfl) rfl ?_
              refine go_iald G_124 (by omega) (by omega) (at_of tX10_updates 2 6 rfl) ?_
              rw [M1_eq rfl]
              refine go_aload_n (at_of tX10_updates 2 7 rfl) rfl ?_
              refine go_getr (q := 110) fl_X10_7 rfl G_109 (by first | exact (hS _ _ rfl).trans rfl | exact (hS1 _ _ rfl).trans rfl | exact (hS2 _ _ rfl).trans rfl | exact (hS3 _ _ rfl).trans rfl | exact (hS4 _ _ rfl).trans rfl) (at_of tX10_updates 2 8 rfl) ?_
              refine go_sipush (at_of tX10_updates 2 9 rfl) (by decide) ?_
              refine go_iload_n (at_of tX10_updates 2 10 rfl) rfl ?_
              refine go_iadd (at_of tX10_updates 2 11 rfl) (by unfold in32; omega) ?_
              refine go_iald G_110 (by omega) (by omega) (at_of tX10_updates 2 12 rfl) ?_
              rw [M1_ne (by omega), eqf]
              refine go_icmp_eq (tgt := 84) (at_of tX10_updates 2 13 rfl) (by decide) (fun h77 => ?_) (fun h77 => ?_)
              rotate_left
              · exfalso; exact h77 hne
              refine go_iconst (at_of tX10_updates 3 0 rfl) (by unfold in32; omega) ?_
              refine go_istore_n (at_of tX10_updates 3 1 rfl) rfl rfl ?_
              refine go_iinc (at_of tX10_updates 3 2 rfl) rfl (by unfold in32; omega) rfl rfl ?_
              refine go_goto (tgt := 8) (at_of tX10_updates 3 3 rfl) (by decide) ?_
              exact z3 _
            · have h2c : ((1 : Int) = 0 ∨ (1 : Int) = 1) ∧ ((1 : Int) = 1 ↔ ∃ g, 0 ≤ g ∧ g < f + 1 ∧ nw g ≠ Q g) := ⟨Or.inr rfl, fun _ => ⟨f, h0, by omega, hne⟩, fun _ => rfl⟩
              obtain ⟨σb, cb, q1, q2, q3⟩ := z2 _ h2c
              refine ⟨σb, cb, q1, q2, fun b out K => ?_⟩
              have z3 := fun b => q3 b out K
              refine go_iload_n (at_of tX10_updates 0 6 rfl) rfl ?_
              refine go_aload_n (at_of tX10_updates 0 7 rfl) rfl ?_
              refine go_getf fl_X10_187 rfl G_109 (at_of tX10_updates 0 8 rfl) ?_
              refine go_icmp_ge (tgt := 92) (at_of tX10_updates 0 9 rfl) (by decide) (fun h13 => ?_) (fun h13 => ?_)
              · exfalso; omega
              refine go_aload_n (at_of tX10_updates 0 10 rfl) rfl ?_
              refine go_getr (q := 124) fl_X10_68 rfl G_109 (by first | exact (hS _ _ rfl).trans rfl | exact (hS1 _ _ rfl).trans rfl | exact (hS2 _ _ rfl).trans rfl | exact (hS3 _ _ rfl).trans rfl | exact (hS4 _ _ rfl).trans rfl) (at_of tX10_updates 0 11 rfl) ?_
              refine go_iload_n (at_of tX10_updates 0 12 rfl) rfl ?_
              refine go_aload_n (at_of tX10_updates 0 13 rfl) rfl ?_
              refine go_getr (q := 120) fl_X10_50 rfl G_109 (by first | exact (hS _ _ rfl).trans rfl | exact (hS1 _ _ rfl).trans rfl | exact (hS2 _ _ rfl).trans rfl | exact (hS3 _ _ rfl).trans rfl | exact (hS4 _ _ rfl).trans rfl) (at_of tX10_updates 0 14 rfl) ?_
              refine go_iload_n (at_of tX10_updates 0 15 rfl) rfl ?_
              refine go_bald G_120 (by omega) (by omega) (at_of tX10_updates 1 0 rfl) ?_
              rw [hlk]
              refine go_if_ne (tgt := 38) (at_of tX10_updates 1 1 rfl) (by decide) (fun h27 => ?_) (fun h27 => ?_)
              · exfalso; exact h27 hl
              refine go_aload_n (at_of tX10_updates 1 2 rfl) rfl ?_
              refine go_iload_n (at_of tX10_updates 1 3 rfl) rfl ?_
              refine go_cV (mth) lk_X10_278 rfl G_109 (at_of tX10_updates 1 4 rfl) rfl (by decide) rfl (Nat.le_of_ble_eq_true rfl) rfl (by first | decide | exact ⟨Nat.zero_le _, Nat.zero_le _⟩) ?_
              refine go_if_ne (tgt := 51) (at_of tX10_updates 1 5 rfl) (by decide) (fun h35 => ?_) (fun h35 => ?_)
              · exfalso; omega
              refine go_aload_n (at_of tX10_updates 1 6 rfl) rfl ?_
              refine go_getr (q := 110) fl_X10_7 rfl G_109 (by first | exact (hS _ _ rfl).trans rfl | exact (hS1 _ _ rfl).trans rfl | exact (hS2 _ _ rfl).trans rfl | exact (hS3 _ _ rfl).trans rfl | exact (hS4 _ _ rfl).trans rfl) (at_of tX10_updates 1 7 rfl) ?_
              refine go_sipush (at_of tX10_updates 1 8 rfl) (by decide) ?_
              refine go_iload_n (at_of tX10_updates 1 9 rfl) rfl ?_
              refine go_iadd (at_of tX10_updates 1 10 rfl) (by unfold in32; omega) ?_
              refine go_iald G_110 (by omega) (by omega) (at_of tX10_updates 1 11 rfl) ?_
              rw [eqf, ← hv]
              refine go_goto (tgt := 56) (at_of tX10_updates 1 12 rfl) (by decide) ?_
              refine go_iast1 G_124 (by omega) (by omega) (at_of tX10_updates 2 0 rfl) ?_
              refine go_iload_n (at_of tX10_updates 2 1 rfl) rfl ?_
              refine go_if_ne (tgt := 80) (at_of tX10_updates 2 2 rfl) (by decide) (fun h58 => ?_) (fun h58 => ?_)
              · exfalso; omega
              refine go_aload_n (at_of tX10_updates 2 3 rfl) rfl ?_
              refine go_getr (q := 124) fl_X10_68 rfl G_109 (by first | exact (hS _ _ rfl).trans rfl | exact (hS1 _ _ rfl).trans rfl | exact (hS2 _ _ rfl).trans rfl | exact (hS3 _ _ rfl).trans rfl | exact (hS4 _ _ rfl).trans rfl) (at_of tX10_updates 2 4 rfl) ?_
              refine go_iload_n (at_of tX10_updates 2 5 rfl) rfl ?_
              refine go_iald G_124 (by omega) (by omega) (at_of tX10_updates 2 6 rfl) ?_
              rw [M1_eq rfl]
              refine go_aload_n (at_of tX10_updates 2 7 rfl) rfl ?_
              refine go_getr (q := 110) fl_X10_7 rfl G_109 (by first | exact (hS _ _ rfl).trans rfl | exact (hS1 _ _ rfl).trans rfl | exact (hS2 _ _ rfl).trans rfl | exact (hS3 _ _ rfl).trans rfl | exact (hS4 _ _ rfl).trans rfl) (at_of tX10_updates 2 8 rfl) ?_
              refine go_sipush (at_of tX10_updates 2 9 rfl) (by decide) ?_
              refine go_iload_n (at_of tX10_updates 2 10 rfl) rfl ?_
              refine go_iadd (at_of tX10_updates 2 11 rfl) (by unfold in32; omega) ?_
              refine go_iald G_110 (by omega) (by omega) (at_of tX10_updates 2 12 rfl) ?_
              rw [M1_ne (by omega), eqf]
              refine go_icmp_eq (tgt := 84) (at_of tX10_updates 2 13 rfl) (by decide) (fun h77 => ?_) (fun h77 => ?_)
              · exfalso; exact hne h77
              refine go_iconst (at_of tX10_updates 2 14 rfl) (by unfold in32; omega) ?_
              refine go_goto (tgt := 85) (at_of tX10_updates 2 15 rfl) (by decide) ?_
              refine go_istore_n (at_of tX10_updates 3 1 rfl) rfl rfl ?_
              refine go_iinc (at_of tX10_updates 3 2 rfl) rfl (by unfold in32; omega) rfl rfl ?_
              refine go_goto (tgt := 8) (at_of tX10_updates 3 3 rfl) (by decide) ?_
              exact z3 _
        · skip
          by_cases hc1 : c = 1
          · subst hc1
            have h1c : ((1 : Int) = 0 ∨ (1 : Int) = 1) ∧ ((1 : Int) = 1 ↔ ∃ g, 0 ≤ g ∧ g < f + 1 ∧ nw g ≠ Q g) := ⟨Or.inr rfl, fun _ => (hcc.2.mp rfl).imp (fun g q => ⟨q.1, by omega, q.2.2⟩), fun _ => rfl⟩
            obtain ⟨σb, cb, q1, q2, q3⟩ := z2 _ h1c
            refine ⟨σb, cb, q1, q2, fun b out K => ?_⟩
            have z3 := fun b => q3 b out K
            refine go_iload_n (at_of tX10_updates 0 6 rfl) rfl ?_
            refine go_aload_n (at_of tX10_updates 0 7 rfl) rfl ?_
            refine go_getf fl_X10_187 rfl G_109 (at_of tX10_updates 0 8 rfl) ?_
            refine go_icmp_ge (tgt := 92) (at_of tX10_updates 0 9 rfl) (by decide) (fun h13 => ?_) (fun h13 => ?_)
            · exfalso; omega
            refine go_aload_n (at_of tX10_updates 0 10 rfl) rfl ?_
            refine go_getr (q := 124) fl_X10_68 rfl G_109 (by first | exact (hS _ _ rfl).trans rfl | exact (hS1 _ _ rfl).trans rfl | exact (hS2 _ _ rfl).trans rfl | exact (hS3 _ _ rfl).trans rfl | exact (hS4 _ _ rfl).trans rfl) (at_of tX10_updates 0 11 rfl) ?_
            refine go_iload_n (at_of tX10_updates 0 12 rfl) rfl ?_
            refine go_aload_n (at_of tX10_updates 0 13 rfl) rfl ?_
            refine go_getr (q := 120) fl_X10_50 rfl G_109 (by first | exact (hS _ _ rfl).trans rfl | exact (hS1 _ _ rfl).trans rfl | exact (hS2 _ _ rfl).trans rfl | exact (hS3 _ _ rfl).trans rfl | exact (hS4 _ _ rfl).trans rfl) (at_of tX10_updates 0 14 rfl) ?_
            refine go_iload_n (at_of tX10_updates 0 15 rfl) rfl ?_
            refine go_bald G_120 (by omega) (by omega) (at_of tX10_updates 1 0 rfl) ?_
            rw [hlk]
            refine go_if_ne (tgt := 38) (at_of tX10_updates 1 1 rfl) (by decide) (fun h27 => ?_) (fun h27 => ?_)
            rotate_left
            · exfalso; exact hl h27
            refine go_aload_n (at_of tX10_updates 1 6 rfl) rfl ?_
            refine go_getr (q := 110) fl_X10_7 rfl G_109 (by first | exact (hS _ _ rfl).trans rfl | exact (hS1 _ _ rfl).trans rfl | exact (hS2 _ _ rfl).trans rfl | exact (hS3 _ _ rfl).trans rfl | exact (hS4 _ _ rfl).trans rfl) (at_of tX10_updates 1 7 rfl) ?_
            refine go_sipush (at_of tX10_updates 1 8 rfl) (by decide) ?_
            refine go_iload_n (at_of tX10_updates 1 9 rfl) rfl ?_
            refine go_iadd (at_of tX10_updates 1 10 rfl) (by unfold in32; omega) ?_
            refine go_iald G_110 (by omega) (by omega) (at_of tX10_updates 1 11 rfl) ?_
            rw [eqf, ← hv]
            refine go_goto (tgt := 56) (at_of tX10_updates 1 12 rfl) (by decide) ?_
            refine go_iast1 G_124 (by omega) (by omega) (at_of tX10_updates 2 0 rfl) ?_
            refine go_iload_n (at_of tX10_updates 2 1 rfl) rfl ?_
            refine go_if_ne (tgt := 80) (at_of tX10_updates 2 2 rfl) (by decide) (fun h58 => ?_) (fun h58 => ?_)
            rotate_left
            · exfalso; omega
            refine go_iconst (at_of tX10_updates 2 14 rfl) (by unfold in32; omega) ?_
            refine go_goto (tgt := 85) (at_of tX10_updates 2 15 rfl) (by decide) ?_
            refine go_istore_n (at_of tX10_updates 3 1 rfl) rfl rfl ?_
            refine go_iinc (at_of tX10_updates 3 2 rfl) rfl (by unfold in32; omega) rfl rfl ?_
            refine go_goto (tgt := 8) (at_of tX10_updates 3 3 rfl) (by decide) ?_
            exact z3 _
          · obtain rfl : c = 0 := by omega
            have hno : ∀ g, 0 ≤ g → g < f → nw g = Q g := fun g a b => Decidable.not_not.mp (fun q => absurd (hcc.2.mpr ⟨g, a, b, q⟩) (by decide))
            by_cases hne : nw f = Q f
            · have h0c : ((0 : Int) = 0 ∨ (0 : Int) = 1) ∧ ((0 : Int) = 1 ↔ ∃ g, 0 ≤ g ∧ g < f + 1 ∧ nw g ≠ Q g) := ⟨Or.inl rfl, fun q => absurd q (by decide), fun ⟨g, a, b, q⟩ => by
                by_cases hg : g = f
                · rw [hg] at q; exact absurd hne q
                · exact absurd (hno g a (by omega)) q⟩
              obtain ⟨σb, cb, q1, q2, q3⟩ := z2 _ h0c
              refine ⟨σb, cb, q1, q2, fun b out K => ?_⟩
              have z3 := fun b => q3 b out K
              refine go_iload_n (at_of tX10_updates 0 6 rfl) rfl ?_
              refine go_aload_n (at_of tX10_updates 0 7 rfl) rfl ?_
              refine go_getf fl_X10_187 rfl G_109 (at_of tX10_updates 0 8 rfl) ?_
              refine go_icmp_ge (tgt := 92) (at_of tX10_updates 0 9 rfl) (by decide) (fun h13 => ?_) (fun h13 => ?_)
              · exfalso; omega
              refine go_aload_n (at_of tX10_updates 0 10 rfl) rfl ?_
              refine go_getr (q := 124) fl_X10_68 rfl G_109 (by first | exact (hS _ _ rfl).trans rfl | exact (hS1 _ _ rfl).trans rfl | exact (hS2 _ _ rfl).trans rfl | exact (hS3 _ _ rfl).trans rfl | exact (hS4 _ _ rfl).trans rfl) (at_of tX10_updates 0 11 rfl) ?_
              refine go_iload_n (at_of tX10_updates 0 12 rfl) rfl ?_
              refine go_aload_n (at_of tX10_updates 0 13 rfl) rfl ?_
              refine go_getr (q := 120) fl_X10_50 rfl G_109 (by first | exact (hS _ _ rfl).trans rfl | exact (hS1 _ _ rfl).trans rfl | exact (hS2 _ _ rfl).trans rfl | exact (hS3 _ _ rfl).trans rfl | exact (hS4 _ _ rfl).trans rfl) (at_of tX10_updates 0 14 rfl) ?_
              refine go_iload_n (at_of tX10_updates 0 15 rfl) rfl ?_
              refine go_bald G_120 (by omega) (by omega) (at_of tX10_updates 1 0 rfl) ?_
              rw [hlk]
              refine go_if_ne (tgt := 38) (at_of tX10_updates 1 1 rfl) (by decide) (fun h27 => ?_) (fun h27 => ?_)
              rotate_left
              · exfalso; exact hl h27
              refine go_aload_n (at_of tX10_updates 1 6 rfl) rfl ?_
              refine go_getr (q := 110) fl_X10_7 rfl G_109 (by first | exact (hS _ _ rfl).trans rfl | exact (hS1 _ _ rfl).trans rfl | exact (hS2 _ _ rfl).trans rfl | exact (hS3 _ _ rfl).trans rfl | exact (hS4 _ _ rfl).trans rfl) (at_of tX10_updates 1 7 rfl) ?_
              refine go_sipush (at_of tX10_updates 1 8 rfl) (by decide) ?_
              refine go_iload_n (at_of tX10_updates 1 9 rfl) rfl ?_
              refine go_iadd (at_of tX10_updates 1 10 rfl) (by unfold in32; omega) ?_
              refine go_iald G_110 (by omega) (by omega) (at_of tX10_updates 1 11 rfl) ?_
              rw [eqf, ← hv]
              refine go_goto (tgt := 56) (at_of tX10_updates 1 12 rfl) (by decide) ?_
              refine go_iast1 G_124 (by omega) (by omega) (at_of tX10_updates 2 0 rfl) ?_
              refine go_iload_n (at_of tX10_updates 2 1 rfl) rfl ?_
              refine go_if_ne (tgt := 80) (at_of tX10_updates 2 2 rfl) (by decide) (fun h58 => ?_) (fun h58 => ?_)
              · exfalso; omega
              refine go_aload_n (at_of tX10_updates 2 3 rfl) rfl ?_
              refine go_getr (q := 124) fl_X10_68 rfl G_109 (by first | exact (hS _ _ rfl).trans rfl | exact (hS1 _ _ rfl).trans rfl | exact (hS2 _ _ rfl).trans rfl | exact (hS3 _ _ rfl).trans rfl | exact (hS4 _ _ rfl).trans rfl) (at_of tX10_updates 2 4 rfl) ?_
              refine go_iload_n (at_of tX10_updates 2 5 rfl) rfl ?_
              refine go_iald G_124 (by omega) (by omega) (at_of tX10_updates 2 6 rfl) ?_
              rw [M1_eq rfl]
              refine go_aload_n (at_of tX10_updates 2 7 rfl) rfl ?_
              refine go_getr (q := 110) fl_X10_7 rfl G_109 (by first | exact (hS _ _ rfl).trans rfl | exact (hS1 _ _ rfl).trans rfl | exact (hS2 _ _ rfl).trans rfl | exact (hS3 _ _ rfl).trans rfl | exact (hS4 _ _ rfl).trans rfl) (at_of tX10_updates 2 8 rfl) ?_
              refine go_sipush (at_of tX10_updates 2 9 rfl) (by decide) ?_
              refine go_iload_n (at_of tX10_updates 2 10 rfl) rfl ?_
              refine go_iadd (at_of tX10_updates 2 11 rfl) (by unfold in32; omega) ?_
              refine go_iald G_110 (by omega) (by omega) (at_of tX10_updates 2 12 rfl) ?_
              rw [M1_ne (by omega), eqf]
              refine go_icmp_eq (tgt := 84) (at_of tX10_updates 2 13 rfl) (by decide) (fun h77 => ?_) (fun h77 => ?_)
              rotate_left
              · exfalso; exact h77 hne
              refine go_iconst (at_of tX10_updates 3 0 rfl) (by unfold in32; omega) ?_
              refine go_istore_n (at_of tX10_updates 3 1 rfl) rfl rfl ?_
              refine go_iinc (at_of tX10_updates 3 2 rfl) rfl (by unfold in32; omega) rfl rfl ?_
              refine go_goto (tgt := 8) (at_of tX10_updates 3 3 rfl) (by decide) ?_
              exact z3 _
            · have h2c : ((1 : Int) = 0 ∨ (1 : Int) = 1) ∧ ((1 : Int) = 1 ↔ ∃ g, 0 ≤ g ∧ g < f + 1 ∧ nw g ≠ Q g) := ⟨Or.inr rfl, fun _ => ⟨f, h0, by omega, hne⟩, fun _ => rfl⟩
              obtain ⟨σb, cb, q1, q2, q3⟩ := z2 _ h2c
              refine ⟨σb, cb, q1, q2, fun b out K => ?_⟩
              have z3 := fun b => q3 b out K
              refine go_iload_n (at_of tX10_updates 0 6 rfl) rfl ?_
              refine go_aload_n (at_of tX10_updates 0 7 rfl) rfl ?_
              refine go_getf fl_X10_187 rfl G_109 (at_of tX10_updates 0 8 rfl) ?_
              refine go_icmp_ge (tgt := 92) (at_of tX10_updates 0 9 rfl) (by decide) (fun h13 => ?_) (fun h13 => ?_)
              · exfalso; omega
              refine go_aload_n (at_of tX10_updates 0 10 rfl) rfl ?_
              refine go_getr (q := 124) fl_X10_68 rfl G_109 (by first | exact (hS _ _ rfl).trans rfl | exact (hS1 _ _ rfl).trans rfl | exact (hS2 _ _ rfl).trans rfl | exact (hS3 _ _ rfl).trans rfl | exact (hS4 _ _ rfl).trans rfl) (at_of tX10_updates 0 11 rfl) ?_
              refine go_iload_n (at_of tX10_updates 0 12 rfl) rfl ?_
              refine go_aload_n (at_of tX10_updates 0 13 rfl) rfl ?_
              refine go_getr (q := 120) fl_X10_50 rfl G_109 (by first | exact (hS _ _ rfl).trans rfl | exact (hS1 _ _ rfl).trans rfl | exact (hS2 _ _ rfl).trans rfl | exact (hS3 _ _ rfl).trans rfl | exact (hS4 _ _ rfl).trans rfl) (at_of tX10_updates 0 14 rfl) ?_
              refine go_iload_n (at_of tX10_updates 0 15 rfl) rfl ?_
              refine go_bald G_120 (by omega) (by omega) (at_of tX10_updates 1 0 rfl) ?_
              rw [hlk]
              refine go_if_ne (tgt := 38) (at_of tX10_updates 1 1 rfl) (by decide) (fun h27 => ?_) (fun h27 => ?_)
              rotate_left
              · exfalso; exact hl h27
              refine go_aload_n (at_of tX10_updates 1 6 rfl) rfl ?_
              refine go_getr (q := 110) fl_X10_7 rfl G_109 (by first | exact (hS _ _ rfl).trans rfl | exact (hS1 _ _ rfl).trans rfl | exact (hS2 _ _ rfl).trans rfl | exact (hS3 _ _ rfl).trans rfl | exact (hS4 _ _ rfl).trans rfl) (at_of tX10_updates 1 7 rfl) ?_
              refine go_sipush (at_of tX10_updates 1 8 rfl) (by decide) ?_
              refine go_iload_n (at_of tX10_updates 1 9 rfl) rfl ?_
              refine go_iadd (at_of tX10_updates 1 10 rfl) (by unfold in32; omega) ?_
              refine go_iald G_110 (by omega) (by omega) (at_of tX10_updates 1 11 rfl) ?_
              rw [eqf, ← hv]
              refine go_goto (tgt := 56) (at_of tX10_updates 1 12 rfl) (by decide) ?_
              refine go_iast1 G_124 (by omega) (by omega) (at_of tX10_updates 2 0 rfl) ?_
              refine go_iload_n (at_of tX10_updates 2 1 rfl) rfl ?_
              refine go_if_ne (tgt := 80) (at_of tX10_updates 2 2 rfl) (by decide) (fun h58 => ?_) (fun h58 => ?_)
              · exfalso; omega
              refine go_aload_n (at_of tX10_updates 2 3 rfl) rfl ?_
              refine go_getr (q := 124) fl_X10_68 rfl G_109 (by first | exact (hS _ _ rfl).trans rfl | exact (hS1 _ _ rfl).trans rfl | exact (hS2 _ _ rfl).trans rfl | exact (hS3 _ _ rfl).trans rfl | exact (hS4 _ _ rfl).trans rfl) (at_of tX10_updates 2 4 rfl) ?_
              refine go_iload_n (at_of tX10_updates 2 5 rfl) rfl ?_
              refine go_iald G_124 (by omega) (by omega) (at_of tX10_updates 2 6 rfl) ?_
              rw [M1_eq rfl]
              refine go_aload_n (at_of tX10_updates 2 7 rfl) rfl ?_
              refine go_getr (q := 110) fl_X10_7 rfl G_109 (by first | exact (hS _ _ rfl).trans rfl | exact (hS1 _ _ rfl).trans rfl | exact (hS2 _ _ rfl).trans rfl | exact (hS3 _ _ rfl).trans rfl | exact (hS4 _ _ rfl).trans rfl) (at_of tX10_updates 2 8 rfl) ?_
              refine go_sipush (at_of tX10_updates 2 9 rfl) (by decide) ?_
              refine go_iload_n (at_of tX10_updates 2 10 rfl) rfl ?_
              refine go_iadd (at_of tX10_updates 2 11 rfl) (by unfold in32; omega) ?_
              refine go_iald G_110 (by omega) (by omega) (at_of tX10_updates 2 12 rfl) ?_
              rw [M1_ne (by omega), eqf]
              refine go_icmp_eq (tgt := 84) (at_of tX10_updates 2 13 rfl) (by decide) (fun h77 => ?_) (fun h77 => ?_)
              · exfalso; exact hne h77
              refine go_iconst (at_of tX10_updates 2 14 rfl) (by unfold in32; omega) ?_
              refine go_goto (tgt := 85) (at_of tX10_updates 2 15 rfl) (by decide) ?_
              refine go_istore_n (at_of tX10_updates 3 1 rfl) rfl rfl ?_
              refine go_iinc (at_of tX10_updates 3 2 rfl) rfl (by unfold in32; omega) rfl rfl ?_
              refine go_goto (tgt := 8) (at_of tX10_updates 3 3 rfl) (by decide) ?_
              exact z3 _
  obtain ⟨σb, cb, ⟨b1, b2, b3⟩, hcb, z1⟩ := key F.toNat 0 0 σ1 (Int.le_refl _) (by omega) ⟨y2.1, fun _ _ _ _ => rfl, fun g a b => by omega⟩ ⟨Or.inl rfl, fun q => absurd q (by decide), fun ⟨g, a, b, _⟩ => by omega⟩
  have e13b : σb.1 109 13 = F := by rw [b2 _ _ (by omega) (by omega), y2.2 _ _ (by omega)]; exact hFd.symm
  have key2 : ∀ (m : Nat) (f c : Int) (σa : St), 0 ≤ f → f + m = F → (σa.2 = σ.2 ∧ (∀ a j : Nat, a ≠ 110 → σa.1 a j = σb.1 a j) ∧ ∀ x, 0 ≤ x → σa.1 110 x.toNat = if 3205 ≤ x ∧ x < 3205 + f then nw (x - 3205) else σb.1 110 x.toNat) → ∃ σ', (σ'.2 = σ.2 ∧ (∀ a j : Nat, a ≠ 110 → σ'.1 a j = σb.1 a j) ∧ ∀ x, 0 ≤ x → σ'.1 110 x.toNat = if 3205 ≤ x ∧ x < 3205 + F then nw (x - 3205) else σb.1 110 x.toNat) ∧ ∀ (b : Nat × Nat) (out : MV × St), (∀ b, Go (fun _ => 0) 7 mX10_updates b 124 [vA 109, vI c, vI F] [] σ' out) → Go (fun _ => 0) 7 mX10_updates b 94 [vA 109, vI c, vI f] [] σa out := by
    intro m
    induction m with
    | zero =>
      intro f c σa h0 h1 hI
      obtain rfl : f = F := by omega
      have e13 : σa.1 109 13 = f := by rw [hI.2.1 _ _ (by omega)]; exact e13b
      exact ⟨σa, hI, fun b out K => by
        refine go_iload_n (at_of tX10_updates 3 6 rfl) rfl ?_
        refine go_aload_n (at_of tX10_updates 3 7 rfl) rfl ?_
        refine go_getf fl_X10_187 rfl G_109 (at_of tX10_updates 3 8 rfl) ?_
        rw [e13]
        refine go_icmp_ge (tgt := 124) (at_of tX10_updates 3 9 rfl) (by decide) (fun h99 => ?_) (fun h99 => ?_)
        rotate_left
        · exfalso; omega
        exact K _⟩
    | succ m ih =>
      intro f c σa h0 h1 hI
      have hS1 : Str σa.2.1 := by rw [hI.1]; exact hS
      have e13 : σa.1 109 13 = F := by rw [hI.2.1 _ _ (by omega)]; exact e13b
      have e124 : σa.1 124 f.toNat = nw f := by rw [hI.2.1 _ _ (by omega)]; exact b3 f h0 (by omega)
      obtain ⟨σ', z1, z2⟩ := ih (f + 1) c (M1 σa 110 (3205 + f) (nw f)) (by omega) (by omega) ⟨hI.1, fun a j q => (M1_ne q).trans (hI.2.1 a j q), fun x hx => by
        by_cases hxf : x = 3205 + f
        · rw [hxf, M1_eq rfl, if_pos (by omega), show 3205 + f - 3205 = f by omega]
        · rw [M1_nj (by omega), hI.2.2 x hx]
          by_cases hr : 3205 ≤ x ∧ x < 3205 + f
          · rw [if_pos hr, if_pos (by omega)]
          · rw [if_neg hr, if_neg (by omega)]⟩
      refine ⟨σ', z1, fun b out K => ?_⟩
      refine go_iload_n (at_of tX10_updates 3 6 rfl) rfl ?_
      refine go_aload_n (at_of tX10_updates 3 7 rfl) rfl ?_
      refine go_getf fl_X10_187 rfl G_109 (at_of tX10_updates 3 8 rfl) ?_
      rw [e13]
      refine go_icmp_ge (tgt := 124) (at_of tX10_updates 3 9 rfl) (by decide) (fun h99 => ?_) (fun h99 => ?_)
      · exfalso; omega
      refine go_aload_n (at_of tX10_updates 3 10 rfl) rfl ?_
      refine go_getr (q := 110) fl_X10_7 rfl G_109 (by first | exact (hS _ _ rfl).trans rfl | exact (hS1 _ _ rfl).trans rfl | exact (hS2 _ _ rfl).trans rfl | exact (hS3 _ _ rfl).trans rfl | exact (hS4 _ _ rfl).trans rfl) (at_of tX10_updates 3 11 rfl) ?_
      refine go_sipush (at_of tX10_updates 3 12 rfl) (by decide) ?_
      refine go_iload_n (at_of tX10_updates 3 13 rfl) rfl ?_
      refine go_iadd (at_of tX10_updates 3 14 rfl) (by unfold in32; omega) ?_
      refine go_aload_n (at_of tX10_updates 3 15 rfl) rfl ?_
      refine go_getr (q := 124) fl_X10_68 rfl G_109 (by first | exact (hS _ _ rfl).trans rfl | exact (hS1 _ _ rfl).trans rfl | exact (hS2 _ _ rfl).trans rfl | exact (hS3 _ _ rfl).trans rfl | exact (hS4 _ _ rfl).trans rfl) (at_of tX10_updates 4 0 rfl) ?_
      refine go_iload_n (at_of tX10_updates 4 1 rfl) rfl ?_
      refine go_iald G_124 (by omega) (by omega) (at_of tX10_updates 4 2 rfl) ?_
      rw [e124]
      refine go_iast1 G_110 (by omega) (by omega) (at_of tX10_updates 4 3 rfl) ?_
      refine go_iinc (at_of tX10_updates 4 4 rfl) rfl (by unfold in32; omega) rfl rfl ?_
      refine go_goto (tgt := 94) (at_of tX10_updates 4 5 rfl) (by decide) ?_
      exact z2 _ _ K
  obtain ⟨σ', ⟨x1, x2, x3⟩, z2⟩ := key2 F.toNat 0 cb σb (Int.le_refl _) (by omega) ⟨b1, fun _ _ _ => rfl, fun x hx => by rw [if_neg (by omega)]⟩
  have hbs : ∀ a j : Nat, ¬ (a = 123 ∨ a = 124 ∨ (126 ≤ a ∧ a ≤ 132) ∨ (a = 109 ∧ (j = 28 ∨ j = 32 ∨ j = 33))) → σb.1 a j = σ.1 a j := fun a j q => (b2 a j (by omega) (by omega)).trans (y2.2 a j (by omega))
  have hFr : FrV σ σ' := ⟨x1, fun a j q => by
    by_cases ha : a = 110
    · have z := x3 (j : Int) (by omega)
      rw [show ((j : Int)).toNat = j by omega, if_neg (by omega)] at z
      rw [ha, z]
      exact hbs 110 j (by omega)
    · rw [x2 a j ha]; exact hbs a j (by omega)⟩
  refine ⟨σ', ?_, hFr, hFr.rep hN (fun f f0 f1 => ?_)⟩
  · have hcv : bI (chB R (hdM σ) (vlM σ R (σ.1 109 18) Q) Q = true) = cb := by
      rcases hcb.1 with q | q
      · rw [q]; exact bI_f (fun y => by have := hcb.2.mpr (hch.mpr y); omega)
      · rw [q]; exact bI_t (hch.mp (hcb.2.mp q))
    rw [hcv]
    refine con_of_go mfX10_updates.1 hcb.1 (Nat.le_of_ble_eq_true rfl) rfl (by decide) ?_
    show Go _ _ _ _ 0 [vA _, vT 9 0, vT 9 0] [] _ _
    refine go_aload_n (at_of tX10_updates 0 0 rfl) rfl ?_
    refine go_cV (y1) lk_X10_275 rfl G_109 (at_of tX10_updates 0 1 rfl) rfl (by decide) rfl (Nat.le_of_ble_eq_true rfl) rfl (by first | decide | exact ⟨Nat.zero_le _, Nat.zero_le _⟩) ?_
    refine go_iconst (at_of tX10_updates 0 2 rfl) (by unfold in32; omega) ?_
    refine go_istore_n (at_of tX10_updates 0 3 rfl) rfl rfl ?_
    refine go_iconst (at_of tX10_updates 0 4 rfl) (by unfold in32; omega) ?_
    refine go_istore_n (at_of tX10_updates 0 5 rfl) rfl rfl ?_
    refine z1 _ _ (fun b => ?_)
    refine go_iconst (at_of tX10_updates 3 4 rfl) (by unfold in32; omega) ?_
    refine go_istore_n (at_of tX10_updates 3 5 rfl) rfl rfl ?_
    refine z2 _ _ (fun b => ?_)
    refine go_iload_n (at_of tX10_updates 4 6 rfl) rfl ?_
    first | exact go_reti (at_of tX10_updates 4 7 rfl) rfl | exact go_reti (at_of tX10_updates 4 7 rfl) (le_i (by omega)) | exact go_reti (at_of tX10_updates 4 7 rfl) (le_i (by first | exact bI_t (by omega) | exact bI_f (by omega)))
  · have z := x3 (3205 + f) (by omega)
    show σ'.1 110 (3205 + f).toNat = nw f
    rw [z]
    by_cases hf : f < F
    · rw [if_pos (by omega), show 3205 + f - 3205 = f by omega]
    · rw [if_neg (by omega), hbs 110 _ (by omega), hnw]
      unfold nwQ
      rw [if_neg]
      · exact hN.2.2.1 f f0 f1
      · intro y
        obtain ⟨j, j0, j1, j2⟩ := (thB_iff hU.1.1.1).mp y.2
        have := hFu j j0 (by omega) (by omega)
        omega
end Mod21
