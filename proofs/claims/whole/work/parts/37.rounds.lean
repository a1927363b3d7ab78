/-! Rounds of working out, update, merge. -/
section Rounds
variable {σ : St}
theorem anyF_iff {p : Int → Bool} : ∀ (n : Nat) (i : Int), anyF p n i = true ↔ ∃ j, i ≤ j ∧ j < i + n ∧ p j = true := by
  intro n
  induction n with
  | zero => intro i; exact ⟨fun h => absurd h (by rw [anyF]; decide), fun ⟨j, a, b, _⟩ => by omega⟩
  | succ n ih =>
    intro i
    rw [anyF, Bool.or_eq_true, ih]
    refine ⟨fun h => ?_, fun ⟨j, a, b, c⟩ => ?_⟩
    · rcases h with h | ⟨j, a, b, c⟩
      · exact ⟨i, Int.le_refl _, by omega, h⟩
      · exact ⟨j, by omega, by omega, c⟩
    · by_cases e : j = i
      · exact Or.inl (e ▸ c)
      · exact Or.inr ⟨j, by omega, by omega, c⟩
theorem RepR.eqs {σ' : St} {k : Nat} {R : RowD} (h : RepR σ k R) (hF : ∀ a, 4 + 10 * k ≤ a → a ≤ 7 + 10 * k → ∀ j, σ'.1 a j = σ.1 a j) : RepR σ' k R := by
  obtain ⟨a, b, c, d⟩ := h
  refine ⟨by rw [hF _ (by omega) (by omega)]; exact a, fun w i q1 q2 q3 q4 => ?_, fun x y z => ?_, d⟩
  · unfold fA; rw [hF _ (by omega) (by omega)]; exact b w i q1 q2 q3 q4
  · rw [hF _ (by omega) (by omega), hF _ (by omega) (by omega)]; exact c x y z
theorem RepL.eqs {σ' : St} {k : Nat} {L : LogD} (h : RepL σ k L) (hF : ∀ a, 8 + 10 * k ≤ a → a ≤ 11 + 10 * k → ∀ j, σ'.1 a j = σ.1 a j) : RepL σ' k L := by
  obtain ⟨a, b, ⟨c1, c2, c3, c4⟩, d⟩ := h
  refine ⟨by rw [hF _ (by omega) (by omega)]; exact a, fun x y z => ?_, ⟨?_, ?_, fun j q => ?_, fun j q => ?_⟩, d⟩
  · rw [hF _ (by omega) (by omega), hF _ (by omega) (by omega), hF _ (by omega) (by omega)]; exact b x y z
  · rw [hF _ (by omega) (by omega)]; exact c1
  · rw [hF _ (by omega) (by omega)]; exact c2
  · rw [hF _ (by omega) (by omega)]; exact c3 j q
  · rw [hF _ (by omega) (by omega)]; exact c4 j q
theorem RepP.eqs {σ' : St} {k : Nat} {D : PapD} (h : RepP σ k D) (hF : ∀ a, 4 + 10 * k ≤ a → a ≤ 12 + 10 * k → ∀ j, σ'.1 a j = σ.1 a j) : RepP σ' k D :=
  ⟨h.1.eqs (fun a x y => hF a x (by omega)), h.2.1.eqs (fun a x y => hF a (by omega) (by omega)), fun c x y => by rw [hF _ (by omega) (by omega)]; exact h.2.2 c x y⟩
/-- results set, and little else -/
def FrX (σ σ' : St) (k : Nat) : Prop := σ'.2 = σ.2 ∧ ∀ x j : Nat, ¬ (x = 12 + 10 * k ∨ x = 90 ∨ (99 ≤ x ∧ x ≤ 108) ∨ (x = 98 ∧ 11 ≤ j ∧ j ≤ 15)) → σ'.1 x j = σ.1 x j
def FrW (σ σ' : St) (k : Nat) : Prop := σ'.2 = σ.2 ∧ ∀ x j : Nat, ¬ (x = 12 + 10 * k ∨ x = 90 ∨ (99 ≤ x ∧ x ≤ 107) ∨ (x = 98 ∧ 11 ≤ j ∧ j ≤ 15)) → σ'.1 x j = σ.1 x j
theorem FrW.x {σ' : St} {k : Nat} (h : FrW σ σ' k) : FrX σ σ' k := ⟨h.1, fun x j q => h.2 x j (by omega)⟩
theorem FrX.refl {k : Nat} : FrX σ σ k := ⟨rfl, fun _ _ _ => rfl⟩
theorem FrX.trans {σ' σ'' : St} {k : Nat} (h : FrX σ σ' k) (h' : FrX σ' σ'' k) : FrX σ σ'' k := ⟨h'.1.trans h.1, fun x j q => (h'.2 x j q).trans (h.2 x j q)⟩
theorem FrW.refl {k : Nat} : FrW σ σ k := ⟨rfl, fun _ _ _ => rfl⟩
theorem FrW.trans {σ' σ'' : St} {k : Nat} (h : FrW σ σ' k) (h' : FrW σ' σ'' k) : FrW σ σ'' k := ⟨h'.1.trans h.1, fun x j q => (h'.2 x j q).trans (h.2 x j q)⟩
theorem FrW.past {σ' : St} {pi : Nat → Nat} {A : PastD} {Q : Int → Int} (h : FrW σ σ' (pi A.2.1)) (hA : PastR σ pi A) (hQ : ∀ c, 0 ≤ c → c < 20 → σ'.1 (12 + 10 * pi A.2.1) c.toNat = Q c) : PastR σ' pi (edA A ((A.1 A.2.1).1, (A.1 A.2.1).2.1, Q)) := by
  obtain ⟨hp, hd, hu, hle, hrep⟩ := hA
  have hk7 := (hp.1 A.2.1 (by omega)).2
  refine ⟨by rw [h.1]; exact hp, (h.2 1 1 (by omega)).trans hd, (h.2 1 2 (by omega)).trans hu, hle, fun j hj => ?_⟩
  have hj : j ≤ A.2.1 + A.2.2 := hj
  have hj7 := (hp.1 j (by omega)).2
  show RepP σ' (pi j) (if j = A.2.1 then _ else A.1 j)
  by_cases e : j = A.2.1
  · rw [if_pos e, e]
    have r := hrep A.2.1 (by omega)
    exact ⟨r.1.eqs (fun a x y i => h.2 a i (by omega)), r.2.1.eqs (fun a x y i => h.2 a i (by omega)), hQ⟩
  · rw [if_neg e]
    have hne : pi j ≠ pi A.2.1 := fun q => e (hp.2 j A.2.1 (by omega) (by omega) q)
    exact (hrep j (by omega)).eqs (fun a x y i => h.2 a i (by omega))
theorem FrX.wh {σ' : St} {k : Nat} (h : FrX σ σ' k) (hk : k < 8) (hW : WH σ) : WH σ' := by
  have e0 : σ'.1 98 0 = σ.1 98 0 := h.2 98 0 (by omega)
  have e1 : σ'.1 98 1 = σ.1 98 1 := h.2 98 1 (by omega)
  exact ⟨by rw [e0]; exact hW.1, by rw [e0]; exact hW.2.1, by rw [e1]; exact hW.2.2.1, by rw [e1]; exact hW.2.2.2⟩
theorem FrW.wh {σ' : St} {k : Nat} (h : FrW σ σ' k) (hk : k < 8) (hW : WH σ) : WH σ' := h.x.wh hk hW
/-- whether a field is there; the results of a round, and whether one changed -/
def thB (R : RowD) (f : Int) : Bool := anyF (fun j => decide (R.1 1 j = f)) R.2.1.toNat 0
def nwQ (R : RowD) (hd val Q : Int → Int) : Int → Int := fun f => if hd f = 0 ∧ thB R f = true then val f else Q f
def chB (R : RowD) (hd val Q : Int → Int) : Bool := anyF (fun j => decide (R.1 1 j ≠ -1 ∧ hd (R.1 1 j) = 0 ∧ val (R.1 1 j) ≠ Q (R.1 1 j))) R.2.1.toNat 0
theorem thB_iff {R : RowD} {f : Int} (hn : 0 ≤ R.2.1) : thB R f = true ↔ ∃ j, 0 ≤ j ∧ j < R.2.1 ∧ R.1 1 j = f := by
  unfold thB
  rw [anyF_iff]
  exact ⟨fun ⟨j, a, b, c⟩ => ⟨j, a, by omega, of_decide_eq_true c⟩, fun ⟨j, a, b, c⟩ => ⟨j, a, by omega, decide_eq_true c⟩⟩
theorem chB_iff {R : RowD} {hd val Q : Int → Int} (hn : 0 ≤ R.2.1) : chB R hd val Q = true ↔ ∃ j, 0 ≤ j ∧ j < R.2.1 ∧ R.1 1 j ≠ -1 ∧ hd (R.1 1 j) = 0 ∧ val (R.1 1 j) ≠ Q (R.1 1 j) := by
  unfold chB
  rw [anyF_iff]
  exact ⟨fun ⟨j, a, b, c⟩ => ⟨j, a, by omega, of_decide_eq_true c⟩, fun ⟨j, a, b, c⟩ => ⟨j, a, by omega, decide_eq_true c⟩⟩
def wkF (R : RowD) (hd : Int → Int) (vf : (Int → Int) → Int → Int) : Nat → (Int → Int) → Int × (Int → Int)
  | 0, Q => (0, Q)
  | m + 1, Q => if chB R hd (vf Q) Q = true then (1 + (wkF R hd vf m (nwQ R hd (vf Q) Q)).1, (wkF R hd vf m (nwQ R hd (vf Q) Q)).2) else (0, nwQ R hd (vf Q) Q)
/-- a field's value by the office's numbers -/
def vlS (σ : St) (R : RowD) (rc : Int) (Q : Int → Int) (f : Int) : Int := valF R Q (KVs σ) (σ.1 98 0) (σ.1 98 1) (σ.1 93 f.toNat) (σ.1 94 f.toNat) (σ.1 97 (rc * 3 + σ.1 94 f.toNat).toNat)
def hdS (σ : St) (f : Int) : Int := σ.1 95 f.toNat
/-- fields and records are as they may be -/
def FkW (σ : St) (R : RowD) : Prop := ∀ i, 0 ≤ i → i < R.2.1 → R.1 1 i ≠ -1 → fkB (σ.1 93 (R.1 1 i).toNat) (σ.1 94 (R.1 1 i).toNat)
def RcW (σ : St) : Prop := ∀ j : Nat, j < 15 → 0 ≤ σ.1 97 j ∧ σ.1 97 j ≤ 9999
theorem nwQ_W {R : RowD} {rc : Int} {Q : Int → Int} (hW : WH σ) (hP : LastE R ∧ QW Q ∧ SgW R ∧ fcN R ≤ 20 ∧ EndW R) (hF : FkW σ R) (hRc : RcW σ) (hr : 0 ≤ rc ∧ rc < 5) : QW (nwQ R (hdS σ) (vlS σ R rc Q) Q) := by
  intro c c0 c1
  unfold nwQ
  split
  · rename_i h
    obtain ⟨j, j0, j1, j2⟩ := (thB_iff hP.1.1).mp h.2
    have h3 : R.1 1 j ≠ -1 := by omega
    have h4 := hF j j0 j1 h3
    rw [j2] at h4
    unfold vlS
    by_cases h5 : 0 ≤ σ.1 94 c.toNat ∧ σ.1 94 c.toNat < 3
    · exact valF_le hP.1 (sgS_bound hP.2.1 hP.1 hP.2.2.1 hP.2.2.2.1) hP.2.2.2.2 hW.1 ⟨hW.2.2.1, hW.2.2.2⟩ (hRc _ (by omega))
    · unfold fkB at h4
      have h6 : σ.1 93 c.toNat ≠ 114 := by omega
      have e : valF R Q (KVs σ) (σ.1 98 0) (σ.1 98 1) (σ.1 93 c.toNat) (σ.1 94 c.toNat) (σ.1 97 (rc * 3 + σ.1 94 c.toNat).toNat) = valF R Q (KVs σ) (σ.1 98 0) (σ.1 98 1) (σ.1 93 c.toNat) (σ.1 94 c.toNat) 0 := by
        unfold valF; rw [if_neg h6, if_neg h6]
      rw [e]
      exact valF_le hP.1 (sgS_bound hP.2.1 hP.1 hP.2.2.1 hP.2.2.2.1) hP.2.2.2.2 hW.1 ⟨hW.2.2.1, hW.2.2.2⟩ ⟨by omega, by omega⟩
  · exact hP.2.1 c c0 c1
/-- those numbers stay -/
theorem FrX.vl {σ' : St} {k : Nat} (h : FrX σ σ' k) (hk : k < 8) (R : RowD) (rc : Int) : vlS σ' R rc = vlS σ R rc ∧ hdS σ' = hdS σ ∧ (FkW σ R → FkW σ' R) ∧ (RcW σ → RcW σ') ∧ KVs σ' = KVs σ := by
  have eK : KVs σ' = KVs σ := by
    unfold KVs
    rw [show clF σ' 84 8 = clF σ 84 8 by funext x; unfold clF cl; rw [h.2 _ _ (by omega)], show clF σ' 86 8 = clF σ 86 8 by funext x; unfold clF cl; rw [h.2 _ _ (by omega)]]
  refine ⟨?_, ?_, fun q i a b c => ?_, fun q j a => ?_, eK⟩
  · funext Q f
    unfold vlS
    rw [eK, h.2 98 0 (by omega), h.2 98 1 (by omega), h.2 93 _ (by omega), h.2 94 _ (by omega), h.2 97 _ (by omega)]
  · funext f; unfold hdS; exact h.2 95 _ (by omega)
  · rw [h.2 93 _ (by omega), h.2 94 _ (by omega)]; exact q i a b c
  · rw [h.2 97 _ (by omega)]; exact q j a
theorem FrW.vl {σ' : St} {k : Nat} (h : FrW σ σ' k) (hk : k < 8) (R : RowD) (rc : Int) : vlS σ' R rc = vlS σ R rc ∧ hdS σ' = hdS σ ∧ (FkW σ R → FkW σ' R) ∧ (RcW σ → RcW σ') ∧ KVs σ' = KVs σ := h.x.vl hk R rc
theorem LayR.eqs {σ' : St} {R : RowD} {Q KV : Int → Int} {w h : Int} (hl : LayR σ R Q KV w h) (hF : ∀ a j : Nat, 98 ≤ a → a ≤ 107 → σ'.1 a j = σ.1 a j) : LayR σ' R Q KV w h := by
  obtain ⟨y1, y2, y3, y4, y5, ⟨y6, y7, y8, y9⟩, y10⟩ := hl
  refine ⟨fun u a b c => ?_, fun q a b => ?_, fun q s a b c d => ?_, fun q a b => ?_, fun q t a b c d => ?_, ⟨?_, ?_, ?_, ?_⟩, ?_⟩
  · rw [hF _ _ (by omega) (by omega), hF _ _ (by omega) (by omega)]; exact y1 u a b c
  · rw [hF _ _ (by omega) (by omega)]; exact y2 q a b
  · rw [hF _ _ (by omega) (by omega)]; exact y3 q s a b c d
  · rw [hF _ _ (by omega) (by omega)]; exact y4 q a b
  · rw [hF _ _ (by omega) (by omega), hF _ _ (by omega) (by omega)]; exact y5 q t a b c d
  · rw [hF _ _ (by omega) (by omega)]; exact y6
  · rw [hF _ _ (by omega) (by omega)]; exact y7
  · rw [hF _ _ (by omega) (by omega)]; exact y8
  · rw [hF _ _ (by omega) (by omega), hF _ _ (by omega) (by omega)]; exact y9
  · rw [hF _ _ (by omega) (by omega)]; exact y10
def chS (R : RowD) (hd val Q : Int → Int) (ch i : Int) : Int := if R.1 1 i ≠ -1 ∧ hd (R.1 1 i) = 0 ∧ val (R.1 1 i) ≠ Q (R.1 1 i) then 1 else ch
theorem con_workRound (hS : Str σ.2.1) {pi : Nat → Nat} {A : PastD} (hA : PastR σ pi A) (hW : WH σ) (hP : LayP (A.1 A.2.1)) (hFk : FkW σ (A.1 A.2.1).1) {rc : Int} (hrc : 0 ≤ rc ∧ rc < 5) : ∃ σ', Con 5 mX9_workRound 0 0 [vA 0, vI rc] σ (vI (bI (chB (A.1 A.2.1).1 (hdS σ) (vlS σ (A.1 A.2.1).1 rc (A.1 A.2.1).2.2) (A.1 A.2.1).2.2 = true)), σ') ∧ FrW σ σ' (pi A.2.1) ∧ ∀ c, 0 ≤ c → c < 20 → σ'.1 (12 + 10 * pi A.2.1) c.toNat = (nwQ (A.1 A.2.1).1 (hdS σ) (vlS σ (A.1 A.2.1).1 rc (A.1 A.2.1).2.2) (A.1 A.2.1).2.2) c := by
  obtain ⟨hp, hd, hu, hle, hrep⟩ := id hA
  have hk7 := (hp.1 A.2.1 (by omega)).2
  have hk : pi A.2.1 < 8 := by omega
  have hD := hrep A.2.1 (by omega)
  have hR := hD.1
  have hL := hD.2.1.2.2.1
  have hn := hR.1
  obtain ⟨hw1, hw2, hw3⟩ := hR.2.2.2
  have hm := hD.2.1.1
  obtain ⟨l1, l2, l3⟩ := hD.2.1.2.2.2
  obtain ⟨g1, g2, g3, g4, g5, g6, g7, g8, g9, g10⟩ := gamk _ hk
  obtain ⟨p1, p2, p3, p4, p5, p6, p7, p8, p9⟩ := strk hS _ hk
  have hn0 := hP.1.1
  obtain ⟨σ1, c1, c2, c3, c4⟩ := con_layArrange hS hk hR hW hP.1 (Q := (A.1 A.2.1).2.2) (fun c a b => ⟨hD.2.2 c a b, (hP.2.1 c a b).1⟩) hP.2.2.1 hP.b
  have hS1 : Str σ1.2.1 := by rw [c2]; exact hS
  have key := loop_up (α := Int) (Rep := fun σ' ch i => (σ'.2 = σ1.2 ∧ ∀ x j : Nat, x ≠ 12 + 10 * pi A.2.1 → x ≠ 90 → σ'.1 x j = σ1.1 x j) ∧ 0 ≤ i ∧
      (∀ f, 0 ≤ f → f < 20 → (((hdS σ) f = 0 ∧ ∃ j, 0 ≤ j ∧ j < i ∧ (A.1 A.2.1).1.1 1 j = f) → σ'.1 (12 + 10 * pi A.2.1) f.toNat = (vlS σ (A.1 A.2.1).1 rc (A.1 A.2.1).2.2) f) ∧ (¬ ((hdS σ) f = 0 ∧ ∃ j, 0 ≤ j ∧ j < i ∧ (A.1 A.2.1).1.1 1 j = f) → σ'.1 (12 + 10 * pi A.2.1) f.toNat = (A.1 A.2.1).2.2 f)) ∧
      (ch = 0 ∨ ch = 1) ∧ (ch = 1 ↔ ∃ j, 0 ≤ j ∧ j < i ∧ (A.1 A.2.1).1.1 1 j ≠ -1 ∧ (hdS σ) ((A.1 A.2.1).1.1 1 j) = 0 ∧ (vlS σ (A.1 A.2.1).1 rc (A.1 A.2.1).2.2) ((A.1 A.2.1).1.1 1 j) ≠ (A.1 A.2.1).2.2 ((A.1 A.2.1).1.1 1 j)))
    (f := chS (A.1 A.2.1).1 (hdS σ) (vlS σ (A.1 A.2.1).1 rc (A.1 A.2.1).2.2) (A.1 A.2.1).2.2) (hi := (A.1 A.2.1).1.2.1)
    (G := fun b ch i σ out => ∀ v5 v6, Go (fun _ => 0) 5 mX9_workRound b 32 [vA 0, vI rc, vA (3 + 10 * pi A.2.1), vI ch, vI i, v5, v6] [] σ out) (fun σ2 ch i hh hlo => ?_) ((A.1 A.2.1).1.2.1).toNat σ1 0 0 ⟨⟨rfl, fun _ _ _ _ => rfl⟩, by omega, fun f a b => ⟨fun ⟨_, j, q1, q2, _⟩ => by omega, fun _ => by rw [c3 _ _ (by omega)]; exact hD.2.2 f a b⟩, Or.inl rfl, ⟨fun q => absurd q (by decide), fun ⟨j, q1, q2, _⟩ => by omega⟩⟩ (by omega)
  · obtain ⟨σ2, ⟨⟨i0, i1⟩, i2, i3, i4, i5⟩, i6⟩ := key
    refine ⟨σ2, ?_, ⟨i0.trans c2, fun x j q => (i1 x j (by omega) (by omega)).trans (c3 x j (by omega))⟩, fun c a b => ?_⟩
    · have hS2 : Str σ2.2.1 := by rw [i0]; exact hS1
      have hR2 : RepR σ2 (pi A.2.1) (A.1 A.2.1).1 := hR.eqs (fun a x y j => by rw [i1 a j (by omega) (by omega), c3 a j (by omega)])
      obtain ⟨chf, hchf⟩ : ∃ chf, chf = upX (chS (A.1 A.2.1).1 (hdS σ) (vlS σ (A.1 A.2.1).1 rc (A.1 A.2.1).2.2) (A.1 A.2.1).2.2) ((A.1 A.2.1).1.2.1).toNat 0 0 := ⟨_, rfl⟩
      rw [← hchf] at i4 i5 i6
      have ech : bI (chB (A.1 A.2.1).1 (hdS σ) (vlS σ (A.1 A.2.1).1 rc (A.1 A.2.1).2.2) (A.1 A.2.1).2.2 = true) = chf := by
        rcases i4 with z | z
        · rw [z]; exact bI_f (fun q => absurd (i5.mpr ((chB_iff hn0).mp q)) (by omega))
        · rw [z]; exact bI_t ((chB_iff hn0).mpr (i5.mp z))
      rw [ech]
      refine con_of_go mfX9_workRound.1 (by rcases i4 with z | z; exact Or.inl z; exact Or.inr z) (Nat.le_of_ble_eq_true rfl) rfl (by decide) ?_
      show Go _ _ _ _ 0 [vA _, vI _, vT 9 0, vT 9 0, vT 9 0, vT 9 0, vT 9 0] [] _ _
      refine go_aload_n (at_of tX9_workRound 0 0 rfl) rfl ?_
      refine go_getr (q := 1) fl_X9_16 rfl G_0 ((hS _ _ rfl).trans rfl) (at_of tX9_workRound 0 1 rfl) ?_
      refine go_cV (con_now hS hA) lk_X9_114 rfl g1_ (at_of tX9_workRound 0 2 rfl) rfl (by decide) rfl (Nat.le_of_ble_eq_true rfl) rfl (by first | decide | exact ⟨Nat.zero_le _, Nat.zero_le _⟩) ?_
      refine go_astore_n (at_of tX9_workRound 0 3 rfl) rfl rfl ?_
      refine go_aload_n (at_of tX9_workRound 0 4 rfl) rfl ?_
      refine go_getr (q := 98) fl_X9_58 rfl G_0 ((hS _ _ rfl).trans rfl) (at_of tX9_workRound 0 5 rfl) ?_
      refine go_aload_n (at_of tX9_workRound 0 6 rfl) rfl ?_
      refine go_getr (q := (4 + 10 * pi A.2.1)) fl_X9_131 rfl g1 p1 (at_of tX9_workRound 0 7 rfl) ?_
      refine go_aload_n (at_of tX9_workRound 0 8 rfl) rfl ?_
      refine go_getr (q := (12 + 10 * pi A.2.1)) fl_X9_348 rfl g1 p3 (at_of tX9_workRound 0 9 rfl) ?_
      refine go_aload_n (at_of tX9_workRound 0 10 rfl) rfl ?_
      refine go_getr (q := 83) fl_X9_30 rfl G_0 ((hS _ _ rfl).trans rfl) (at_of tX9_workRound 0 11 rfl) ?_
      refine go_cV (c1) lk_X9_459 rfl G_98 (at_of tX9_workRound 0 12 rfl) rfl (by decide) rfl (Nat.le_of_ble_eq_true rfl) rfl (by first | decide | exact ⟨Nat.zero_le _, Nat.zero_le _⟩) ?_
      refine go_iconst (at_of tX9_workRound 0 13 rfl) (by unfold in32; omega) ?_
      refine go_istore_n (at_of tX9_workRound 0 14 rfl) rfl rfl ?_
      refine go_iconst (at_of tX9_workRound 0 15 rfl) (by unfold in32; omega) ?_
      refine go_istore (at_of tX9_workRound 1 0 rfl) rfl rfl ?_
      refine i6 _ _ (fun b => ?_) _ _
      intro v5 v6
      refine go_iload (at_of tX9_workRound 1 1 rfl) rfl rfl ?_
      refine go_aload_n (at_of tX9_workRound 1 2 rfl) rfl ?_
      refine go_getr (q := (4 + 10 * pi A.2.1)) fl_X9_131 rfl g1 (strk hS2 _ hk).1 (at_of tX9_workRound 1 3 rfl) ?_
      refine go_cV (r_allUnits hS2 hk hR2) lk_X9_378 rfl g2 (at_of tX9_workRound 1 4 rfl) rfl (by decide) rfl (Nat.le_of_ble_eq_true rfl) rfl (by first | decide | exact ⟨Nat.zero_le _, Nat.zero_le _⟩) ?_
      refine go_icmp_ge (tgt := 125) (at_of tX9_workRound 1 5 rfl) (by decide) (fun h41 => ?_) (fun h41 => ?_)
      rotate_left
      · exfalso; omega
      refine go_iload_n (at_of tX9_workRound 3 13 rfl) rfl ?_
      first | exact go_reti (at_of tX9_workRound 3 14 rfl) rfl | exact go_reti (at_of tX9_workRound 3 14 rfl) (le_i (by omega)) | exact go_reti (at_of tX9_workRound 3 14 rfl) (le_i (by first | exact bI_t (by omega) | exact bI_f (by omega)))
    · unfold nwQ
      have i3' := i3 c a b
      by_cases z : (hdS σ) c = 0 ∧ thB (A.1 A.2.1).1 c = true
      · rw [if_pos z]; exact i3'.1 ⟨z.1, (thB_iff hn0).mp z.2⟩
      · rw [if_neg z]; exact i3'.2 (fun q => z ⟨q.1, (thB_iff hn0).mpr q.2⟩)
  · obtain ⟨⟨i0, i1⟩, i2, i3, i4, i5⟩ := hh
    have hS2 : Str σ2.2.1 := by rw [i0]; exact hS1
    have hR2 : RepR σ2 (pi A.2.1) (A.1 A.2.1).1 := hR.eqs (fun a x y j => by rw [i1 a j (by omega) (by omega), c3 a j (by omega)])
    obtain ⟨q1, q2, q3, q4, q5, q6, q7, q8, q9⟩ := strk hS2 _ hk
    by_cases hf : (A.1 A.2.1).1.1 1 i = -1
    · have e9 : chS (A.1 A.2.1).1 (hdS σ) (vlS σ (A.1 A.2.1).1 rc (A.1 A.2.1).2.2) (A.1 A.2.1).2.2 ch i = ch := if_neg (fun z => z.1 hf)
      rw [e9]
      refine ⟨σ2, ⟨⟨i0, i1⟩, by omega, fun f a b => ?_, i4, ?_⟩, fun b out K v5 v6 => ?_⟩
      · have i3' := i3 f a b
        refine ⟨fun ⟨z, j, x0, x1, x2⟩ => i3'.1 ⟨z, j, x0, ?_, x2⟩, fun z => i3'.2 (fun ⟨y, j, x0, x1, x2⟩ => z ⟨y, j, x0, by omega, x2⟩)⟩
        by_cases e : j = i
        · rw [e, hf] at x2; omega
        · omega
      · refine ⟨fun z => ?_, fun ⟨j, x0, x1, x2, x3⟩ => i5.mpr ⟨j, x0, ?_, x2, x3⟩⟩
        · obtain ⟨j, x0, x1, x2⟩ := i5.mp z
          exact ⟨j, x0, by omega, x2⟩
        · by_cases e : j = i
          · exact absurd (e ▸ hf) x2
          · omega
      · skip
        refine go_iload (at_of tX9_workRound 1 1 rfl) rfl rfl ?_
        refine go_aload_n (at_of tX9_workRound 1 2 rfl) rfl ?_
        refine go_getr (q := (4 + 10 * pi A.2.1)) fl_X9_131 rfl g1 q1 (at_of tX9_workRound 1 3 rfl) ?_
        refine go_cV (r_allUnits hS2 hk hR2) lk_X9_378 rfl g2 (at_of tX9_workRound 1 4 rfl) rfl (by decide) rfl (Nat.le_of_ble_eq_true rfl) rfl (by first | decide | exact ⟨Nat.zero_le _, Nat.zero_le _⟩) ?_
        refine go_icmp_ge (tgt := 125) (at_of tX9_workRound 1 5 rfl) (by decide) (fun h41 => ?_) (fun h41 => ?_)
        · exfalso; omega
        refine go_aload_n (at_of tX9_workRound 1 6 rfl) rfl ?_
        refine go_getr (q := (4 + 10 * pi A.2.1)) fl_X9_131 rfl g1 q1 (at_of tX9_workRound 1 7 rfl) ?_
        refine go_iconst (at_of tX9_workRound 1 8 rfl) (by unfold in32; omega) ?_
        refine go_iload (at_of tX9_workRound 1 9 rfl) rfl rfl ?_
        refine go_cV (r_fact hS2 hk hR2 (by omega) (by omega)) lk_X9_168 rfl g2 (at_of tX9_workRound 1 10 rfl) rfl (by decide) rfl (Nat.le_of_ble_eq_true rfl) rfl (by first | decide | exact ⟨Nat.zero_le _, Nat.zero_le _⟩) ?_
        refine go_istore (at_of tX9_workRound 1 11 rfl) rfl rfl ?_
        refine go_iload (at_of tX9_workRound 1 12 rfl) rfl rfl ?_
        refine go_iconst (at_of tX9_workRound 1 13 rfl) (by unfold in32; omega) ?_
        refine go_icmp_eq (tgt := 119) (at_of tX9_workRound 1 14 rfl) (by decide) (fun h59 => ?_) (fun h59 => ?_)
        rotate_left
        · exfalso; exact h59 hf
        refine go_iinc (at_of tX9_workRound 3 11 rfl) rfl (by unfold in32; omega) rfl rfl ?_
        refine go_goto (tgt := 32) (at_of tX9_workRound 3 12 rfl) (by decide) ?_
        exact K _ _ _
    · obtain ⟨f0, f20, f64⟩ := (hP.2.2.1 i i2 (by omega)).resolve_left hf
      have i3' := i3 ((A.1 A.2.1).1.1 1 i) f0 f20
      have e95 : σ2.1 95 ((A.1 A.2.1).1.1 1 i).toNat = (hdS σ) ((A.1 A.2.1).1.1 1 i) := (i1 _ _ (by omega) (by omega)).trans (c3 _ _ (by omega))
      by_cases hh : (hdS σ) ((A.1 A.2.1).1.1 1 i) = 0
      · have hl2 := c4.eqs (σ' := σ2) (fun a j x y => i1 a j (by omega) (by omega))
        have e93 : σ2.1 93 ((A.1 A.2.1).1.1 1 i).toNat = σ.1 93 ((A.1 A.2.1).1.1 1 i).toNat := (i1 _ _ (by omega) (by omega)).trans (c3 _ _ (by omega))
        have e94 : σ2.1 94 ((A.1 A.2.1).1.1 1 i).toNat = σ.1 94 ((A.1 A.2.1).1.1 1 i).toNat := (i1 _ _ (by omega) (by omega)).trans (c3 _ _ (by omega))
        obtain ⟨σ3, r1, r2, r3⟩ := con_resultNow hS2 hk hR2 hP.1 hP.2.2.2.2 hP.b hW.1 ⟨hW.2.2.1, hW.2.2.2⟩ hl2 (c := ((A.1 A.2.1).1.1 1 i)) ⟨f0, f20⟩ hrc (by rw [e93, e94]; exact hFk i i2 hlo hf)
        rw [e93, e94, i1 97 _ (by omega) (by omega), c3 97 _ (by omega)] at r1
        obtain ⟨v, hv⟩ : ∃ v, v = (vlS σ (A.1 A.2.1).1 rc (A.1 A.2.1).2.2) ((A.1 A.2.1).1.1 1 i) := ⟨_, rfl⟩
        have r1 : Con 4 mX9_resultNow 0 0 [vA 0, vA (4 + 10 * pi A.2.1), vI ((A.1 A.2.1).1.1 1 i), vI rc] σ2 (vI v, σ3) := by rw [hv]; exact r1
        have hS3 : Str σ3.2.1 := by rw [r2]; exact hS2
        obtain ⟨s1_, s2_, s3_, -⟩ := strk hS3 _ hk
        have e12 : σ3.1 (12 + 10 * pi A.2.1) ((A.1 A.2.1).1.1 1 i).toNat = σ2.1 (12 + 10 * pi A.2.1) ((A.1 A.2.1).1.1 1 i).toNat := r3 _ _ (by omega)
        rw [← hv] at i3'
        have ecs : chS (A.1 A.2.1).1 (hdS σ) (vlS σ (A.1 A.2.1).1 rc (A.1 A.2.1).2.2) (A.1 A.2.1).2.2 ch i = (if ch ≠ 0 then 1 else if v = σ3.1 (12 + 10 * pi A.2.1) ((A.1 A.2.1).1.1 1 i).toNat then 0 else 1) := by
          unfold chS
          rw [← hv, e12]
          by_cases hc0 : ch = 0
          · rw [if_neg (by omega : ¬ ch ≠ 0)]
            by_cases hx : ∃ j, 0 ≤ j ∧ j < i ∧ (A.1 A.2.1).1.1 1 j = ((A.1 A.2.1).1.1 1 i)
            · rw [i3'.1 ⟨hh, hx⟩, if_pos rfl, if_neg, hc0]
              rintro ⟨_, _, z⟩
              obtain ⟨j, x0, x1, x2⟩ := hx
              have := i5.mpr ⟨j, x0, x1, by rw [x2]; exact hf, by rw [x2]; exact hh, by rw [x2, ← hv]; exact z⟩
              omega
            · rw [i3'.2 (fun z => hx z.2)]
              by_cases z : v = (A.1 A.2.1).2.2 ((A.1 A.2.1).1.1 1 i)
              · rw [if_pos z, if_neg (fun y => y.2.2 z), hc0]
              · rw [if_neg z, if_pos ⟨hf, hh, z⟩]
          · rw [if_pos hc0]
            split
            · rfl
            · exact i4.resolve_left hc0
        refine ⟨M1 σ3 (12 + 10 * pi A.2.1) ((A.1 A.2.1).1.1 1 i) v, ⟨⟨r2.trans i0, fun x j y z => ?_⟩, by omega, fun f a b => ?_, ?_, ?_⟩, fun b out K v5 v6 => ?_⟩
        · rw [M1_ne y, r3 x j z]; exact i1 x j y z
        · have i3f := i3 f a b
          by_cases ef : f = ((A.1 A.2.1).1.1 1 i)
          · rw [ef, M1_eq rfl]
            exact ⟨fun _ => hv, fun z => absurd ⟨hh, i, i2, by omega, rfl⟩ z⟩
          · rw [M1_nj (by omega), r3 _ _ (by omega)]
            refine ⟨fun ⟨z, j, x0, x1, x2⟩ => i3f.1 ⟨z, j, x0, ?_, x2⟩, fun z => i3f.2 (fun ⟨y, j, x0, x1, x2⟩ => z ⟨y, j, x0, by omega, x2⟩)⟩
            by_cases e : j = i
            · rw [e] at x2; exact absurd x2.symm ef
            · omega
        · unfold chS; split
          · exact Or.inr rfl
          · exact i4
        · unfold chS
          by_cases z : (A.1 A.2.1).1.1 1 i ≠ -1 ∧ (hdS σ) ((A.1 A.2.1).1.1 1 i) = 0 ∧ (vlS σ (A.1 A.2.1).1 rc (A.1 A.2.1).2.2) ((A.1 A.2.1).1.1 1 i) ≠ (A.1 A.2.1).2.2 ((A.1 A.2.1).1.1 1 i)
          · rw [if_pos z]
            exact ⟨fun _ => ⟨i, i2, by omega, z⟩, fun _ => rfl⟩
          · rw [if_neg z]
            refine ⟨fun y => ?_, fun ⟨j, x0, x1, x2, x3⟩ => i5.mpr ⟨j, x0, ?_, x2, x3⟩⟩
            · obtain ⟨j, x0, x1, x2⟩ := i5.mp y
              exact ⟨j, x0, by omega, x2⟩
            · by_cases e : j = i
              · rw [e] at x2 x3; exact absurd ⟨x2, x3⟩ z
              · omega
        · rw [ecs] at K
          by_cases hc0 : ch = 0
          · rw [if_neg (by omega : ¬ ch ≠ 0)] at K
            by_cases hve : v = σ3.1 (12 + 10 * pi A.2.1) ((A.1 A.2.1).1.1 1 i).toNat
            · rw [if_pos hve] at K
              refine go_iload (at_of tX9_workRound 1 1 rfl) rfl rfl ?_
              refine go_aload_n (at_of tX9_workRound 1 2 rfl) rfl ?_
              refine go_getr (q := (4 + 10 * pi A.2.1)) fl_X9_131 rfl g1 q1 (at_of tX9_workRound 1 3 rfl) ?_
              refine go_cV (r_allUnits hS2 hk hR2) lk_X9_378 rfl g2 (at_of tX9_workRound 1 4 rfl) rfl (by decide) rfl (Nat.le_of_ble_eq_true rfl) rfl (by first | decide | exact ⟨Nat.zero_le _, Nat.zero_le _⟩) ?_
              refine go_icmp_ge (tgt := 125) (at_of tX9_workRound 1 5 rfl) (by decide) (fun h41 => ?_) (fun h41 => ?_)
              · exfalso; omega
              refine go_aload_n (at_of tX9_workRound 1 6 rfl) rfl ?_
              refine go_getr (q := (4 + 10 * pi A.2.1)) fl_X9_131 rfl g1 q1 (at_of tX9_workRound 1 7 rfl) ?_
              refine go_iconst (at_of tX9_workRound 1 8 rfl) (by unfold in32; omega) ?_
              refine go_iload (at_of tX9_workRound 1 9 rfl) rfl rfl ?_
              refine go_cV (r_fact hS2 hk hR2 (by omega) (by omega)) lk_X9_168 rfl g2 (at_of tX9_workRound 1 10 rfl) rfl (by decide) rfl (Nat.le_of_ble_eq_true rfl) rfl (by first | decide | exact ⟨Nat.zero_le _, Nat.zero_le _⟩) ?_
              refine go_istore (at_of tX9_workRound 1 11 rfl) rfl rfl ?_
              refine go_iload (at_of tX9_workRound 1 12 rfl) rfl rfl ?_
              refine go_iconst (at_of tX9_workRound 1 13 rfl) (by unfold in32; omega) ?_
              refine go_icmp_eq (tgt := 119) (at_of tX9_workRound 1 14 rfl) (by decide) (fun h59 => ?_) (fun h59 => ?_)
              · exfalso; exact hf h59
              refine go_aload_n (at_of tX9_workRound 1 15 rfl) rfl ?_
              refine go_getr (q := 92) fl_X9_44 rfl G_0 ((hS2 _ _ rfl).trans rfl) (at_of tX9_workRound 2 0 rfl) ?_
              refine go_iload (at_of tX9_workRound 2 1 rfl) rfl rfl ?_
              refine go_cV (con_isHeld hS2 ⟨f0, f20⟩) lk_X9_466 rfl G_92 (at_of tX9_workRound 2 2 rfl) rfl (by decide) rfl (Nat.le_of_ble_eq_true rfl) rfl (by first | decide | exact ⟨Nat.zero_le _, Nat.zero_le _⟩) ?_
              refine go_if_ne (tgt := 119) (at_of tX9_workRound 2 3 rfl) (by decide) (fun h71 => ?_) (fun h71 => ?_)
              · exfalso; rw [e95] at h71; exact (bI_1.mp h71) hh
              refine go_aload_n (at_of tX9_workRound 2 4 rfl) rfl ?_
              refine go_aload_n (at_of tX9_workRound 2 5 rfl) rfl ?_
              refine go_getr (q := (4 + 10 * pi A.2.1)) fl_X9_131 rfl g1 q1 (at_of tX9_workRound 2 6 rfl) ?_
              refine go_iload (at_of tX9_workRound 2 7 rfl) rfl rfl ?_
              refine go_iload_n (at_of tX9_workRound 2 8 rfl) rfl ?_
              refine go_cV (r1) lk_X9_469 rfl G_0 (at_of tX9_workRound 2 9 rfl) rfl (by decide) rfl (Nat.le_of_ble_eq_true rfl) rfl (by first | decide | exact ⟨Nat.zero_le _, Nat.zero_le _⟩) ?_
              refine go_istore (at_of tX9_workRound 2 10 rfl) rfl rfl ?_
              refine go_iload_n (at_of tX9_workRound 2 11 rfl) rfl ?_
              refine go_if_ne (tgt := 102) (at_of tX9_workRound 2 12 rfl) (by decide) (fun h88 => ?_) (fun h88 => ?_)
              · exfalso; exact h88 hc0
              refine go_iload (at_of tX9_workRound 2 13 rfl) rfl rfl ?_
              refine go_aload_n (at_of tX9_workRound 2 14 rfl) rfl ?_
              refine go_iload (at_of tX9_workRound 2 15 rfl) rfl rfl ?_
              refine go_cV (con_found hS3 hk ⟨f0, f20⟩) lk_X9_327 rfl g1 (at_of tX9_workRound 3 0 rfl) rfl (by decide) rfl (Nat.le_of_ble_eq_true rfl) rfl (by first | decide | exact ⟨Nat.zero_le _, Nat.zero_le _⟩) ?_
              refine go_icmp_eq (tgt := 106) (at_of tX9_workRound 3 1 rfl) (by decide) (fun h99 => ?_) (fun h99 => ?_)
              rotate_left
              · exfalso; exact h99 hve
              refine go_iconst (at_of tX9_workRound 3 4 rfl) (by unfold in32; omega) ?_
              refine go_istore_n (at_of tX9_workRound 3 5 rfl) rfl rfl ?_
              refine go_aload_n (at_of tX9_workRound 3 6 rfl) rfl ?_
              refine go_getr (q := (12 + 10 * pi A.2.1)) fl_X9_348 rfl g1 s3_ (at_of tX9_workRound 3 7 rfl) ?_
              refine go_iload (at_of tX9_workRound 3 8 rfl) rfl rfl ?_
              refine go_iload (at_of tX9_workRound 3 9 rfl) rfl rfl ?_
              refine go_cS (con_setCell g10 (by omega) ⟨f0, f20⟩) lk_X9_473 rfl (at_of tX9_workRound 3 10 rfl) rfl (by decide) rfl (Nat.le_of_ble_eq_true rfl) rfl (by first | decide | exact ⟨Nat.zero_le _, Nat.zero_le _⟩) ?_
              refine go_iinc (at_of tX9_workRound 3 11 rfl) rfl (by unfold in32; omega) rfl rfl ?_
              refine go_goto (tgt := 32) (at_of tX9_workRound 3 12 rfl) (by decide) ?_
              exact K _ _ _
            · rw [if_neg hve] at K
              refine go_iload (at_of tX9_workRound 1 1 rfl) rfl rfl ?_
              refine go_aload_n (at_of tX9_workRound 1 2 rfl) rfl ?_
              refine go_getr (q := (4 + 10 * pi A.2.1)) fl_X9_131 rfl g1 q1 (at_of tX9_workRound 1 3 rfl) ?_
              refine go_cV (r_allUnits hS2 hk hR2) lk_X9_378 rfl g2 (at_of tX9_workRound 1 4 rfl) rfl (by decide) rfl (Nat.le_of_ble_eq_true rfl) rfl (by first | decide | exact ⟨Nat.zero_le _, Nat.zero_le _⟩) ?_
              refine go_icmp_ge (tgt := 125) (at_of tX9_workRound 1 5 rfl) (by decide) (fun h41 => ?_) (fun h41 => ?_)
              · exfalso; omega
              refine go_aload_n (at_of tX9_workRound 1 6 rfl) rfl ?_
              refine go_getr (q := (4 + 10 * pi A.2.1)) fl_X9_131 rfl g1 q1 (at_of tX9_workRound 1 7 rfl) ?_
              refine go_iconst (at_of tX9_workRound 1 8 rfl) (by unfold in32; omega) ?_
              refine go_iload (at_of tX9_workRound 1 9 rfl) rfl rfl ?_
              refine go_cV (r_fact hS2 hk hR2 (by omega) (by omega)) lk_X9_168 rfl g2 (at_of tX9_workRound 1 10 rfl) rfl (by decide) rfl (Nat.le_of_ble_eq_true rfl) rfl (by first | decide | exact ⟨Nat.zero_le _, Nat.zero_le _⟩) ?_
              refine go_istore (at_of tX9_workRound 1 11 rfl) rfl rfl ?_
              refine go_iload (at_of tX9_workRound 1 12 rfl) rfl rfl ?_
              refine go_iconst (at_of tX9_workRound 1 13 rfl) (by unfold in32; omega) ?_
              refine go_icmp_eq (tgt := 119) (at_of tX9_workRound 1 14 rfl) (by decide) (fun h59 => ?_) (fun h59 => ?_)
              · exfalso; exact hf h59
              refine go_aload_n (at_of tX9_workRound 1 15 rfl) rfl ?_
              refine go_getr (q := 92) fl_X9_44 rfl G_0 ((hS2 _ _ rfl).trans rfl) (at_of tX9_workRound 2 0 rfl) ?_
              refine go_iload (at_of tX9_workRound 2 1 rfl) rfl rfl ?_
              refine go_cV (con_isHeld hS2 ⟨f0, f20⟩) lk_X9_466 rfl G_92 (at_of tX9_workRound 2 2 rfl) rfl (by decide) rfl (Nat.le_of_ble_eq_true rfl) rfl (by first | decide | exact ⟨Nat.zero_le _, Nat.zero_le _⟩) ?_
              refine go_if_ne (tgt := 119) (at_of tX9_workRound 2 3 rfl) (by decide) (fun h71 => ?_) (fun h71 => ?_)
              · exfalso; rw [e95] at h71; exact (bI_1.mp h71) hh
              refine go_aload_n (at_of tX9_workRound 2 4 rfl) rfl ?_
              refine go_aload_n (at_of tX9_workRound 2 5 rfl) rfl ?_
              refine go_getr (q := (4 + 10 * pi A.2.1)) fl_X9_131 rfl g1 q1 (at_of tX9_workRound 2 6 rfl) ?_
              refine go_iload (at_of tX9_workRound 2 7 rfl) rfl rfl ?_
              refine go_iload_n (at_of tX9_workRound 2 8 rfl) rfl ?_
              refine go_cV (r1) lk_X9_469 rfl G_0 (at_of tX9_workRound 2 9 rfl) rfl (by decide) rfl (Nat.le_of_ble_eq_true rfl) rfl (by first | decide | exact ⟨Nat.zero_le _, Nat.zero_le _⟩) ?_
              refine go_istore (at_of tX9_workRound 2 10 rfl) rfl rfl ?_
              refine go_iload_n (at_of tX9_workRound 2 11 rfl) rfl ?_
              refine go_if_ne (tgt := 102) (at_of tX9_workRound 2 12 rfl) (by decide) (fun h88 => ?_) (fun h88 => ?_)
              · exfalso; exact h88 hc0
              refine go_iload (at_of tX9_workRound 2 13 rfl) rfl rfl ?_
              refine go_aload_n (at_of tX9_workRound 2 14 rfl) rfl ?_
              refine go_iload (at_of tX9_workRound 2 15 rfl) rfl rfl ?_
              refine go_cV (con_found hS3 hk ⟨f0, f20⟩) lk_X9_327 rfl g1 (at_of tX9_workRound 3 0 rfl) rfl (by decide) rfl (Nat.le_of_ble_eq_true rfl) rfl (by first | decide | exact ⟨Nat.zero_le _, Nat.zero_le _⟩) ?_
              refine go_icmp_eq (tgt := 106) (at_of tX9_workRound 3 1 rfl) (by decide) (fun h99 => ?_) (fun h99 => ?_)
              · exfalso; exact hve h99
              refine go_iconst (at_of tX9_workRound 3 2 rfl) (by unfold in32; omega) ?_
              refine go_goto (tgt := 107) (at_of tX9_workRound 3 3 rfl) (by decide) ?_
              refine go_istore_n (at_of tX9_workRound 3 5 rfl) rfl rfl ?_
              refine go_aload_n (at_of tX9_workRound 3 6 rfl) rfl ?_
              refine go_getr (q := (12 + 10 * pi A.2.1)) fl_X9_348 rfl g1 s3_ (at_of tX9_workRound 3 7 rfl) ?_
              refine go_iload (at_of tX9_workRound 3 8 rfl) rfl rfl ?_
              refine go_iload (at_of tX9_workRound 3 9 rfl) rfl rfl ?_
              refine go_cS (con_setCell g10 (by omega) ⟨f0, f20⟩) lk_X9_473 rfl (at_of tX9_workRound 3 10 rfl) rfl (by decide) rfl (Nat.le_of_ble_eq_true rfl) rfl (by first | decide | exact ⟨Nat.zero_le _, Nat.zero_le _⟩) ?_
              refine go_iinc (at_of tX9_workRound 3 11 rfl) rfl (by unfold in32; omega) rfl rfl ?_
              refine go_goto (tgt := 32) (at_of tX9_workRound 3 12 rfl) (by decide) ?_
              exact K _ _ _
          · rw [if_pos hc0] at K
            refine go_iload (at_of tX9_workRound 1 1 rfl) rfl rfl ?_
            refine go_aload_n (at_of tX9_workRound 1 2 rfl) rfl ?_
            refine go_getr (q := (4 + 10 * pi A.2.1)) fl_X9_131 rfl g1 q1 (at_of tX9_workRound 1 3 rfl) ?_
            refine go_cV (r_allUnits hS2 hk hR2) lk_X9_378 rfl g2 (at_of tX9_workRound 1 4 rfl) rfl (by decide) rfl (Nat.le_of_ble_eq_true rfl) rfl (by first | decide | exact ⟨Nat.zero_le _, Nat.zero_le _⟩) ?_
            refine go_icmp_ge (tgt := 125) (at_of tX9_workRound 1 5 rfl) (by decide) (fun h41 => ?_) (fun h41 => ?_)
            · exfalso; omega
            refine go_aload_n (at_of tX9_workRound 1 6 rfl) rfl ?_
            refine go_getr (q := (4 + 10 * pi A.2.1)) fl_X9_131 rfl g1 q1 (at_of tX9_workRound 1 7 rfl) ?_
            refine go_iconst (at_of tX9_workRound 1 8 rfl) (by unfold in32; omega) ?_
            refine go_iload (at_of tX9_workRound 1 9 rfl) rfl rfl ?_
            refine go_cV (r_fact hS2 hk hR2 (by omega) (by omega)) lk_X9_168 rfl g2 (at_of tX9_workRound 1 10 rfl) rfl (by decide) rfl (Nat.le_of_ble_eq_true rfl) rfl (by first | decide | exact ⟨Nat.zero_le _, Nat.zero_le _⟩) ?_
            refine go_istore (at_of tX9_workRound 1 11 rfl) rfl rfl ?_
            refine go_iload (at_of tX9_workRound 1 12 rfl) rfl rfl ?_
            refine go_iconst (at_of tX9_workRound 1 13 rfl) (by unfold in32; omega) ?_
            refine go_icmp_eq (tgt := 119) (at_of tX9_workRound 1 14 rfl) (by decide) (fun h59 => ?_) (fun h59 => ?_)
            · exfalso; exact hf h59
            refine go_aload_n (at_of tX9_workRound 1 15 rfl) rfl ?_
            refine go_getr (q := 92) fl_X9_44 rfl G_0 ((hS2 _ _ rfl).trans rfl) (at_of tX9_workRound 2 0 rfl) ?_
            refine go_iload (at_of tX9_workRound 2 1 rfl) rfl rfl ?_
            refine go_cV (con_isHeld hS2 ⟨f0, f20⟩) lk_X9_466 rfl G_92 (at_of tX9_workRound 2 2 rfl) rfl (by decide) rfl (Nat.le_of_ble_eq_true rfl) rfl (by first | decide | exact ⟨Nat.zero_le _, Nat.zero_le _⟩) ?_
            refine go_if_ne (tgt := 119) (at_of tX9_workRound 2 3 rfl) (by decide) (fun h71 => ?_) (fun h71 => ?_)
            · exfalso; rw [e95] at h71; exact (bI_1.mp h71) hh
            refine go_aload_n (at_of tX9_workRound 2 4 rfl) rfl ?_
            refine go_aload_n (at_of tX9_workRound 2 5 rfl) rfl ?_
            refine go_getr (q := (4 + 10 * pi A.2.1)) fl_X9_131 rfl g1 q1 (at_of tX9_workRound 2 6 rfl) ?_
            refine go_iload (at_of tX9_workRound 2 7 rfl) rfl rfl ?_
            refine go_iload_n (at_of tX9_workRound 2 8 rfl) rfl ?_
            refine go_cV (r1) lk_X9_469 rfl G_0 (at_of tX9_workRound 2 9 rfl) rfl (by decide) rfl (Nat.le_of_ble_eq_true rfl) rfl (by first | decide | exact ⟨Nat.zero_le _, Nat.zero_le _⟩) ?_
            refine go_istore (at_of tX9_workRound 2 10 rfl) rfl rfl ?_
            refine go_iload_n (at_of tX9_workRound 2 11 rfl) rfl ?_
            refine go_if_ne (tgt := 102) (at_of tX9_workRound 2 12 rfl) (by decide) (fun h88 => ?_) (fun h88 => ?_)
            rotate_left
            · exfalso; exact hc0 h88
            refine go_iconst (at_of tX9_workRound 3 2 rfl) (by unfold in32; omega) ?_
            refine go_goto (tgt := 107) (at_of tX9_workRound 3 3 rfl) (by decide) ?_
            refine go_istore_n (at_of tX9_workRound 3 5 rfl) rfl rfl ?_
            refine go_aload_n (at_of tX9_workRound 3 6 rfl) rfl ?_
            refine go_getr (q := (12 + 10 * pi A.2.1)) fl_X9_348 rfl g1 s3_ (at_of tX9_workRound 3 7 rfl) ?_
            refine go_iload (at_of tX9_workRound 3 8 rfl) rfl rfl ?_
            refine go_iload (at_of tX9_workRound 3 9 rfl) rfl rfl ?_
            refine go_cS (con_setCell g10 (by omega) ⟨f0, f20⟩) lk_X9_473 rfl (at_of tX9_workRound 3 10 rfl) rfl (by decide) rfl (Nat.le_of_ble_eq_true rfl) rfl (by first | decide | exact ⟨Nat.zero_le _, Nat.zero_le _⟩) ?_
            refine go_iinc (at_of tX9_workRound 3 11 rfl) rfl (by unfold in32; omega) rfl rfl ?_
            refine go_goto (tgt := 32) (at_of tX9_workRound 3 12 rfl) (by decide) ?_
            exact K _ _ _
      · have e9 : chS (A.1 A.2.1).1 (hdS σ) (vlS σ (A.1 A.2.1).1 rc (A.1 A.2.1).2.2) (A.1 A.2.1).2.2 ch i = ch := if_neg (fun z => hh z.2.1)
        rw [e9]
        refine ⟨σ2, ⟨⟨i0, i1⟩, by omega, fun f a b => ?_, i4, ?_⟩, fun b out K v5 v6 => ?_⟩
        · have i3f := i3 f a b
          refine ⟨fun ⟨z, j, x0, x1, x2⟩ => i3f.1 ⟨z, j, x0, ?_, x2⟩, fun z => i3f.2 (fun ⟨y, j, x0, x1, x2⟩ => z ⟨y, j, x0, by omega, x2⟩)⟩
          by_cases e : j = i
          · rw [e] at x2; rw [← x2] at z; exact absurd z hh
          · omega
        · refine ⟨fun z => ?_, fun ⟨j, x0, x1, x2, x3⟩ => i5.mpr ⟨j, x0, ?_, x2, x3⟩⟩
          · obtain ⟨j, x0, x1, x2⟩ := i5.mp z
            exact ⟨j, x0, by omega, x2⟩
          · by_cases e : j = i
            · exact absurd (e ▸ x3.1) hh
            · omega
        · skip
          refine go_iload (at_of tX9_workRound 1 1 rfl) rfl rfl ?_
          refine go_aload_n (at_of tX9_workRound 1 2 rfl) rfl ?_
          refine go_getr (q := (4 + 10 * pi A.2.1)) fl_X9_131 rfl g1 q1 (at_of tX9_workRound 1 3 rfl) ?_
          refine go_cV (r_allUnits hS2 hk hR2) lk_X9_378 rfl g2 (at_of tX9_workRound 1 4 rfl) rfl (by decide) rfl (Nat.le_of_ble_eq_true rfl) rfl (by first | decide | exact ⟨Nat.zero_le _, Nat.zero_le _⟩) ?_
          refine go_icmp_ge (tgt := 125) (at_of tX9_workRound 1 5 rfl) (by decide) (fun h41 => ?_) (fun h41 => ?_)
          · exfalso; omega
          refine go_aload_n (at_of tX9_workRound 1 6 rfl) rfl ?_
          refine go_getr (q := (4 + 10 * pi A.2.1)) fl_X9_131 rfl g1 q1 (at_of tX9_workRound 1 7 rfl) ?_
          refine go_iconst (at_of tX9_workRound 1 8 rfl) (by unfold in32; omega) ?_
          refine go_iload (at_of tX9_workRound 1 9 rfl) rfl rfl ?_
          refine go_cV (r_fact hS2 hk hR2 (by omega) (by omega)) lk_X9_168 rfl g2 (at_of tX9_workRound 1 10 rfl) rfl (by decide) rfl (Nat.le_of_ble_eq_true rfl) rfl (by first | decide | exact ⟨Nat.zero_le _, Nat.zero_le _⟩) ?_
          refine go_istore (at_of tX9_workRound 1 11 rfl) rfl rfl ?_
          refine go_iload (at_of tX9_workRound 1 12 rfl) rfl rfl ?_
          refine go_iconst (at_of tX9_workRound 1 13 rfl) (by unfold in32; omega) ?_
          refine go_icmp_eq (tgt := 119) (at_of tX9_workRound 1 14 rfl) (by decide) (fun h59 => ?_) (fun h59 => ?_)
          · exfalso; exact hf h59
          refine go_aload_n (at_of tX9_workRound 1 15 rfl) rfl ?_
          refine go_getr (q := 92) fl_X9_44 rfl G_0 ((hS2 _ _ rfl).trans rfl) (at_of tX9_workRound 2 0 rfl) ?_
          refine go_iload (at_of tX9_workRound 2 1 rfl) rfl rfl ?_
          refine go_cV (con_isHeld hS2 ⟨f0, f20⟩) lk_X9_466 rfl G_92 (at_of tX9_workRound 2 2 rfl) rfl (by decide) rfl (Nat.le_of_ble_eq_true rfl) rfl (by first | decide | exact ⟨Nat.zero_le _, Nat.zero_le _⟩) ?_
          refine go_if_ne (tgt := 119) (at_of tX9_workRound 2 3 rfl) (by decide) (fun h71 => ?_) (fun h71 => ?_)
          rotate_left
          · exfalso; rw [e95] at h71; exact absurd h71 (by rw [bI_t hh]; decide)
          refine go_iinc (at_of tX9_workRound 3 11 rfl) rfl (by unfold in32; omega) rfl rfl ?_
          refine go_goto (tgt := 32) (at_of tX9_workRound 3 12 rfl) (by decide) ?_
          exact K _ _ _
end Rounds
