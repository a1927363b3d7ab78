/-! The whole layout, said of the row alone. -/
section LayAll
variable {R : RowD} {Q : Int → Int}
theorem scan_cnt {p : Int → Bool} : ∀ (n : Nat) (i u : Int), p u = true → i ≤ u → u < i + n → scan p n i (cntF p (u - i).toNat i) = u := by
  intro n
  induction n with
  | zero => intro i u _ h1 h2; exfalso; omega
  | succ n ih =>
    intro i u hp h1 h2
    rw [scan]
    by_cases hu : u = i
    · subst hu
      rw [if_pos hp, show (u - u).toNat = 0 by omega, cntF, if_pos rfl]
    · rw [show (u - i).toNat = (u - (i + 1)).toNat + 1 by omega, cntF]
      have hc := cntF_le p (u - (i + 1)).toNat (i + 1)
      by_cases hi : p i = true
      · rw [if_pos hi, if_pos hi, if_neg (by omega), show 1 + cntF p (u - (i + 1)).toNat (i + 1) - 1 = cntF p (u - (i + 1)).toNat (i + 1) by omega]
        exact ih (i + 1) u hp (by omega) (by omega)
      · rw [if_neg hi, if_neg hi, Int.zero_add]
        exact ih (i + 1) u hp (by omega) (by omega)
theorem scan_ex {p : Int → Bool} : ∀ (n : Nat) (i k : Int), 0 ≤ k → k < cntF p n i → i ≤ scan p n i k ∧ scan p n i k < i + n ∧ p (scan p n i k) = true ∧ cntF p (scan p n i k - i).toNat i = k := by
  intro n
  induction n with
  | zero => intro i k h0 h1; have h1 : k < 0 := h1; exfalso; omega
  | succ n ih =>
    intro i k h0 h1
    rw [cntF] at h1
    rw [scan]
    by_cases hi : p i = true
    · rw [if_pos hi] at h1 ⊢
      by_cases hk : k = 0
      · rw [if_pos hk]
        refine ⟨Int.le_refl _, by omega, hi, ?_⟩
        rw [Int.sub_self, hk]; rfl
      · rw [if_neg hk]
        obtain ⟨a, b, c, d⟩ := ih (i + 1) (k - 1) (by omega) (by omega)
        refine ⟨by omega, by omega, c, ?_⟩
        rw [show (scan p n (i + 1) (k - 1) - i).toNat = (scan p n (i + 1) (k - 1) - (i + 1)).toNat + 1 by omega, cntF, if_pos hi, d]; omega
    · rw [if_neg hi] at h1 ⊢
      obtain ⟨a, b, c, d⟩ := ih (i + 1) k h0 (by omega)
      refine ⟨by omega, by omega, c, ?_⟩
      rw [show (scan p n (i + 1) k - i).toNat = (scan p n (i + 1) k - (i + 1)).toNat + 1 by omega, cntF, if_neg hi, d]; omega
theorem enN_cnt {i : Int} : enN R i = cntF (sendB R.1 R.2.1) i.toNat 0 := (cntF_sum _ _).symm
theorem plN_cnt {i : Int} : plN R i = cntF (leftB R.1) i.toNat 0 := (cntF_sum _ _).symm
theorem ixEnd_enN {u : Int} (h0 : 0 ≤ u) (h : sendB R.1 R.2.1 u = true) : ixEnd R.1 R.2.1 (enN R u) = u := by
  have hs : 0 ≤ u ∧ u ≤ R.2.1 ∧ R.1 3 u = -1 ∧ R.1 0 u = 47 := of_decide_eq_true h
  unfold ixEnd
  rw [enN_cnt]
  have := scan_cnt (p := sendB R.1 R.2.1) (R.2.1 + 1).toNat 0 u h h0 (by omega)
  rw [Int.sub_zero] at this
  exact this
theorem enN_ixEnd {q : Int} (hn : 0 ≤ R.2.1) (h0 : 0 ≤ q) (h : q < enN R (R.2.1 + 1)) : 0 ≤ ixEnd R.1 R.2.1 q ∧ ixEnd R.1 R.2.1 q ≤ R.2.1 ∧ sendB R.1 R.2.1 (ixEnd R.1 R.2.1 q) = true ∧ enN R (ixEnd R.1 R.2.1 q) = q := by
  rw [enN_cnt] at h
  obtain ⟨a, b, c, d⟩ := scan_ex (p := sendB R.1 R.2.1) (R.2.1 + 1).toNat 0 q h0 h
  unfold ixEnd
  refine ⟨a, by omega, c, ?_⟩
  rw [Int.sub_zero] at d
  rw [enN_cnt]; exact d
/-- where a paragraph's signs begin; whether it is kept; who owns a sign -/
def fsF (R : RowD) (Q : Int → Int) (q : Int) : Int := if q ≤ 0 then 0 else sgS R Q (ixEnd R.1 R.2.1 (q - 1) + 1)
def kpF (R : RowD) (KV : Int → Int) (q : Int) : Int := KV (R.1 5 (ixEnd R.1 R.2.1 q))
def ownF (R : RowD) (Q : Int → Int) : Nat → Int → Int
  | 0, _ => -1
  | m + 1, s => if sgS R Q m ≤ s then m else ownF R Q m s
def blF (R : RowD) (Q : Int → Int) (s : Int) : Bool := decide (blU R (ownF R Q (R.2.1 + 1).toNat s) ≠ 0)
theorem own_ex : ∀ (m : Nat) (s : Int), 0 ≤ s → s < sgS R Q m → 0 ≤ ownF R Q m s ∧ ownF R Q m s < m ∧ sgS R Q (ownF R Q m s) ≤ s ∧ s < sgS R Q (ownF R Q m s + 1) := by
  intro m
  induction m with
  | zero => intro s h0 h1; have h1 : s < 0 := h1; exfalso; omega
  | succ m ih =>
    intro s h0 h1
    rw [ownF]
    split
    · rename_i h2
      refine ⟨by omega, by omega, h2, ?_⟩
      rw [show ((m : Nat) : Int) + 1 = ((m + 1 : Nat) : Int) by omega]; exact h1
    · rename_i h2
      have := ih s h0 (by omega)
      omega
/-- paragraphs in all; lines ahead of one; where it begins among all lines; the line and the place of a unit -/
def parN (R : RowD) : Int := enN R (R.2.1 + 1)
def lsR (R : RowD) (Q : Int → Int) (w q : Int) : Int := lsI (blF R Q) w (fsF R Q) q
def pgR (R : RowD) (Q KV : Int → Int) (w h q : Int) : Int := pgI (lsR R Q w) (kpF R KV) (parN R) h q
def psR (R : RowD) (Q KV : Int → Int) (w h q : Int) : Int := psI (lsR R Q w) (kpF R KV) (parN R) h q
def ofR (R : RowD) (Q : Int → Int) (w u : Int) : Int :=
  if fsF R Q (enN R u) = fsF R Q (enN R u + 1) then 0 else lnO (blF R Q) w (fsF R Q (enN R u + 1)) (if sgS R Q u < fsF R Q (enN R u + 1) then sgS R Q u else fsF R Q (enN R u + 1) - 1) 512 (fsF R Q (enN R u))
def gpR (R : RowD) (Q KV : Int → Int) (w h u : Int) : Int := pgR R Q KV w h (enN R u) + ofR R Q w u
def LastE (R : RowD) : Prop := 0 ≤ R.2.1 ∧ R.2.1 ≤ 200 ∧ R.1 3 R.2.1 = -1 ∧ R.1 0 R.2.1 = 47
theorem LastE.send (h : LastE R) : sendB R.1 R.2.1 R.2.1 = true := (send_iff h.1 (Int.le_refl _)).mpr ⟨h.2.2.1, h.2.2.2⟩
theorem LastE.par (h : LastE R) : parN R = enN R R.2.1 + 1 := by unfold parN; rw [enN_s h.1, ind_t h.send]
theorem fsF_s (hn : 0 ≤ R.2.1) {q : Int} (h0 : 0 ≤ q) (h1 : q < parN R) : fsF R Q (q + 1) = sgS R Q (ixEnd R.1 R.2.1 q + 1) := by
  unfold fsF; rw [if_neg (by omega), show q + 1 - 1 = q by omega]
theorem fsF_le (hn : 0 ≤ R.2.1) {q : Int} (h0 : 0 ≤ q) (h1 : q < parN R) : fsF R Q q ≤ fsF R Q (q + 1) := by
  rw [fsF_s hn h0 h1]
  unfold fsF
  split
  · exact sgS_nn
  · have a := enN_ixEnd hn h0 h1
    have b := enN_ixEnd hn (q := q - 1) (by omega) (show q - 1 < enN R (R.2.1 + 1) by unfold parN at h1; omega)
    refine sgS_le ?_
    by_cases z : ixEnd R.1 R.2.1 (q - 1) ≤ ixEnd R.1 R.2.1 q
    · omega
    · have := enN_le (R := R) (i := ixEnd R.1 R.2.1 q) (j := ixEnd R.1 R.2.1 (q - 1)) (by omega); omega
theorem fsF_S (hn : 0 ≤ R.2.1) {q : Int} (h0 : 0 ≤ q) (h1 : q ≤ parN R) : fsF R Q q ≤ sgS R Q (R.2.1 + 1) := by
  unfold fsF
  split
  · exact sgS_nn
  · have b := enN_ixEnd hn (q := q - 1) (by omega) (show q - 1 < enN R (R.2.1 + 1) by unfold parN at h1; omega)
    exact sgS_le (by omega)
theorem fsF_nn {q : Int} : 0 ≤ fsF R Q q := by
  unfold fsF; split
  · exact Int.le_refl _
  · exact sgS_nn
/-- the paragraph of a unit lies between where it begins and where it ends -/
theorem stI_b {u : Int} (h0 : 0 ≤ u) : 0 ≤ stI R u ∧ stI R u ≤ u := by
  have : ∀ m : Nat, 0 ≤ stN R m ∧ stN R m ≤ m := by
    intro m
    induction m with
    | zero => rw [stN]; omega
    | succ m ih => rw [stN]; split <;> omega
  have := this u.toNat
  unfold stI
  omega
theorem stI_fs (hn : 0 ≤ R.2.1) {u : Int} (h0 : 0 ≤ u) (h1 : u ≤ R.2.1 + 1) : sgS R Q (stI R u) = fsF R Q (enN R u) ∧ enN R (stI R u) = enN R u := by
  have : ∀ m : Nat, (m : Int) ≤ R.2.1 + 1 → sgS R Q (stI R m) = fsF R Q (enN R m) ∧ enN R (stI R m) = enN R m := by
    intro m
    induction m with
    | zero => intro _; exact ⟨rfl, rfl⟩
    | succ m ih =>
      intro h
      have h2 := ih (by omega)
      rw [show ((m + 1 : Nat) : Int) = (m : Int) + 1 by omega]
      rw [stI_s (by omega), enN_s (by omega)]
      by_cases hs : sendB R.1 R.2.1 m = true
      · rw [if_pos hs, ind_t hs]
        have h3 := ixEnd_enN (R := R) (u := m) (by omega) hs
        have h4 := @enN_nn R m
        refine ⟨?_, by rw [enN_s (by omega), ind_t hs]⟩
        unfold fsF
        rw [if_neg (by omega), show enN R m + 1 - 1 = enN R m by omega, h3]
      · rw [if_neg hs, ind_f hs, Int.add_zero]; exact h2
  have := this u.toNat (by omega)
  rw [show ((u.toNat : Nat) : Int) = u by omega] at this
  exact this
theorem unit_fs (hL : LastE R) {u : Int} (h0 : 0 ≤ u) (h1 : u ≤ R.2.1) : 0 ≤ enN R u ∧ enN R u < parN R ∧ fsF R Q (enN R u) ≤ sgS R Q u ∧ sgS R Q u ≤ fsF R Q (enN R u + 1) ∧ (R.1 3 u = -1 → R.1 0 u ≠ 47 → sgS R Q u < fsF R Q (enN R u + 1)) := by
  have hp := hL.par
  have a1 := @enN_nn R u
  have a2 := enN_le (R := R) h1
  have a3 := stI_fs (Q := Q) hL.1 h0 (by omega)
  have a4 := stI_b (R := R) h0
  have a5 := sgS_le (R := R) (Q := Q) a4.2
  have b := enN_ixEnd hL.1 a1 (show enN R u < enN R (R.2.1 + 1) by unfold parN at hp; omega)
  have c : u ≤ ixEnd R.1 R.2.1 (enN R u) := by
    by_cases z : u ≤ ixEnd R.1 R.2.1 (enN R u)
    · exact z
    · have := enN_lt (R := R) b.1 (show ixEnd R.1 R.2.1 (enN R u) < u by omega) b.2.2.1
      omega
  rw [fsF_s hL.1 a1 (by omega)]
  refine ⟨a1, by omega, by omega, sgS_le (by omega), fun h3 h47 => ?_⟩
  have d := sgS_le (R := R) (Q := Q) (i := u + 1) (j := ixEnd R.1 R.2.1 (enN R u) + 1) (by omega)
  rw [sgS_s h0] at d
  have e : 1 ≤ sgn R Q u := by
    unfold sgn
    rw [if_neg (by omega)]
    split
    · omega
    · have := dgF_nn 10 (Q (R.1 1 u) / 10); omega
  omega
theorem lsR_s {w q : Int} (h : 0 ≤ q) : lsR R Q w (q + 1) = lsR R Q w q + lnC (blF R Q) w (fsF R Q (q + 1)) 512 (fsF R Q q) := lsI_s h
theorem lsR_b (hn : 0 ≤ R.2.1) {w q : Int} (hw : 1 ≤ w) (h0 : 0 ≤ q) (h1 : q ≤ parN R) : q ≤ lsR R Q w q ∧ lsR R Q w q ≤ q + fsF R Q q :=
  lsI_b hw (if_pos (Int.le_refl _)) (fun q a b => fsF_le hn a b) h0 h1
theorem lsR_lt (hn : 0 ≤ R.2.1) {w q : Int} (hw : 1 ≤ w) (h0 : 0 ≤ q) (h1 : q < parN R) : lsR R Q w q < lsR R Q w (q + 1) := by
  rw [lsR_s h0]
  have := (lnC_b (B := blF R Q) hw (t := fsF R Q (q + 1)) 512 (fsF R Q q) (fsF_le hn h0 h1)).2.2 (by omega)
  omega
theorem ofR_b (hL : LastE R) (hB : sgS R Q (R.2.1 + 1) ≤ 500) {w u : Int} (hw : 1 ≤ w) (h0 : 0 ≤ u) (h1 : u ≤ R.2.1) : 0 ≤ ofR R Q w u ∧ ofR R Q w u < lsR R Q w (enN R u + 1) - lsR R Q w (enN R u) := by
  obtain ⟨a1, a2, a3, a4, -⟩ := unit_fs (Q := Q) hL h0 h1
  rw [lsR_s a1]
  have b := (lnC_b (B := blF R Q) hw (t := fsF R Q (enN R u + 1)) 512 (fsF R Q (enN R u)) (fsF_le hL.1 a1 a2)).2.2 (by omega)
  have c := fsF_S (R := R) (Q := Q) hL.1 (q := enN R u + 1) (by omega) (by omega)
  have d := @fsF_nn R Q (enN R u)
  unfold ofR
  split
  · omega
  · have := lnO_b (B := blF R Q) hw (t := fsF R Q (enN R u + 1)) (s := if sgS R Q u < fsF R Q (enN R u + 1) then sgS R Q u else fsF R Q (enN R u + 1) - 1) 512 (fsF R Q (enN R u)) (by split <;> omega) (by split <;> omega) (by omega)
    omega
/-- what the office's layout holds -/
def LayR (σ : St) (R : RowD) (Q KV : Int → Int) (w h : Int) : Prop :=
  (∀ u : Int, 0 ≤ u → u ≤ R.2.1 → R.1 3 u = -1 → σ.1 101 (plN R u).toNat = sgS R Q u ∧ σ.1 102 (plN R u).toNat = enN R u) ∧
  (∀ q : Int, 0 ≤ q → q ≤ parN R → σ.1 103 q.toNat = fsF R Q q) ∧
  (∀ q s : Int, 0 ≤ q → q < parN R → fsF R Q q ≤ s → s < fsF R Q (q + 1) → σ.1 100 s.toNat = lsR R Q w q + lnO (blF R Q) w (fsF R Q (q + 1)) s 512 (fsF R Q q)) ∧
  (∀ q : Int, 0 ≤ q → q ≤ parN R → σ.1 104 q.toNat = lsR R Q w q) ∧
  (∀ q t : Int, 0 ≤ q → q < parN R → 0 ≤ t → t < lsR R Q w (q + 1) - lsR R Q w q → σ.1 106 (lsR R Q w q + t).toNat = (pgR R Q KV w h q + t) / h ∧ σ.1 107 (lsR R Q w q + t).toNat = (pgR R Q KV w h q + t) % h) ∧
  PU σ h (psR R Q KV w h (parN R)) 1 ∧ σ.1 98 14 ≤ 1500
theorem lsF_congr {B B' : Int → Bool} {w : Int} {fs fs' : Int → Int} (hw : 1 ≤ w) : ∀ (m : Nat), (∀ q : Int, 0 ≤ q → q ≤ m → fs q = fs' q) → (∀ q : Int, 0 ≤ q → q < m → fs q ≤ fs (q + 1)) → (∀ s, fs 0 ≤ s → s < fs m → B s = B' s) → lsF B w fs m = lsF B' w fs' m := by
  intro m
  induction m with
  | zero => intro _ _ _; rfl
  | succ m ih =>
    intro h1 h2 h3
    have e1 := h1 m (by omega) (by omega)
    have e2 := h1 (m + 1) (by omega) (by omega)
    have f1 := h2 m (by omega) (by omega)
    have f0 := fs_mono (fs := fs) (E := m) (fun q a b => h2 q a (by omega)) m 0 (by omega) (by omega)
    rw [Int.zero_add] at f0
    rw [lsF, lsF, ih (fun q a b => h1 q a (by omega)) (fun q a b => h2 q a (by omega)) (fun s a b => h3 s a (by rw [show ((m + 1 : Nat) : Int) = (m : Int) + 1 by omega]; omega)), ← e1, ← e2]
    rw [lnC_congr hw 512 (fs m) f1 (fun x a b => h3 x (by omega) (by rw [show ((m + 1 : Nat) : Int) = (m : Int) + 1 by omega]; exact b))]
theorem lsI_congr {B B' : Int → Bool} {w q : Int} {fs fs' : Int → Int} (hw : 1 ≤ w) (hq : 0 ≤ q) (h1 : ∀ x : Int, 0 ≤ x → x ≤ q → fs x = fs' x) (h2 : ∀ x : Int, 0 ≤ x → x < q → fs x ≤ fs (x + 1)) (h3 : ∀ s, fs 0 ≤ s → s < fs q → B s = B' s) : lsI B w fs q = lsI B' w fs' q := by
  refine lsF_congr hw q.toNat (fun x a b => h1 x a (by omega)) (fun x a b => h2 x a (by omega)) (fun s a b => h3 s a ?_)
  rw [show ((q.toNat : Nat) : Int) = q by omega] at b
  exact b
end LayAll
section LayCon
variable {σ : St} {k : Nat} {R : RowD}
abbrev KVs (σ : St) : Int → Int := keepF (clF σ 84 8) (clF σ 86 8) 8
theorem con_layArrange (hS : Str σ.2.1) (hk : k < 8) (hR : RepR σ k R) (hW : WH σ) (hE : LastE R) {Q : Int → Int} (hQ : ∀ c, 0 ≤ c → c < 20 → σ.1 (12 + 10 * k) c.toNat = Q c ∧ 0 ≤ Q c) (hSg : SgW R) (hB : sgS R Q (R.2.1 + 1) ≤ 500) : ∃ σ', Con 4 mX1_layOut 0 0 [vA 98, vA (4 + 10 * k), vA (12 + 10 * k), vA 83] σ (vT 8 0, σ') ∧ σ'.2 = σ.2 ∧ (∀ x j : Nat, ¬ (x = 99 ∨ x = 100 ∨ x = 101 ∨ x = 102 ∨ x = 103 ∨ x = 104 ∨ x = 105 ∨ x = 106 ∨ x = 107 ∨ (x = 98 ∧ 11 ≤ j ∧ j ≤ 15)) → σ'.1 x j = σ.1 x j) ∧ LayR σ' R Q (KVs σ) (σ.1 98 0) (σ.1 98 1) := by
  obtain ⟨σ1, a1, ⟨b0, b1⟩, b2, b3, b4, b5, b6, b7⟩ := con_readSigns hS hk hR hQ hSg hB
  have hS1 : Str σ1.2.1 := by rw [b0]; exact hS
  have w1 : σ1.1 98 0 = σ.1 98 0 := b1 _ _ (by omega)
  have w2 : σ1.1 98 1 = σ.1 98 1 := b1 _ _ (by omega)
  have hW1 : WH σ1 := ⟨by rw [w1]; exact hW.1, by rw [w1]; exact hW.2.1, by rw [w2]; exact hW.2.2.1, by rw [w2]; exact hW.2.2.2⟩
  have hn := hE.1
  have hp := hE.par
  have p1 : 1 ≤ parN R := by have := @enN_nn R R.2.1; omega
  have p2 : parN R ≤ 201 := by have := enN_ub (R := R) (i := R.2.1 + 1) (by omega); have := hE.2.1; unfold parN; omega
  have F3 : ∀ q, 0 ≤ q → q ≤ parN R → σ1.1 103 q.toNat = fsF R Q q := fun q z0 z1 => by
    by_cases hq : q = 0
    · have := b6 0 (by omega) (by omega)
      rw [hq]; exact this
    · have c := enN_ixEnd hn (q := q - 1) (by omega) (show q - 1 < enN R (R.2.1 + 1) by unfold parN at z1; omega)
      have d := b6 (ixEnd R.1 R.2.1 (q - 1) + 1) (by omega) (by omega)
      rw [enN_s c.1, ind_t c.2.2.1, c.2.2.2, show q - 1 + 1 = q by omega, stI_s c.1, if_pos c.2.2.1] at d
      unfold fsF
      rw [if_neg (by omega)]
      exact d
  have F5 : ∀ q, 0 ≤ q → q < parN R → σ1.1 105 q.toNat = kpF R (KVs σ) q := fun q z0 z1 => by
    have c := enN_ixEnd hn (q := q) z0 z1
    have d := b7 (ixEnd R.1 R.2.1 q) c.1 (by omega) c.2.2.1
    rw [c.2.2.2] at d
    exact d
  have hfs : FsW σ1 (fsF R Q) (parN R) := ⟨b3, p1, p2, F3, if_pos (Int.le_refl _), fun q z0 z1 => fsF_le hn z0 z1, by have := fsF_S (R := R) (Q := Q) hn (q := parN R) (by omega) (by omega); omega⟩
  have eB : ∀ s, 0 ≤ s → s < sgS R Q (R.2.1 + 1) → blB σ1 s = blF R Q s := fun s z0 z1 => by
    have c := own_ex (R := R) (Q := Q) (R.2.1 + 1).toNat s z0 (by rw [show (((R.2.1 + 1).toNat : Nat) : Int) = R.2.1 + 1 by omega]; exact z1)
    unfold blB blF
    rw [b4 _ s c.1 (by omega) c.2.2.1 c.2.2.2]
  obtain ⟨σ2, a2, ⟨⟨c0, c1⟩, c2, c3, c4⟩, c5⟩ := con_breakLines hS1 hW1 hfs
  rw [w1] at c2 c3 c4 c5
  have eL : ∀ q, 0 ≤ q → q ≤ parN R → lsI (blB σ1) (σ.1 98 0) (fsF R Q) q = lsR R Q (σ.1 98 0) q := fun q z0 z1 => by
    have := fsF_S (R := R) (Q := Q) hn z0 z1
    exact lsI_congr (by have := hW.1; omega) z0 (fun _ _ _ => rfl) (fun x y0 y1 => fsF_le hn y0 (by omega)) (fun s y0 y1 => eB s (by have : fsF R Q 0 = 0 := if_pos (Int.le_refl _); omega) (by omega))
  have hS2 : Str σ2.2.1 := by rw [c0]; exact hS1
  have w3 : σ2.1 98 0 = σ.1 98 0 := (c1 _ _ (by omega)).trans w1
  have w4 : σ2.1 98 1 = σ.1 98 1 := (c1 _ _ (by omega)).trans w2
  have hW2 : WH σ2 := ⟨by rw [w3]; exact hW.1, by rw [w3]; exact hW.2.1, by rw [w4]; exact hW.2.2.1, by rw [w4]; exact hW.2.2.2⟩
  have F4 : ∀ q, 0 ≤ q → q ≤ parN R → σ2.1 104 q.toNat = lsR R Q (σ.1 98 0) q := fun q z0 z1 => by
    rw [← eL q z0 z1]
    by_cases hq : q = parN R
    · rw [hq]; exact c5
    · exact c3 q z0 (by omega)
  have hls : LsW σ2 (lsR R Q (σ.1 98 0)) (kpF R (KVs σ)) (parN R) := by
    refine ⟨by rw [c1 _ _ (by omega)]; exact b3, p1, p2, F4, rfl, fun q z0 z1 => lsR_lt hn (by have := hW.1; omega) z0 z1, ?_, fun q z0 z1 => ⟨by rw [c1 _ _ (by omega)]; exact F5 q z0 z1, keepF_01 _ _⟩⟩
    have y1 := lsR_b (R := R) (Q := Q) hn (w := σ.1 98 0) (q := parN R) (by have := hW.1; omega) (by omega) (by omega)
    have y2 := fsF_S (R := R) (Q := Q) hn (q := parN R) (by omega) (by omega)
    omega
  obtain ⟨σ3, a3, ⟨d0, d1⟩, d2, d3, d4⟩ := con_fillPages hS2 hW2 hls
  rw [w4] at d2 d4
  rw [if_pos (by omega)] at d2
  refine ⟨σ3, ?_, (d0.trans c0).trans b0, fun x j z => ?_, fun u z0 z1 z2 => ?_, fun q z0 z1 => ?_, fun q s z0 z1 z2 z3 => ?_, fun q z0 z1 => ?_, fun q t z0 z1 z2 z3 => d4 q t z0 z1 z2 z3, d2, ?_⟩
  · skip
    refine con_of_go mfX1_layOut.1 trivial (Nat.le_of_ble_eq_true rfl) rfl (by decide) ?_
    show Go _ _ _ _ 0 [vA _, vA _, vA _, vA _] [] _ _
    refine go_aload_n (at_of tX1_layOut 0 0 rfl) rfl ?_
    refine go_aload_n (at_of tX1_layOut 0 1 rfl) rfl ?_
    refine go_aload_n (at_of tX1_layOut 0 2 rfl) rfl ?_
    refine go_aload_n (at_of tX1_layOut 0 3 rfl) rfl ?_
    refine go_cV (a1) lk_X1_62 rfl G_98 (at_of tX1_layOut 0 4 rfl) rfl (by decide) rfl (Nat.le_of_ble_eq_true rfl) rfl (by first | decide | exact ⟨Nat.zero_le _, Nat.zero_le _⟩) ?_
    refine go_aload_n (at_of tX1_layOut 0 5 rfl) rfl ?_
    refine go_cV (a2) lk_X1_66 rfl G_98 (at_of tX1_layOut 0 6 rfl) rfl (by decide) rfl (Nat.le_of_ble_eq_true rfl) rfl (by first | decide | exact ⟨Nat.zero_le _, Nat.zero_le _⟩) ?_
    refine go_aload_n (at_of tX1_layOut 0 7 rfl) rfl ?_
    refine go_cV (a3) lk_X1_69 rfl G_98 (at_of tX1_layOut 0 8 rfl) rfl (by decide) rfl (Nat.le_of_ble_eq_true rfl) rfl (by first | decide | exact ⟨Nat.zero_le _, Nat.zero_le _⟩) ?_
    exact go_retv (at_of tX1_layOut 0 9 rfl) rfl
  · rw [d1 x j (by omega), c1 x j (by omega), b1 x j (by omega)]
  · rw [d1 _ _ (by omega), d1 _ _ (by omega), c1 _ _ (by omega), c1 _ _ (by omega)]
    exact b5 u z0 (by omega) z2
  · rw [d1 _ _ (by omega), c1 _ _ (by omega)]; exact F3 q z0 z1
  · have y := fsF_S (R := R) (Q := Q) hn (q := q + 1) (by omega) (by omega)
    have y' := @fsF_nn R Q q
    rw [d1 _ _ (by omega), c4 q s z0 z1 z2 z3, eL q z0 (by omega), lnO_congr (B' := blF R Q) (by have := hW.1; omega) 512 (fsF R Q q) z2 z3 (fun x x0 x1 => eB x (by omega) (by omega))]
  · rw [d1 _ _ (by omega)]; exact F4 q z0 z1
  · have y1 := lsR_b (R := R) (Q := Q) hn (w := σ.1 98 0) (q := parN R) (by have := hW.1; omega) (by omega) (by omega)
    have y2 := fsF_S (R := R) (Q := Q) hn (q := parN R) (by omega) (by omega)
    omega
def lineR (R : RowD) (Q : Int → Int) (w u : Int) : Int := lsR R Q w (enN R u) + ofR R Q w u
theorem con_lineNumber (hS : Str σ.2.1) {Q KV : Int → Int} {w h p u : Int} (hw : 5 ≤ w) (hh : 2 ≤ h) (hE : LastE R) (hB : sgS R Q (R.2.1 + 1) ≤ 500) (hl : LayR σ R Q KV w h) (hu : 0 ≤ u ∧ u ≤ R.2.1 ∧ R.1 3 u = -1) (hp : plN R u = p) : Con 1 mX1_lineNumber 0 0 [vA 98, vI p] σ (vI (lineR R Q w u), σ) := by
  obtain ⟨y1, y2, y3, y4, y5, y6, y7⟩ := hl
  obtain ⟨z1, z2⟩ := y1 u hu.1 hu.2.1 hu.2.2
  rw [hp] at z1 z2
  obtain ⟨x1, x2, x3, x4, -⟩ := unit_fs (Q := Q) hE hu.1 hu.2.1
  have q1 := y2 (enN R u) x1 (by omega)
  have q2 := y2 (enN R u + 1) (by omega) (by omega)
  have pb := plN_ub (R := R) hu.1
  have pn := @plN_nn R u
  have hE2 := hE.2.1
  have p2 : parN R ≤ 201 := by have := enN_ub (R := R) (i := R.2.1 + 1) (by omega); unfold parN; omega
  have sb := @sgS_nn R Q u
  have fb := fsF_S (R := R) (Q := Q) hE.1 (q := enN R u + 1) (by omega) (by omega)
  have fn := @fsF_nn R Q (enN R u)
  unfold lineR ofR
  by_cases hft : fsF R Q (enN R u) = fsF R Q (enN R u + 1)
  · rw [if_pos hft, Int.add_zero]
    have q4 := y4 (enN R u) x1 (by omega)
    refine con_of_go mfX1_lineNumber.1 trivial (Nat.le_of_ble_eq_true rfl) rfl (by decide) ?_
    show Go _ _ _ _ 0 [vA _, vI _, vT 9 0, vT 9 0, vT 9 0, vT 9 0] [] _ _
    refine go_aload_n (at_of tX1_lineNumber 0 0 rfl) rfl ?_
    refine go_getr (q := 102) fl_X1_29 rfl G_98 ((hS _ _ rfl).trans rfl) (at_of tX1_lineNumber 0 1 rfl) ?_
    refine go_iload_n (at_of tX1_lineNumber 0 2 rfl) rfl ?_
    refine go_cN (con_cell G_102 (by omega) (by omega)) lk_X1_76 rfl (at_of tX1_lineNumber 0 3 rfl) rfl (by decide) rfl (Nat.le_of_ble_eq_true rfl) rfl (by first | decide | exact ⟨Nat.zero_le _, Nat.zero_le _⟩) ?_
    rw [z2]
    refine go_istore_n (at_of tX1_lineNumber 0 4 rfl) rfl rfl ?_
    refine go_aload_n (at_of tX1_lineNumber 0 5 rfl) rfl ?_
    refine go_getr (q := 103) fl_X1_32 rfl G_98 ((hS _ _ rfl).trans rfl) (at_of tX1_lineNumber 0 6 rfl) ?_
    refine go_iload_n (at_of tX1_lineNumber 0 7 rfl) rfl ?_
    refine go_cN (con_cell G_103 (by omega) (by omega)) lk_X1_76 rfl (at_of tX1_lineNumber 0 8 rfl) rfl (by decide) rfl (Nat.le_of_ble_eq_true rfl) rfl (by first | decide | exact ⟨Nat.zero_le _, Nat.zero_le _⟩) ?_
    rw [q1]
    refine go_istore_n (at_of tX1_lineNumber 0 9 rfl) rfl rfl ?_
    refine go_aload_n (at_of tX1_lineNumber 0 10 rfl) rfl ?_
    refine go_getr (q := 103) fl_X1_32 rfl G_98 ((hS _ _ rfl).trans rfl) (at_of tX1_lineNumber 0 11 rfl) ?_
    refine go_iload_n (at_of tX1_lineNumber 0 12 rfl) rfl ?_
    refine go_iconst (at_of tX1_lineNumber 0 13 rfl) (by unfold in32; omega) ?_
    refine go_iadd (at_of tX1_lineNumber 0 14 rfl) (by unfold in32; omega) ?_
    refine go_cN (con_cell G_103 (by omega) (by omega)) lk_X1_76 rfl (at_of tX1_lineNumber 0 15 rfl) rfl (by decide) rfl (Nat.le_of_ble_eq_true rfl) rfl (by first | decide | exact ⟨Nat.zero_le _, Nat.zero_le _⟩) ?_
    rw [q2]
    refine go_istore (at_of tX1_lineNumber 1 0 rfl) rfl rfl ?_
    refine go_iload_n (at_of tX1_lineNumber 1 1 rfl) rfl ?_
    refine go_iload (at_of tX1_lineNumber 1 2 rfl) rfl rfl ?_
    refine go_icmp_ne (tgt := 45) (at_of tX1_lineNumber 1 3 rfl) (by decide) (fun h33 => ?_) (fun h33 => ?_)
    · exfalso; omega
    refine go_aload_n (at_of tX1_lineNumber 1 4 rfl) rfl ?_
    refine go_getr (q := 104) fl_X1_35 rfl G_98 ((hS _ _ rfl).trans rfl) (at_of tX1_lineNumber 1 5 rfl) ?_
    refine go_iload_n (at_of tX1_lineNumber 1 6 rfl) rfl ?_
    refine go_cN (con_cell G_104 (by omega) (by omega)) lk_X1_76 rfl (at_of tX1_lineNumber 1 7 rfl) rfl (by decide) rfl (Nat.le_of_ble_eq_true rfl) rfl (by first | decide | exact ⟨Nat.zero_le _, Nat.zero_le _⟩) ?_
    exact go_reti (at_of tX1_lineNumber 1 8 rfl) (le_i q4.symm)
  · rw [if_neg hft]
    have q3 := y3 (enN R u) (if sgS R Q u < fsF R Q (enN R u + 1) then sgS R Q u else fsF R Q (enN R u + 1) - 1) x1 (by omega) (by split <;> omega) (by split <;> omega)
    by_cases hs : sgS R Q u < fsF R Q (enN R u + 1)
    · rw [if_pos hs] at q3 ⊢
      refine con_of_go mfX1_lineNumber.1 trivial (Nat.le_of_ble_eq_true rfl) rfl (by decide) ?_
      show Go _ _ _ _ 0 [vA _, vI _, vT 9 0, vT 9 0, vT 9 0, vT 9 0] [] _ _
      refine go_aload_n (at_of tX1_lineNumber 0 0 rfl) rfl ?_
      refine go_getr (q := 102) fl_X1_29 rfl G_98 ((hS _ _ rfl).trans rfl) (at_of tX1_lineNumber 0 1 rfl) ?_
      refine go_iload_n (at_of tX1_lineNumber 0 2 rfl) rfl ?_
      refine go_cN (con_cell G_102 (by omega) (by omega)) lk_X1_76 rfl (at_of tX1_lineNumber 0 3 rfl) rfl (by decide) rfl (Nat.le_of_ble_eq_true rfl) rfl (by first | decide | exact ⟨Nat.zero_le _, Nat.zero_le _⟩) ?_
      rw [z2]
      refine go_istore_n (at_of tX1_lineNumber 0 4 rfl) rfl rfl ?_
      refine go_aload_n (at_of tX1_lineNumber 0 5 rfl) rfl ?_
      refine go_getr (q := 103) fl_X1_32 rfl G_98 ((hS _ _ rfl).trans rfl) (at_of tX1_lineNumber 0 6 rfl) ?_
      refine go_iload_n (at_of tX1_lineNumber 0 7 rfl) rfl ?_
      refine go_cN (con_cell G_103 (by omega) (by omega)) lk_X1_76 rfl (at_of tX1_lineNumber 0 8 rfl) rfl (by decide) rfl (Nat.le_of_ble_eq_true rfl) rfl (by first | decide | exact ⟨Nat.zero_le _, Nat.zero_le _⟩) ?_
      rw [q1]
      refine go_istore_n (at_of tX1_lineNumber 0 9 rfl) rfl rfl ?_
      refine go_aload_n (at_of tX1_lineNumber 0 10 rfl) rfl ?_
      refine go_getr (q := 103) fl_X1_32 rfl G_98 ((hS _ _ rfl).trans rfl) (at_of tX1_lineNumber 0 11 rfl) ?_
      refine go_iload_n (at_of tX1_lineNumber 0 12 rfl) rfl ?_
      refine go_iconst (at_of tX1_lineNumber 0 13 rfl) (by unfold in32; omega) ?_
      refine go_iadd (at_of tX1_lineNumber 0 14 rfl) (by unfold in32; omega) ?_
      refine go_cN (con_cell G_103 (by omega) (by omega)) lk_X1_76 rfl (at_of tX1_lineNumber 0 15 rfl) rfl (by decide) rfl (Nat.le_of_ble_eq_true rfl) rfl (by first | decide | exact ⟨Nat.zero_le _, Nat.zero_le _⟩) ?_
      rw [q2]
      refine go_istore (at_of tX1_lineNumber 1 0 rfl) rfl rfl ?_
      refine go_iload_n (at_of tX1_lineNumber 1 1 rfl) rfl ?_
      refine go_iload (at_of tX1_lineNumber 1 2 rfl) rfl rfl ?_
      refine go_icmp_ne (tgt := 45) (at_of tX1_lineNumber 1 3 rfl) (by decide) (fun h33 => ?_) (fun h33 => ?_)
      rotate_left
      · exfalso; omega
      refine go_aload_n (at_of tX1_lineNumber 1 9 rfl) rfl ?_
      refine go_getr (q := 101) fl_X1_26 rfl G_98 ((hS _ _ rfl).trans rfl) (at_of tX1_lineNumber 1 10 rfl) ?_
      refine go_iload_n (at_of tX1_lineNumber 1 11 rfl) rfl ?_
      refine go_cN (con_cell G_101 (by omega) (by omega)) lk_X1_76 rfl (at_of tX1_lineNumber 1 12 rfl) rfl (by decide) rfl (Nat.le_of_ble_eq_true rfl) rfl (by first | decide | exact ⟨Nat.zero_le _, Nat.zero_le _⟩) ?_
      rw [z1]
      refine go_istore (at_of tX1_lineNumber 1 13 rfl) rfl rfl ?_
      refine go_aload_n (at_of tX1_lineNumber 1 14 rfl) rfl ?_
      refine go_getr (q := 100) fl_X1_22 rfl G_98 ((hS _ _ rfl).trans rfl) (at_of tX1_lineNumber 1 15 rfl) ?_
      refine go_iload (at_of tX1_lineNumber 2 0 rfl) rfl rfl ?_
      refine go_iload (at_of tX1_lineNumber 2 1 rfl) rfl rfl ?_
      refine go_icmp_ge (tgt := 71) (at_of tX1_lineNumber 2 2 rfl) (by decide) (fun h63 => ?_) (fun h63 => ?_)
      · exfalso; omega
      refine go_iload (at_of tX1_lineNumber 2 3 rfl) rfl rfl ?_
      refine go_goto (tgt := 75) (at_of tX1_lineNumber 2 4 rfl) (by decide) ?_
      refine go_cN (con_cell G_100 (by omega) (by omega)) lk_X1_76 rfl (at_of tX1_lineNumber 2 8 rfl) rfl (by decide) rfl (Nat.le_of_ble_eq_true rfl) rfl (by first | decide | exact ⟨Nat.zero_le _, Nat.zero_le _⟩) ?_
      exact go_reti (at_of tX1_lineNumber 2 9 rfl) (le_i q3.symm)
    · rw [if_neg hs] at q3 ⊢
      refine con_of_go mfX1_lineNumber.1 trivial (Nat.le_of_ble_eq_true rfl) rfl (by decide) ?_
      show Go _ _ _ _ 0 [vA _, vI _, vT 9 0, vT 9 0, vT 9 0, vT 9 0] [] _ _
      refine go_aload_n (at_of tX1_lineNumber 0 0 rfl) rfl ?_
      refine go_getr (q := 102) fl_X1_29 rfl G_98 ((hS _ _ rfl).trans rfl) (at_of tX1_lineNumber 0 1 rfl) ?_
      refine go_iload_n (at_of tX1_lineNumber 0 2 rfl) rfl ?_
      refine go_cN (con_cell G_102 (by omega) (by omega)) lk_X1_76 rfl (at_of tX1_lineNumber 0 3 rfl) rfl (by decide) rfl (Nat.le_of_ble_eq_true rfl) rfl (by first | decide | exact ⟨Nat.zero_le _, Nat.zero_le _⟩) ?_
      rw [z2]
      refine go_istore_n (at_of tX1_lineNumber 0 4 rfl) rfl rfl ?_
      refine go_aload_n (at_of tX1_lineNumber 0 5 rfl) rfl ?_
      refine go_getr (q := 103) fl_X1_32 rfl G_98 ((hS _ _ rfl).trans rfl) (at_of tX1_lineNumber 0 6 rfl) ?_
      refine go_iload_n (at_of tX1_lineNumber 0 7 rfl) rfl ?_
      refine go_cN (con_cell G_103 (by omega) (by omega)) lk_X1_76 rfl (at_of tX1_lineNumber 0 8 rfl) rfl (by decide) rfl (Nat.le_of_ble_eq_true rfl) rfl (by first | decide | exact ⟨Nat.zero_le _, Nat.zero_le _⟩) ?_
      rw [q1]
      refine go_istore_n (at_of tX1_lineNumber 0 9 rfl) rfl rfl ?_
      refine go_aload_n (at_of tX1_lineNumber 0 10 rfl) rfl ?_
      refine go_getr (q := 103) fl_X1_32 rfl G_98 ((hS _ _ rfl).trans rfl) (at_of tX1_lineNumber 0 11 rfl) ?_
      refine go_iload_n (at_of tX1_lineNumber 0 12 rfl) rfl ?_
      refine go_iconst (at_of tX1_lineNumber 0 13 rfl) (by unfold in32; omega) ?_
      refine go_iadd (at_of tX1_lineNumber 0 14 rfl) (by unfold in32; omega) ?_
      refine go_cN (con_cell G_103 (by omega) (by omega)) lk_X1_76 rfl (at_of tX1_lineNumber 0 15 rfl) rfl (by decide) rfl (Nat.le_of_ble_eq_true rfl) rfl (by first | decide | exact ⟨Nat.zero_le _, Nat.zero_le _⟩) ?_
      rw [q2]
      refine go_istore (at_of tX1_lineNumber 1 0 rfl) rfl rfl ?_
      refine go_iload_n (at_of tX1_lineNumber 1 1 rfl) rfl ?_
      refine go_iload (at_of tX1_lineNumber 1 2 rfl) rfl rfl ?_
      refine go_icmp_ne (tgt := 45) (at_of tX1_lineNumber 1 3 rfl) (by decide) (fun h33 => ?_) (fun h33 => ?_)
      rotate_left
      · exfalso; omega
      refine go_aload_n (at_of tX1_lineNumber 1 9 rfl) rfl ?_
      refine go_getr (q := 101) fl_X1_26 rfl G_98 ((hS _ _ rfl).trans rfl) (at_of tX1_lineNumber 1 10 rfl) ?_
      refine go_iload_n (at_of tX1_lineNumber 1 11 rfl) rfl ?_
      refine go_cN (con_cell G_101 (by omega) (by omega)) lk_X1_76 rfl (at_of tX1_lineNumber 1 12 rfl) rfl (by decide) rfl (Nat.le_of_ble_eq_true rfl) rfl (by first | decide | exact ⟨Nat.zero_le _, Nat.zero_le _⟩) ?_
      rw [z1]
      refine go_istore (at_of tX1_lineNumber 1 13 rfl) rfl rfl ?_
      refine go_aload_n (at_of tX1_lineNumber 1 14 rfl) rfl ?_
      refine go_getr (q := 100) fl_X1_22 rfl G_98 ((hS _ _ rfl).trans rfl) (at_of tX1_lineNumber 1 15 rfl) ?_
      refine go_iload (at_of tX1_lineNumber 2 0 rfl) rfl rfl ?_
      refine go_iload (at_of tX1_lineNumber 2 1 rfl) rfl rfl ?_
      refine go_icmp_ge (tgt := 71) (at_of tX1_lineNumber 2 2 rfl) (by decide) (fun h63 => ?_) (fun h63 => ?_)
      rotate_left
      · exfalso; omega
      refine go_iload (at_of tX1_lineNumber 2 5 rfl) rfl rfl ?_
      refine go_iconst (at_of tX1_lineNumber 2 6 rfl) (by unfold in32; omega) ?_
      refine go_isub (at_of tX1_lineNumber 2 7 rfl) (by unfold in32; omega) ?_
      refine go_cN (con_cell G_100 (by omega) (by omega)) lk_X1_76 rfl (at_of tX1_lineNumber 2 8 rfl) rfl (by decide) rfl (Nat.le_of_ble_eq_true rfl) rfl (by first | decide | exact ⟨Nat.zero_le _, Nat.zero_le _⟩) ?_
      exact go_reti (at_of tX1_lineNumber 2 9 rfl) (le_i q3.symm)
theorem con_pageAt (hS : Str σ.2.1) {Q KV : Int → Int} {w h p u : Int} (hw : 5 ≤ w) (hh : 2 ≤ h) (hE : LastE R) (hB : sgS R Q (R.2.1 + 1) ≤ 500) (hl : LayR σ R Q KV w h) (hu : 0 ≤ u ∧ u ≤ R.2.1 ∧ R.1 3 u = -1) (hp : plN R u = p) : Con 2 mX1_pageAt 0 0 [vA 98, vI p] σ (vI (gpR R Q KV w h u / h), σ) := by
  obtain ⟨y1, y2, y3, y4, y5, y6, y7⟩ := hl
  obtain ⟨z1, z2⟩ := y1 u hu.1 hu.2.1 hu.2.2
  rw [hp] at z1 z2
  obtain ⟨x1, x2, x3, x4, -⟩ := unit_fs (Q := Q) hE hu.1 hu.2.1
  have q1 := y2 (enN R u) x1 (by omega)
  have q2 := y2 (enN R u + 1) (by omega) (by omega)
  have pb := plN_ub (R := R) hu.1
  have pn := @plN_nn R u
  have hE2 := hE.2.1
  have p2 : parN R ≤ 201 := by have := enN_ub (R := R) (i := R.2.1 + 1) (by omega); unfold parN; omega
  have sb := @sgS_nn R Q u
  have fb := fsF_S (R := R) (Q := Q) hE.1 (q := enN R u + 1) (by omega) (by omega)
  have fn := @fsF_nn R Q (enN R u)
  have ob := ofR_b hE hB (w := w) (by omega) hu.1 hu.2.1
  have q5 := (y5 (enN R u) (ofR R Q w u) x1 x2 ob.1 ob.2).1
  have lb := lsR_b (R := R) (Q := Q) hE.1 (w := w) (q := enN R u) (by omega) x1 (by omega)
  have lb2 := lsR_b (R := R) (Q := Q) hE.1 (w := w) (q := enN R u + 1) (by omega) (by omega) (by omega)
  have e5 : σ.1 106 (lineR R Q w u).toNat = gpR R Q KV w h u / h := q5
  have lr : 0 ≤ lineR R Q w u ∧ lineR R Q w u < 1024 := by unfold lineR; omega
  have cl := con_lineNumber hS hw hh hE hB ⟨y1, y2, y3, y4, y5, y6, y7⟩ hu hp
  refine con_of_go mfX1_pageAt.1 trivial (Nat.le_of_ble_eq_true rfl) rfl (by decide) ?_
  show Go _ _ _ _ 0 [vA _, vI _] [] _ _
  refine go_aload_n (at_of tX1_pageAt 0 0 rfl) rfl ?_
  refine go_getr (q := 106) fl_X1_41 rfl G_98 ((hS _ _ rfl).trans rfl) (at_of tX1_pageAt 0 1 rfl) ?_
  refine go_aload_n (at_of tX1_pageAt 0 2 rfl) rfl ?_
  refine go_iload_n (at_of tX1_pageAt 0 3 rfl) rfl ?_
  refine go_cV (cl) lk_X1_72 rfl G_98 (at_of tX1_pageAt 0 4 rfl) rfl (by decide) rfl (Nat.le_of_ble_eq_true rfl) rfl (by first | decide | exact ⟨Nat.zero_le _, Nat.zero_le _⟩) ?_
  refine go_cN (con_cell G_106 (by omega) (by omega)) lk_X1_76 rfl (at_of tX1_pageAt 0 5 rfl) rfl (by decide) rfl (Nat.le_of_ble_eq_true rfl) rfl (by first | decide | exact ⟨Nat.zero_le _, Nat.zero_le _⟩) ?_
  exact go_reti (at_of tX1_pageAt 0 6 rfl) (le_i e5.symm)
theorem con_manyPagesR (hS : Str σ.2.1) (hW : WH σ) {Q KV : Int → Int} {w : Int} (hl : LayR σ R Q KV w (σ.1 98 1)) : Con 0 mX1_manyPages 0 0 [vA 98] σ (vI ((psR R Q KV w (σ.1 98 1) (parN R) - 1) / σ.1 98 1 + 1), σ) := by
  obtain ⟨y1, y2, y3, y4, y5, y6, y7⟩ := hl
  exact con_manyPages hS hW y6 (by omega)
end LayCon
