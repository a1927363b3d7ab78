section Basic
variable {σ : St}
def bI (p : Prop) [Decidable p] : Int := if p then 1 else 0
theorem bI_t {p : Prop} [Decidable p] (h : p) : bI p = 1 := if_pos h
theorem bI_f {p : Prop} [Decidable p] (h : ¬ p) : bI p = 0 := if_neg h
theorem bI_0 {p : Prop} [Decidable p] : bI p = 0 ↔ ¬ p := by
  unfold bI; split <;> simp_all
theorem bI_1 {p : Prop} [Decidable p] : ¬ bI p = 0 ↔ p := by
  unfold bI; split <;> simp_all
theorem bI_01 {p : Prop} [Decidable p] : bI p = 0 ∨ bI p = 1 := by
  unfold bI; split <;> simp
/-- the k-th place from i on, among n, at which p holds -/
def scan (p : Int → Bool) : Nat → Int → Int → Int
  | 0, _, _ => -1
  | n + 1, i, k => if p i = true then (if k = 0 then i else scan p n (i + 1) (k - 1)) else scan p n (i + 1) k
/-- how many from i on, among n -/
def cntF (p : Int → Bool) : Nat → Int → Int
  | 0, _ => 0
  | n + 1, i => (if p i = true then 1 else 0) + cntF p n (i + 1)
/-- the first from i on at which p holds, else z -/
def fstF (p : Int → Bool) (z : Int) : Nat → Int → Int
  | 0, _ => z
  | n + 1, i => if p i = true then i else fstF p z n (i + 1)
theorem cntF_le (p : Int → Bool) : ∀ (n : Nat) (i : Int), 0 ≤ cntF p n i ∧ cntF p n i ≤ n := by
  intro n
  induction n with
  | zero => intro i; simp [cntF]
  | succ n ih => intro i; have := ih (i + 1); unfold cntF; split <;> omega
theorem scan_le (p : Int → Bool) : ∀ (n : Nat) (i k : Int), 0 ≤ i → scan p n i k = -1 ∨ (i ≤ scan p n i k ∧ scan p n i k < i + n ∧ p (scan p n i k) = true) := by
  intro n
  induction n with
  | zero => intro i k _; exact Or.inl rfl
  | succ n ih =>
    intro i k h
    unfold scan
    split
    · split
      · rename_i h1 _; exact Or.inr ⟨by omega, by omega, h1⟩
      · rcases ih (i + 1) (k - 1) (by omega) with h2 | ⟨h2, h3, h4⟩
        · exact Or.inl h2
        · exact Or.inr ⟨by omega, by omega, h4⟩
    · rcases ih (i + 1) k (by omega) with h2 | ⟨h2, h3, h4⟩
      · exact Or.inl h2
      · exact Or.inr ⟨by omega, by omega, h4⟩
theorem fstF_le (p : Int → Bool) (z : Int) : ∀ (n : Nat) (i : Int), fstF p z n i = z ∨ (i ≤ fstF p z n i ∧ fstF p z n i < i + n ∧ p (fstF p z n i) = true) := by
  intro n
  induction n with
  | zero => intro i; exact Or.inl rfl
  | succ n ih =>
    intro i
    unfold fstF
    split
    · rename_i h1; exact Or.inr ⟨by omega, by omega, h1⟩
    · rcases ih (i + 1) with h2 | ⟨h2, h3, h4⟩
      · exact Or.inl h2
      · exact Or.inr ⟨by omega, by omega, h4⟩
theorem le_i {σ : St} {a b : Int} (h : a = b) : ((vI a, σ) : MV × St) = (vI b, σ) := by rw [h]
/-- a row's facts -/
def fA (σ : St) (f : Nat) (w i : Int) : Int := σ.1 f (w * 201 + i).toNat
def RowP (σ : St) (r f g s : Nat) : Prop := Gam r = (17, 0) ∧ Gam f = (0, 2211) ∧ Gam g = (0, 6) ∧ Gam s = (0, 6) ∧ σ.2.1 r 0 = some f ∧ σ.2.1 r 1 = some g ∧ σ.2.1 r 2 = some s
/-- its units are not too many -/
def RowU (σ : St) (r : Nat) : Prop := 0 ≤ σ.1 r 3 ∧ σ.1 r 3 ≤ 200
def seenB (F : Int → Int → Int) (n i : Int) : Bool := decide (0 ≤ i ∧ i ≤ n ∧ F 3 i = -1)
def oldB (F : Int → Int → Int) (n i : Int) : Bool := decide (0 ≤ i ∧ i < n ∧ F 2 i = -1)
def sendB (F : Int → Int → Int) (n i : Int) : Bool := decide (0 ≤ i ∧ i ≤ n ∧ F 3 i = -1 ∧ F 0 i = 47)
def leftB (F : Int → Int → Int) (i : Int) : Bool := decide (F 3 i = -1)
def waitB (F : Int → Int → Int) (i : Int) : Bool := decide (F 2 i ≠ -1 ∨ F 3 i ≠ -1)
def concB (F : Int → Int → Int) (c i : Int) : Bool := decide (F 2 i = c ∨ F 3 i = c ∨ F 4 i = c)
def ixOf (F : Int → Int → Int) (n k : Int) : Int := scan (seenB F n) (n + 1).toNat 0 k
def ixOld (F : Int → Int → Int) (n k : Int) : Int := scan (oldB F n) n.toNat 0 k
def ixEnd (F : Int → Int → Int) (n k : Int) : Int := scan (sendB F n) (n + 1).toNat 0 k
def plOf (F : Int → Int → Int) (n i : Int) : Int := cntF (leftB F) (min i n).toNat 0
def endsA (F : Int → Int → Int) (n i : Int) : Int := cntF (sendB F n) (min i n).toNat 0
def oldN (F : Int → Int → Int) (n : Int) : Int := cntF (oldB F n) n.toNat 0
def waitN (F : Int → Int → Int) (n : Int) : Int := cntF (waitB F) n.toNat 0
def concN (F : Int → Int → Int) (n c : Int) : Int := cntF (concB F c) (n + 1).toNat 0
def endFr (F : Int → Int → Int) (n i : Int) : Int := fstF (sendB F n) n (n - i).toNat i
/-- a protected paragraph among those from i on to that of the last -/
def grdF (F : Int → Int → Int) (n last : Int) : Nat → Int → Bool
  | 0, _ => false
  | k + 1, i => if sendB F n i = true then (if F 10 i = 1 then true else if last ≤ i then false else grdF F n last k (i + 1)) else grdF F n last k (i + 1)
/-- an array's cell, or none -/
def cl (σ : St) (a n : Nat) (i : Int) : Int := if 0 ≤ i ∧ i < n then σ.1 a i.toNat else -1
theorem con_isWithin {z n : Int} : Con 0 mX9_isWithin 0 0 [vI z, vI n] σ (vI (bI (0 ≤ z ∧ z < n)), σ) := by
  refine con_of_go mfX9_isWithin.1 bI_01 (Nat.le_of_ble_eq_true rfl) rfl (by decide) ?_
  show Go _ _ _ _ 0 [vI _, vI _] [] _ _
  refine go_iload_n (at_of tX9_isWithin 0 0 rfl) rfl ?_
  refine go_if_lt (tgt := 13) (at_of tX9_isWithin 0 1 rfl) (by decide) (fun h1 => ?_) (fun h1 => ?_)
  · refine go_iconst (at_of tX9_isWithin 0 7 rfl) (by unfold in32; omega) ?_
    exact go_reti (at_of tX9_isWithin 0 8 rfl) (le_i (by first | exact bI_t (by omega) | exact bI_f (by omega)))
  · refine go_iload_n (at_of tX9_isWithin 0 2 rfl) rfl ?_
    refine go_iload_n (at_of tX9_isWithin 0 3 rfl) rfl ?_
    refine go_icmp_ge (tgt := 13) (at_of tX9_isWithin 0 4 rfl) (by decide) (fun h6 => ?_) (fun h6 => ?_)
    · refine go_iconst (at_of tX9_isWithin 0 7 rfl) (by unfold in32; omega) ?_
      exact go_reti (at_of tX9_isWithin 0 8 rfl) (le_i (by first | exact bI_t (by omega) | exact bI_f (by omega)))
    · refine go_iconst (at_of tX9_isWithin 0 5 rfl) (by unfold in32; omega) ?_
      refine go_goto (tgt := 14) (at_of tX9_isWithin 0 6 rfl) (by decide) ?_
      exact go_reti (at_of tX9_isWithin 0 8 rfl) (le_i (by first | exact bI_t (by omega) | exact bI_f (by omega)))
theorem con_cell {a n : Nat} {i : Int} (hg : Gam a = (0, n)) (hn : n < 10000) (h : 0 ≤ i ∧ i < n) : Con 0 mX9_cell 0 0 [vA a, vI i] σ (vI (σ.1 a i.toNat), σ) := by
  refine con_of_go mfX9_cell.1 trivial (Nat.le_of_ble_eq_true rfl) rfl (by decide) ?_
  show Go _ _ _ _ 0 [vA _, vI _] [] _ _
  refine go_iload_n (at_of tX9_cell 0 0 rfl) rfl ?_
  refine go_if_lt (tgt := 16) (at_of tX9_cell 0 1 rfl) (by decide) (fun h1 => ?_) (fun h1 => ?_)
  · exfalso; omega
  refine go_iload_n (at_of tX9_cell 0 2 rfl) rfl ?_
  refine go_aload_n (at_of tX9_cell 0 3 rfl) rfl ?_
  refine go_alen (n := n) (t := 0) hg (by omega) (by omega) (at_of tX9_cell 0 4 rfl) ?_
  refine go_icmp_ge (tgt := 16) (at_of tX9_cell 0 5 rfl) (by decide) (fun h7 => ?_) (fun h7 => ?_)
  · exfalso; omega
  refine go_aload_n (at_of tX9_cell 0 6 rfl) rfl ?_
  refine go_iload_n (at_of tX9_cell 0 7 rfl) rfl ?_
  refine go_iald (by first | rfl | assumption) (by omega) (by omega) (at_of tX9_cell 0 8 rfl) ?_
  refine go_goto (tgt := 17) (at_of tX9_cell 0 9 rfl) (by decide) ?_
  exact go_reti (at_of tX9_cell 0 11 rfl) rfl
theorem con_cell_out {a n : Nat} {i : Int} (hg : Gam a = (0, n)) (hn : n < 10000) (h : i < 0 ∨ n ≤ i) : Con 0 mX9_cell 0 0 [vA a, vI i] σ (vI (-1), σ) := by
  refine con_of_go mfX9_cell.1 trivial (Nat.le_of_ble_eq_true rfl) rfl (by decide) ?_
  show Go _ _ _ _ 0 [vA _, vI _] [] _ _
  refine go_iload_n (at_of tX9_cell 0 0 rfl) rfl ?_
  refine go_if_lt (tgt := 16) (at_of tX9_cell 0 1 rfl) (by decide) (fun h1 => ?_) (fun h1 => ?_)
  · refine go_iconst (at_of tX9_cell 0 10 rfl) (by unfold in32; omega) ?_
    exact go_reti (at_of tX9_cell 0 11 rfl) rfl
  · refine go_iload_n (at_of tX9_cell 0 2 rfl) rfl ?_
    refine go_aload_n (at_of tX9_cell 0 3 rfl) rfl ?_
    refine go_alen (n := n) (t := 0) hg (by omega) (by omega) (at_of tX9_cell 0 4 rfl) ?_
    refine go_icmp_ge (tgt := 16) (at_of tX9_cell 0 5 rfl) (by decide) (fun h7 => ?_) (fun h7 => ?_)
    rotate_left
    · exfalso; omega
    refine go_iconst (at_of tX9_cell 0 10 rfl) (by unfold in32; omega) ?_
    exact go_reti (at_of tX9_cell 0 11 rfl) rfl
theorem con_cl {a n : Nat} {i : Int} (hg : Gam a = (0, n)) (hn : n < 10000) : Con 0 mX9_cell 0 0 [vA a, vI i] σ (vI (cl σ a n i), σ) := by
  by_cases h : 0 ≤ i ∧ i < n
  · unfold cl; rw [if_pos h]; exact con_cell hg hn h
  · unfold cl; rw [if_neg h]; exact con_cell_out hg hn (by omega)
theorem con_setCell {a n : Nat} {i z : Int} (hg : Gam a = (0, n)) (hn : n < 10000) (h : 0 ≤ i ∧ i < n) : Con 0 mX9_setCell 0 0 [vA a, vI i, vI z] σ (vT 8 0, M1 σ a i z) := by
  refine con_of_go mfX9_setCell.1 trivial (Nat.le_of_ble_eq_true rfl) rfl (by decide) ?_
  show Go _ _ _ _ 0 [vA _, vI _, vI _] [] _ _
  refine go_iload_n (at_of tX9_setCell 0 0 rfl) rfl ?_
  refine go_if_lt (tgt := 14) (at_of tX9_setCell 0 1 rfl) (by decide) (fun h1 => ?_) (fun h1 => ?_)
  · exfalso; omega
  refine go_iload_n (at_of tX9_setCell 0 2 rfl) rfl ?_
  refine go_aload_n (at_of tX9_setCell 0 3 rfl) rfl ?_
  refine go_alen (n := n) (t := 0) hg (by omega) (by omega) (at_of tX9_setCell 0 4 rfl) ?_
  refine go_icmp_ge (tgt := 14) (at_of tX9_setCell 0 5 rfl) (by decide) (fun h7 => ?_) (fun h7 => ?_)
  · exfalso; omega
  refine go_aload_n (at_of tX9_setCell 0 6 rfl) rfl ?_
  refine go_iload_n (at_of tX9_setCell 0 7 rfl) rfl ?_
  refine go_iload_n (at_of tX9_setCell 0 8 rfl) rfl ?_
  refine go_iast1 (by first | rfl | assumption) (by omega) (by omega) (at_of tX9_setCell 0 9 rfl) ?_
  exact go_retv (at_of tX9_setCell 0 10 rfl) rfl
end Basic
section Row
variable {σ : St} {r f g s : Nat}
theorem con_fact (hR : RowP σ r f g s) {w i : Int} (hw : 0 ≤ w ∧ w ≤ 10) (hi : 0 ≤ i ∧ i ≤ 200) : Con 0 mX7_fact 0 0 [vA r, vI w, vI i] σ (vI (fA σ f w i), σ) := by
  obtain ⟨hg1, hg2, hg3, hg4, hp1, hp2, hp3⟩ := id hR
  refine con_of_go mfX7_fact.1 trivial (Nat.le_of_ble_eq_true rfl) rfl (by decide) ?_
  show Go _ _ _ _ 0 [vA _, vI _, vI _, vT 9 0] [] _ _
  refine go_iload_n (at_of tX7_fact 0 0 rfl) rfl ?_
  refine go_sipush (at_of tX7_fact 0 1 rfl) (by decide) ?_
  refine go_imul (at_of tX7_fact 0 2 rfl) (by unfold in32; omega) ?_
  refine go_iload_n (at_of tX7_fact 0 3 rfl) rfl ?_
  refine go_iadd (at_of tX7_fact 0 4 rfl) (by unfold in32; omega) ?_
  refine go_istore_n (at_of tX7_fact 0 5 rfl) rfl rfl ?_
  refine go_iload_n (at_of tX7_fact 0 6 rfl) rfl ?_
  refine go_if_lt (tgt := 41) (at_of tX7_fact 0 7 rfl) (by decide) (fun h9 => ?_) (fun h9 => ?_)
  · exfalso; omega
  refine go_iload_n (at_of tX7_fact 0 8 rfl) rfl ?_
  refine go_sipush (at_of tX7_fact 0 9 rfl) (by decide) ?_
  refine go_icmp_ge (tgt := 41) (at_of tX7_fact 0 10 rfl) (by decide) (fun h16 => ?_) (fun h16 => ?_)
  · exfalso; omega
  refine go_iload_n (at_of tX7_fact 0 11 rfl) rfl ?_
  refine go_if_lt (tgt := 41) (at_of tX7_fact 0 12 rfl) (by decide) (fun h20 => ?_) (fun h20 => ?_)
  · exfalso; omega
  refine go_iload_n (at_of tX7_fact 0 13 rfl) rfl ?_
  refine go_aload_n (at_of tX7_fact 0 14 rfl) rfl ?_
  refine go_getr fl_X7_11 rfl (by first | rfl | assumption) (by assumption) (at_of tX7_fact 0 15 rfl) ?_
  refine go_alen hg2 (by omega) (by omega) (at_of tX7_fact 1 0 rfl) ?_
  refine go_icmp_ge (tgt := 41) (at_of tX7_fact 1 1 rfl) (by decide) (fun h29 => ?_) (fun h29 => ?_)
  · exfalso; omega
  refine go_aload_n (at_of tX7_fact 1 2 rfl) rfl ?_
  refine go_getr fl_X7_11 rfl (by first | rfl | assumption) (by assumption) (at_of tX7_fact 1 3 rfl) ?_
  refine go_iload_n (at_of tX7_fact 1 4 rfl) rfl ?_
  refine go_iald (by first | rfl | assumption) (by omega) (by omega) (at_of tX7_fact 1 5 rfl) ?_
  refine go_goto (tgt := 42) (at_of tX7_fact 1 6 rfl) (by decide) ?_
  exact go_reti (at_of tX7_fact 1 8 rfl) rfl
theorem con_fact_out (hR : RowP σ r f g s) {w i : Int} (hw : 0 ≤ w ∧ w ≤ 10) (hi : -1000 < i ∧ i < 1000) (h : i < 0 ∨ 200 < i) : Con 0 mX7_fact 0 0 [vA r, vI w, vI i] σ (vI (-1), σ) := by
  obtain ⟨hg1, hg2, hg3, hg4, hp1, hp2, hp3⟩ := id hR
  refine con_of_go mfX7_fact.1 trivial (Nat.le_of_ble_eq_true rfl) rfl (by decide) ?_
  show Go _ _ _ _ 0 [vA _, vI _, vI _, vT 9 0] [] _ _
  refine go_iload_n (at_of tX7_fact 0 0 rfl) rfl ?_
  refine go_sipush (at_of tX7_fact 0 1 rfl) (by decide) ?_
  refine go_imul (at_of tX7_fact 0 2 rfl) (by unfold in32; omega) ?_
  refine go_iload_n (at_of tX7_fact 0 3 rfl) rfl ?_
  refine go_iadd (at_of tX7_fact 0 4 rfl) (by unfold in32; omega) ?_
  refine go_istore_n (at_of tX7_fact 0 5 rfl) rfl rfl ?_
  refine go_iload_n (at_of tX7_fact 0 6 rfl) rfl ?_
  refine go_if_lt (tgt := 41) (at_of tX7_fact 0 7 rfl) (by decide) (fun h9 => ?_) (fun h9 => ?_)
  · refine go_iconst (at_of tX7_fact 1 7 rfl) (by unfold in32; omega) ?_
    exact go_reti (at_of tX7_fact 1 8 rfl) rfl
  · refine go_iload_n (at_of tX7_fact 0 8 rfl) rfl ?_
    refine go_sipush (at_of tX7_fact 0 9 rfl) (by decide) ?_
    refine go_icmp_ge (tgt := 41) (at_of tX7_fact 0 10 rfl) (by decide) (fun h16 => ?_) (fun h16 => ?_)
    rotate_left
    · exfalso; omega
    refine go_iconst (at_of tX7_fact 1 7 rfl) (by unfold in32; omega) ?_
    exact go_reti (at_of tX7_fact 1 8 rfl) rfl
theorem con_setFact (hR : RowP σ r f g s) {w i z : Int} (hw : 0 ≤ w ∧ w ≤ 10) (hi : 0 ≤ i ∧ i ≤ 200) : Con 0 mX7_setFact 0 0 [vA r, vI w, vI i, vI z] σ (vT 8 0, M1 σ f (w * 201 + i) z) := by
  obtain ⟨hg1, hg2, hg3, hg4, hp1, hp2, hp3⟩ := id hR
  refine con_of_go mfX7_setFact.1 trivial (Nat.le_of_ble_eq_true rfl) rfl (by decide) ?_
  show Go _ _ _ _ 0 [vA _, vI _, vI _, vI _, vT 9 0] [] _ _
  refine go_iload_n (at_of tX7_setFact 0 0 rfl) rfl ?_
  refine go_sipush (at_of tX7_setFact 0 1 rfl) (by decide) ?_
  refine go_imul (at_of tX7_setFact 0 2 rfl) (by unfold in32; omega) ?_
  refine go_iload_n (at_of tX7_setFact 0 3 rfl) rfl ?_
  refine go_iadd (at_of tX7_setFact 0 4 rfl) (by unfold in32; omega) ?_
  refine go_istore (at_of tX7_setFact 0 5 rfl) rfl rfl ?_
  refine go_iload_n (at_of tX7_setFact 0 6 rfl) rfl ?_
  refine go_if_lt (tgt := 43) (at_of tX7_setFact 0 7 rfl) (by decide) (fun h10 => ?_) (fun h10 => ?_)
  · exfalso; omega
  refine go_iload_n (at_of tX7_setFact 0 8 rfl) rfl ?_
  refine go_sipush (at_of tX7_setFact 0 9 rfl) (by decide) ?_
  refine go_icmp_ge (tgt := 43) (at_of tX7_setFact 0 10 rfl) (by decide) (fun h17 => ?_) (fun h17 => ?_)
  · exfalso; omega
  refine go_iload (at_of tX7_setFact 0 11 rfl) rfl rfl ?_
  refine go_if_lt (tgt := 43) (at_of tX7_setFact 0 12 rfl) (by decide) (fun h22 => ?_) (fun h22 => ?_)
  · exfalso; omega
  refine go_iload (at_of tX7_setFact 0 13 rfl) rfl rfl ?_
  refine go_aload_n (at_of tX7_setFact 0 14 rfl) rfl ?_
  refine go_getr fl_X7_11 rfl (by first | rfl | assumption) (by assumption) (at_of tX7_setFact 0 15 rfl) ?_
  refine go_alen hg2 (by omega) (by omega) (at_of tX7_setFact 1 0 rfl) ?_
  refine go_icmp_ge (tgt := 43) (at_of tX7_setFact 1 1 rfl) (by decide) (fun h32 => ?_) (fun h32 => ?_)
  · exfalso; omega
  refine go_aload_n (at_of tX7_setFact 1 2 rfl) rfl ?_
  refine go_getr fl_X7_11 rfl (by first | rfl | assumption) (by assumption) (at_of tX7_setFact 1 3 rfl) ?_
  refine go_iload (at_of tX7_setFact 1 4 rfl) rfl rfl ?_
  refine go_iload_n (at_of tX7_setFact 1 5 rfl) rfl ?_
  refine go_iast1 (by first | rfl | assumption) (by omega) (by omega) (at_of tX7_setFact 1 6 rfl) ?_
  exact go_retv (at_of tX7_setFact 1 7 rfl) rfl
theorem con_allUnits (hR : RowP σ r f g s) : Con 0 mX7_allUnits 0 0 [vA r] σ (vI (σ.1 r 3), σ) := by
  obtain ⟨hg1, hg2, hg3, hg4, hp1, hp2, hp3⟩ := id hR
  refine con_of_go mfX7_allUnits.1 trivial (Nat.le_of_ble_eq_true rfl) rfl (by decide) ?_
  show Go _ _ _ _ 0 [vA _] [] _ _
  refine go_aload_n (at_of tX7_allUnits 0 0 rfl) rfl ?_
  refine go_getf fl_X7_21 rfl (by first | rfl | assumption) (at_of tX7_allUnits 0 1 rfl) ?_
  exact go_reti (at_of tX7_allUnits 0 2 rfl) rfl
theorem con_isSeen (hR : RowP σ r f g s) (hU : RowU σ r) {i : Int} : Con 1 mX7_isSeen 0 0 [vA r, vI i] σ (vI (bI (seenB (fA σ f) (σ.1 r 3) i = true)), σ) := by
  obtain ⟨hg1, hg2, hg3, hg4, hp1, hp2, hp3⟩ := id hR
  obtain ⟨hu1, hu2⟩ := id hU
  refine con_of_go mfX7_isSeen.1 bI_01 (Nat.le_of_ble_eq_true rfl) rfl (by decide) ?_
  show Go _ _ _ _ 0 [vA _, vI _] [] _ _
  refine go_iload_n (at_of tX7_isSeen 0 0 rfl) rfl ?_
  refine go_if_lt (tgt := 26) (at_of tX7_isSeen 0 1 rfl) (by decide) (fun h1 => ?_) (fun h1 => ?_)
  · refine go_iconst (at_of tX7_isSeen 0 14 rfl) (by unfold in32; omega) ?_
    exact go_reti (at_of tX7_isSeen 0 15 rfl) (le_i (by first | exact bI_t (by simp only [seenB, decide_eq_true_eq]; omega) | exact bI_f (by simp only [seenB, decide_eq_true_eq]; omega)))
  · refine go_iload_n (at_of tX7_isSeen 0 2 rfl) rfl ?_
    refine go_aload_n (at_of tX7_isSeen 0 3 rfl) rfl ?_
    refine go_getf fl_X7_21 rfl (by first | rfl | assumption) (at_of tX7_isSeen 0 4 rfl) ?_
    refine go_icmp_gt (tgt := 26) (at_of tX7_isSeen 0 5 rfl) (by decide) (fun h9 => ?_) (fun h9 => ?_)
    · refine go_iconst (at_of tX7_isSeen 0 14 rfl) (by unfold in32; omega) ?_
      exact go_reti (at_of tX7_isSeen 0 15 rfl) (le_i (by first | exact bI_t (by simp only [seenB, decide_eq_true_eq]; omega) | exact bI_f (by simp only [seenB, decide_eq_true_eq]; omega)))
    · refine go_aload_n (at_of tX7_isSeen 0 6 rfl) rfl ?_
      refine go_iconst (at_of tX7_isSeen 0 7 rfl) (by unfold in32; omega) ?_
      refine go_iload_n (at_of tX7_isSeen 0 8 rfl) rfl ?_
      refine go_cV (con_fact hR (by omega) (by omega)) lk_X7_31 rfl (by first | rfl | assumption) (at_of tX7_isSeen 0 9 rfl) rfl (by decide) rfl (Nat.le_of_ble_eq_true rfl) rfl (by first | decide | exact ⟨Nat.zero_le _, Nat.zero_le _⟩) ?_
      refine go_iconst (at_of tX7_isSeen 0 10 rfl) (by unfold in32; omega) ?_
      refine go_icmp_ne (tgt := 26) (at_of tX7_isSeen 0 11 rfl) (by decide) (fun h19 => ?_) (fun h19 => ?_)
      · refine go_iconst (at_of tX7_isSeen 0 14 rfl) (by unfold in32; omega) ?_
        exact go_reti (at_of tX7_isSeen 0 15 rfl) (le_i (by first | exact bI_t (by simp only [seenB, decide_eq_true_eq]; omega) | exact bI_f (by simp only [seenB, decide_eq_true_eq]; omega)))
      · refine go_iconst (at_of tX7_isSeen 0 12 rfl) (by unfold in32; omega) ?_
        refine go_goto (tgt := 27) (at_of tX7_isSeen 0 13 rfl) (by decide) ?_
        exact go_reti (at_of tX7_isSeen 0 15 rfl) (le_i (by first | exact bI_t (by simp only [seenB, decide_eq_true_eq]; omega) | exact bI_f (by simp only [seenB, decide_eq_true_eq]; omega)))
theorem con_isOld (hR : RowP σ r f g s) (hU : RowU σ r) {i : Int} : Con 1 mX7_isOld 0 0 [vA r, vI i] σ (vI (bI (oldB (fA σ f) (σ.1 r 3) i = true)), σ) := by
  obtain ⟨hg1, hg2, hg3, hg4, hp1, hp2, hp3⟩ := id hR
  obtain ⟨hu1, hu2⟩ := id hU
  refine con_of_go mfX7_isOld.1 bI_01 (Nat.le_of_ble_eq_true rfl) rfl (by decide) ?_
  show Go _ _ _ _ 0 [vA _, vI _] [] _ _
  refine go_iload_n (at_of tX7_isOld 0 0 rfl) rfl ?_
  refine go_if_lt (tgt := 26) (at_of tX7_isOld 0 1 rfl) (by decide) (fun h1 => ?_) (fun h1 => ?_)
  · refine go_iconst (at_of tX7_isOld 0 14 rfl) (by unfold in32; omega) ?_
    exact go_reti (at_of tX7_isOld 0 15 rfl) (le_i (by first | exact bI_t (by simp only [oldB, decide_eq_true_eq]; omega) | exact bI_f (by simp only [oldB, decide_eq_true_eq]; omega)))
  · refine go_iload_n (at_of tX7_isOld 0 2 rfl) rfl ?_
    refine go_aload_n (at_of tX7_isOld 0 3 rfl) rfl ?_
    refine go_getf fl_X7_21 rfl (by first | rfl | assumption) (at_of tX7_isOld 0 4 rfl) ?_
    refine go_icmp_ge (tgt := 26) (at_of tX7_isOld 0 5 rfl) (by decide) (fun h9 => ?_) (fun h9 => ?_)
    · refine go_iconst (at_of tX7_isOld 0 14 rfl) (by unfold in32; omega) ?_
      exact go_reti (at_of tX7_isOld 0 15 rfl) (le_i (by first | exact bI_t (by simp only [oldB, decide_eq_true_eq]; omega) | exact bI_f (by simp only [oldB, decide_eq_true_eq]; omega)))
    · refine go_aload_n (at_of tX7_isOld 0 6 rfl) rfl ?_
      refine go_iconst (at_of tX7_isOld 0 7 rfl) (by unfold in32; omega) ?_
      refine go_iload_n (at_of tX7_isOld 0 8 rfl) rfl ?_
      refine go_cV (con_fact hR (by omega) (by omega)) lk_X7_31 rfl (by first | rfl | assumption) (at_of tX7_isOld 0 9 rfl) rfl (by decide) rfl (Nat.le_of_ble_eq_true rfl) rfl (by first | decide | exact ⟨Nat.zero_le _, Nat.zero_le _⟩) ?_
      refine go_iconst (at_of tX7_isOld 0 10 rfl) (by unfold in32; omega) ?_
      refine go_icmp_ne (tgt := 26) (at_of tX7_isOld 0 11 rfl) (by decide) (fun h19 => ?_) (fun h19 => ?_)
      · refine go_iconst (at_of tX7_isOld 0 14 rfl) (by unfold in32; omega) ?_
        exact go_reti (at_of tX7_isOld 0 15 rfl) (le_i (by first | exact bI_t (by simp only [oldB, decide_eq_true_eq]; omega) | exact bI_f (by simp only [oldB, decide_eq_true_eq]; omega)))
      · refine go_iconst (at_of tX7_isOld 0 12 rfl) (by unfold in32; omega) ?_
        refine go_goto (tgt := 27) (at_of tX7_isOld 0 13 rfl) (by decide) ?_
        exact go_reti (at_of tX7_isOld 0 15 rfl) (le_i (by first | exact bI_t (by simp only [oldB, decide_eq_true_eq]; omega) | exact bI_f (by simp only [oldB, decide_eq_true_eq]; omega)))
theorem con_isSeenEnd (hR : RowP σ r f g s) (hU : RowU σ r) {i : Int} : Con 1 mX7_isSeenEnd 0 0 [vA r, vI i] σ (vI (bI (sendB (fA σ f) (σ.1 r 3) i = true)), σ) := by
  obtain ⟨hg1, hg2, hg3, hg4, hp1, hp2, hp3⟩ := id hR
  obtain ⟨hu1, hu2⟩ := id hU
  refine con_of_go mfX7_isSeenEnd.1 bI_01 (Nat.le_of_ble_eq_true rfl) rfl (by decide) ?_
  show Go _ _ _ _ 0 [vA _, vI _] [] _ _
  refine go_iload_n (at_of tX7_isSeenEnd 0 0 rfl) rfl ?_
  refine go_if_lt (tgt := 37) (at_of tX7_isSeenEnd 0 1 rfl) (by decide) (fun h1 => ?_) (fun h1 => ?_)
  · refine go_iconst (at_of tX7_isSeenEnd 1 4 rfl) (by unfold in32; omega) ?_
    exact go_reti (at_of tX7_isSeenEnd 1 5 rfl) (le_i (by first | exact bI_t (by simp only [sendB, decide_eq_true_eq]; omega) | exact bI_f (by simp only [sendB, decide_eq_true_eq]; omega)))
  · refine go_iload_n (at_of tX7_isSeenEnd 0 2 rfl) rfl ?_
    refine go_aload_n (at_of tX7_isSeenEnd 0 3 rfl) rfl ?_
    refine go_getf fl_X7_21 rfl (by first | rfl | assumption) (at_of tX7_isSeenEnd 0 4 rfl) ?_
    refine go_icmp_gt (tgt := 37) (at_of tX7_isSeenEnd 0 5 rfl) (by decide) (fun h9 => ?_) (fun h9 => ?_)
    · refine go_iconst (at_of tX7_isSeenEnd 1 4 rfl) (by unfold in32; omega) ?_
      exact go_reti (at_of tX7_isSeenEnd 1 5 rfl) (le_i (by first | exact bI_t (by simp only [sendB, decide_eq_true_eq]; omega) | exact bI_f (by simp only [sendB, decide_eq_true_eq]; omega)))
    · refine go_aload_n (at_of tX7_isSeenEnd 0 6 rfl) rfl ?_
      refine go_iconst (at_of tX7_isSeenEnd 0 7 rfl) (by unfold in32; omega) ?_
      refine go_iload_n (at_of tX7_isSeenEnd 0 8 rfl) rfl ?_
      refine go_cV (con_fact hR (by omega) (by omega)) lk_X7_31 rfl (by first | rfl | assumption) (at_of tX7_isSeenEnd 0 9 rfl) rfl (by decide) rfl (Nat.le_of_ble_eq_true rfl) rfl (by first | decide | exact ⟨Nat.zero_le _, Nat.zero_le _⟩) ?_
      refine go_iconst (at_of tX7_isSeenEnd 0 10 rfl) (by unfold in32; omega) ?_
      refine go_icmp_ne (tgt := 37) (at_of tX7_isSeenEnd 0 11 rfl) (by decide) (fun h19 => ?_) (fun h19 => ?_)
      · refine go_iconst (at_of tX7_isSeenEnd 1 4 rfl) (by unfold in32; omega) ?_
        exact go_reti (at_of tX7_isSeenEnd 1 5 rfl) (le_i (by first | exact bI_t (by simp only [sendB, decide_eq_true_eq]; omega) | exact bI_f (by simp only [sendB, decide_eq_true_eq]; omega)))
      · refine go_aload_n (at_of tX7_isSeenEnd 0 12 rfl) rfl ?_
        refine go_iconst (at_of tX7_isSeenEnd 0 13 rfl) (by unfold in32; omega) ?_
        refine go_iload_n (at_of tX7_isSeenEnd 0 14 rfl) rfl ?_
        refine go_cV (con_fact hR (by omega) (by omega)) lk_X7_31 rfl (by first | rfl | assumption) (at_of tX7_isSeenEnd 0 15 rfl) rfl (by decide) rfl (Nat.le_of_ble_eq_true rfl) rfl (by first | decide | exact ⟨Nat.zero_le _, Nat.zero_le _⟩) ?_
        refine go_bipush (at_of tX7_isSeenEnd 1 0 rfl) (by decide) ?_
        refine go_icmp_ne (tgt := 37) (at_of tX7_isSeenEnd 1 1 rfl) (by decide) (fun h30 => ?_) (fun h30 => ?_)
        · refine go_iconst (at_of tX7_isSeenEnd 1 4 rfl) (by unfold in32; omega) ?_
          exact go_reti (at_of tX7_isSeenEnd 1 5 rfl) (le_i (by first | exact bI_t (by simp only [sendB, decide_eq_true_eq]; omega) | exact bI_f (by simp only [sendB, decide_eq_true_eq]; omega)))
        · refine go_iconst (at_of tX7_isSeenEnd 1 2 rfl) (by unfold in32; omega) ?_
          refine go_goto (tgt := 38) (at_of tX7_isSeenEnd 1 3 rfl) (by decide) ?_
          exact go_reti (at_of tX7_isSeenEnd 1 5 rfl) (le_i (by first | exact bI_t (by simp only [sendB, decide_eq_true_eq]; omega) | exact bI_f (by simp only [sendB, decide_eq_true_eq]; omega)))
theorem lp_indexOf (hR : RowP σ r f g s) (hU : RowU σ r) {k0 : Int} : ∀ (n : Nat) (b : Nat × Nat) (i k : Int), 0 ≤ i → 0 ≤ k → k ≤ i → i + n = σ.1 r 3 + 1 → Go (fun _ => 0) 2 mX7_indexOf b 4 [vA r, vI k0, vI k, vI i] [] σ (vI (scan (seenB (fA σ f) (σ.1 r 3)) n i (k0 - k)), σ) := by
  obtain ⟨hg1, hg2, hg3, hg4, hp1, hp2, hp3⟩ := id hR
  obtain ⟨hu1, hu2⟩ := id hU
  intro n
  induction n with
  | zero =>
    intro b i k h0 h1 h2 h3
    refine go_iload_n (at_of tX7_indexOf 0 4 rfl) rfl ?_
    refine go_aload_n (at_of tX7_indexOf 0 5 rfl) rfl ?_
    refine go_getf fl_X7_21 rfl (by first | rfl | assumption) (at_of tX7_indexOf 0 6 rfl) ?_
    refine go_icmp_gt (tgt := 36) (at_of tX7_indexOf 0 7 rfl) (by decide) (fun h9 => ?_) (fun h9 => ?_)
    rotate_left
    · exfalso; omega
    refine go_iconst (at_of tX7_indexOf 1 4 rfl) (by unfold in32; omega) ?_
    exact go_reti (at_of tX7_indexOf 1 5 rfl) rfl
  | succ n ih =>
    intro b i k h0 h1 h2 h3
    refine go_iload_n (at_of tX7_indexOf 0 4 rfl) rfl ?_
    refine go_aload_n (at_of tX7_indexOf 0 5 rfl) rfl ?_
    refine go_getf fl_X7_21 rfl (by first | rfl | assumption) (at_of tX7_indexOf 0 6 rfl) ?_
    refine go_icmp_gt (tgt := 36) (at_of tX7_indexOf 0 7 rfl) (by decide) (fun h9 => ?_) (fun h9 => ?_)
    · exfalso; omega
    refine go_aload_n (at_of tX7_indexOf 0 8 rfl) rfl ?_
    refine go_iload_n (at_of tX7_indexOf 0 9 rfl) rfl ?_
    refine go_cV (con_isSeen hR hU) lk_X7_35 rfl (by first | rfl | assumption) (at_of tX7_indexOf 0 10 rfl) rfl (by decide) rfl (Nat.le_of_ble_eq_true rfl) rfl (by first | decide | exact ⟨Nat.zero_le _, Nat.zero_le _⟩) ?_
    refine go_if_eq (tgt := 30) (at_of tX7_indexOf 0 11 rfl) (by decide) (fun h17 => ?_) (fun h17 => ?_)
    · refine go_iinc (at_of tX7_indexOf 1 2 rfl) rfl (by unfold in32; omega) rfl rfl ?_
      refine go_goto (tgt := 4) (at_of tX7_indexOf 1 3 rfl) (by decide) ?_
      first
        | (rw [scan, if_neg (bI_0.mp h17)]; exact ih _ _ _ (by omega) (by omega) (by omega) (by omega))
        | (rw [scan, if_pos (bI_1.mp h17), if_neg (by omega), show k0 - k - 1 = k0 - (k + 1) by omega]; exact ih _ _ _ (by omega) (by omega) (by omega) (by omega))
    · refine go_iload_n (at_of tX7_indexOf 0 12 rfl) rfl ?_
      refine go_iload_n (at_of tX7_indexOf 0 13 rfl) rfl ?_
      refine go_icmp_ne (tgt := 27) (at_of tX7_indexOf 0 14 rfl) (by decide) (fun h22 => ?_) (fun h22 => ?_)
      · refine go_iinc (at_of tX7_indexOf 1 1 rfl) rfl (by unfold in32; omega) rfl rfl ?_
        refine go_iinc (at_of tX7_indexOf 1 2 rfl) rfl (by unfold in32; omega) rfl rfl ?_
        refine go_goto (tgt := 4) (at_of tX7_indexOf 1 3 rfl) (by decide) ?_
        first
          | (rw [scan, if_neg (bI_0.mp h17)]; exact ih _ _ _ (by omega) (by omega) (by omega) (by omega))
          | (rw [scan, if_pos (bI_1.mp h17), if_neg (by omega), show k0 - k - 1 = k0 - (k + 1) by omega]; exact ih _ _ _ (by omega) (by omega) (by omega) (by omega))
      · refine go_iload_n (at_of tX7_indexOf 0 15 rfl) rfl ?_
        exact go_reti (at_of tX7_indexOf 1 0 rfl) (le_i (by rw [scan, if_pos (bI_1.mp h17), if_pos (by omega)]))
theorem con_indexOf (hR : RowP σ r f g s) (hU : RowU σ r) {k0 : Int} : Con 2 mX7_indexOf 0 0 [vA r, vI k0] σ (vI (ixOf (fA σ f) (σ.1 r 3) k0), σ) := by
  obtain ⟨hg1, hg2, hg3, hg4, hp1, hp2, hp3⟩ := id hR
  obtain ⟨hu1, hu2⟩ := id hU
  refine con_of_go mfX7_indexOf.1 trivial (Nat.le_of_ble_eq_true rfl) rfl (by decide) ?_
  show Go _ _ _ _ 0 [vA _, vI _, vT 9 0, vT 9 0] [] _ _
  refine go_iconst (at_of tX7_indexOf 0 0 rfl) (by unfold in32; omega) ?_
  refine go_istore_n (at_of tX7_indexOf 0 1 rfl) rfl rfl ?_
  refine go_iconst (at_of tX7_indexOf 0 2 rfl) (by unfold in32; omega) ?_
  refine go_istore_n (at_of tX7_indexOf 0 3 rfl) rfl rfl ?_
  have q := lp_indexOf hR hU (k0 := k0) (σ.1 r 3 + 1).toNat (0, 0) 0 0 (by omega) (by omega) (by omega) (by omega)
  rw [Int.sub_zero] at q
  exact q
theorem lp_indexOfOld (hR : RowP σ r f g s) (hU : RowU σ r) {k0 : Int} : ∀ (n : Nat) (b : Nat × Nat) (i k : Int), 0 ≤ i → 0 ≤ k → k ≤ i → i + n = σ.1 r 3 → Go (fun _ => 0) 2 mX7_indexOfOld b 4 [vA r, vI k0, vI k, vI i] [] σ (vI (scan (oldB (fA σ f) (σ.1 r 3)) n i (k0 - k)), σ) := by
  obtain ⟨hg1, hg2, hg3, hg4, hp1, hp2, hp3⟩ := id hR
  obtain ⟨hu1, hu2⟩ := id hU
  intro n
  induction n with
  | zero =>
    intro b i k h0 h1 h2 h3
    refine go_iload_n (at_of tX7_indexOfOld 0 4 rfl) rfl ?_
    refine go_aload_n (at_of tX7_indexOfOld 0 5 rfl) rfl ?_
    refine go_getf fl_X7_21 rfl (by first | rfl | assumption) (at_of tX7_indexOfOld 0 6 rfl) ?_
    refine go_icmp_ge (tgt := 36) (at_of tX7_indexOfOld 0 7 rfl) (by decide) (fun h9 => ?_) (fun h9 => ?_)
    rotate_left
    · exfalso; omega
    refine go_iconst (at_of tX7_indexOfOld 1 4 rfl) (by unfold in32; omega) ?_
    exact go_reti (at_of tX7_indexOfOld 1 5 rfl) rfl
  | succ n ih =>
    intro b i k h0 h1 h2 h3
    refine go_iload_n (at_of tX7_indexOfOld 0 4 rfl) rfl ?_
    refine go_aload_n (at_of tX7_indexOfOld 0 5 rfl) rfl ?_
    refine go_getf fl_X7_21 rfl (by first | rfl | assumption) (at_of tX7_indexOfOld 0 6 rfl) ?_
    refine go_icmp_ge (tgt := 36) (at_of tX7_indexOfOld 0 7 rfl) (by decide) (fun h9 => ?_) (fun h9 => ?_)
    · exfalso; omega
    refine go_aload_n (at_of tX7_indexOfOld 0 8 rfl) rfl ?_
    refine go_iload_n (at_of tX7_indexOfOld 0 9 rfl) rfl ?_
    refine go_cV (con_isOld hR hU) lk_X7_39 rfl (by first | rfl | assumption) (at_of tX7_indexOfOld 0 10 rfl) rfl (by decide) rfl (Nat.le_of_ble_eq_true rfl) rfl (by first | decide | exact ⟨Nat.zero_le _, Nat.zero_le _⟩) ?_
    refine go_if_eq (tgt := 30) (at_of tX7_indexOfOld 0 11 rfl) (by decide) (fun h17 => ?_) (fun h17 => ?_)
    · refine go_iinc (at_of tX7_indexOfOld 1 2 rfl) rfl (by unfold in32; omega) rfl rfl ?_
      refine go_goto (tgt := 4) (at_of tX7_indexOfOld 1 3 rfl) (by decide) ?_
      first
        | (rw [scan, if_neg (bI_0.mp h17)]; exact ih _ _ _ (by omega) (by omega) (by omega) (by omega))
        | (rw [scan, if_pos (bI_1.mp h17), if_neg (by omega), show k0 - k - 1 = k0 - (k + 1) by omega]; exact ih _ _ _ (by omega) (by omega) (by omega) (by omega))
    · refine go_iload_n (at_of tX7_indexOfOld 0 12 rfl) rfl ?_
      refine go_iload_n (at_of tX7_indexOfOld 0 13 rfl) rfl ?_
      refine go_icmp_ne (tgt := 27) (at_of tX7_indexOfOld 0 14 rfl) (by decide) (fun h22 => ?_) (fun h22 => ?_)
      · refine go_iinc (at_of tX7_indexOfOld 1 1 rfl) rfl (by unfold in32; omega) rfl rfl ?_
        refine go_iinc (at_of tX7_indexOfOld 1 2 rfl) rfl (by unfold in32; omega) rfl rfl ?_
        refine go_goto (tgt := 4) (at_of tX7_indexOfOld 1 3 rfl) (by decide) ?_
        first
          | (rw [scan, if_neg (bI_0.mp h17)]; exact ih _ _ _ (by omega) (by omega) (by omega) (by omega))
          | (rw [scan, if_pos (bI_1.mp h17), if_neg (by omega), show k0 - k - 1 = k0 - (k + 1) by omega]; exact ih _ _ _ (by omega) (by omega) (by omega) (by omega))
      · refine go_iload_n (at_of tX7_indexOfOld 0 15 rfl) rfl ?_
        exact go_reti (at_of tX7_indexOfOld 1 0 rfl) (le_i (by rw [scan, if_pos (bI_1.mp h17), if_pos (by omega)]))
theorem con_indexOfOld (hR : RowP σ r f g s) (hU : RowU σ r) {k0 : Int} : Con 2 mX7_indexOfOld 0 0 [vA r, vI k0] σ (vI (ixOld (fA σ f) (σ.1 r 3) k0), σ) := by
  obtain ⟨hg1, hg2, hg3, hg4, hp1, hp2, hp3⟩ := id hR
  obtain ⟨hu1, hu2⟩ := id hU
  refine con_of_go mfX7_indexOfOld.1 trivial (Nat.le_of_ble_eq_true rfl) rfl (by decide) ?_
  show Go _ _ _ _ 0 [vA _, vI _, vT 9 0, vT 9 0] [] _ _
  refine go_iconst (at_of tX7_indexOfOld 0 0 rfl) (by unfold in32; omega) ?_
  refine go_istore_n (at_of tX7_indexOfOld 0 1 rfl) rfl rfl ?_
  refine go_iconst (at_of tX7_indexOfOld 0 2 rfl) (by unfold in32; omega) ?_
  refine go_istore_n (at_of tX7_indexOfOld 0 3 rfl) rfl rfl ?_
  have q := lp_indexOfOld hR hU (k0 := k0) (σ.1 r 3).toNat (0, 0) 0 0 (by omega) (by omega) (by omega) (by omega)
  rw [Int.sub_zero] at q
  exact q
theorem lp_endFrom (hR : RowP σ r f g s) (hU : RowU σ r) {k0 : Int} : ∀ (n : Nat) (b : Nat × Nat) (i : Int), 0 ≤ i → i + n = σ.1 r 3 → Go (fun _ => 0) 2 mX7_endFrom b 10 [vA r, vI k0, vI i] [] σ (vI (fstF (sendB (fA σ f) (σ.1 r 3)) (σ.1 r 3) n i), σ) := by
  obtain ⟨hg1, hg2, hg3, hg4, hp1, hp2, hp3⟩ := id hR
  obtain ⟨hu1, hu2⟩ := id hU
  intro n
  induction n with
  | zero =>
    intro b i h0 h1
    refine go_iload_n (at_of tX7_endFrom 0 6 rfl) rfl ?_
    refine go_aload_n (at_of tX7_endFrom 0 7 rfl) rfl ?_
    refine go_getf fl_X7_21 rfl (by first | rfl | assumption) (at_of tX7_endFrom 0 8 rfl) ?_
    refine go_icmp_ge (tgt := 34) (at_of tX7_endFrom 0 9 rfl) (by decide) (fun h15 => ?_) (fun h15 => ?_)
    rotate_left
    · exfalso; omega
    refine go_aload_n (at_of tX7_endFrom 1 2 rfl) rfl ?_
    refine go_getf fl_X7_21 rfl (by first | rfl | assumption) (at_of tX7_endFrom 1 3 rfl) ?_
    exact go_reti (at_of tX7_endFrom 1 4 rfl) rfl
  | succ n ih =>
    intro b i h0 h1
    refine go_iload_n (at_of tX7_endFrom 0 6 rfl) rfl ?_
    refine go_aload_n (at_of tX7_endFrom 0 7 rfl) rfl ?_
    refine go_getf fl_X7_21 rfl (by first | rfl | assumption) (at_of tX7_endFrom 0 8 rfl) ?_
    refine go_icmp_ge (tgt := 34) (at_of tX7_endFrom 0 9 rfl) (by decide) (fun h15 => ?_) (fun h15 => ?_)
    · exfalso; omega
    refine go_aload_n (at_of tX7_endFrom 0 10 rfl) rfl ?_
    refine go_iload_n (at_of tX7_endFrom 0 11 rfl) rfl ?_
    refine go_cV (con_isSeenEnd hR hU) lk_X7_42 rfl (by first | rfl | assumption) (at_of tX7_endFrom 0 12 rfl) rfl (by decide) rfl (Nat.le_of_ble_eq_true rfl) rfl (by first | decide | exact ⟨Nat.zero_le _, Nat.zero_le _⟩) ?_
    refine go_if_eq (tgt := 28) (at_of tX7_endFrom 0 13 rfl) (by decide) (fun h23 => ?_) (fun h23 => ?_)
    · refine go_iinc (at_of tX7_endFrom 1 0 rfl) rfl (by unfold in32; omega) rfl rfl ?_
      refine go_goto (tgt := 10) (at_of tX7_endFrom 1 1 rfl) (by decide) ?_
      rw [fstF, if_neg (bI_0.mp h23)]; exact ih _ _ (by omega) (by omega)
    · refine go_iload_n (at_of tX7_endFrom 0 14 rfl) rfl ?_
      exact go_reti (at_of tX7_endFrom 0 15 rfl) (le_i (by rw [fstF, if_pos (bI_1.mp h23)]))
theorem con_endFrom (hR : RowP σ r f g s) (hU : RowU σ r) {i : Int} (hi : 0 ≤ i ∧ i ≤ σ.1 r 3) : Con 2 mX7_endFrom 0 0 [vA r, vI i] σ (vI (endFr (fA σ f) (σ.1 r 3) i), σ) := by
  obtain ⟨hg1, hg2, hg3, hg4, hp1, hp2, hp3⟩ := id hR
  obtain ⟨hu1, hu2⟩ := id hU
  refine con_of_go mfX7_endFrom.1 trivial (Nat.le_of_ble_eq_true rfl) rfl (by decide) ?_
  show Go _ _ _ _ 0 [vA _, vI _, vT 9 0] [] _ _
  refine go_iload_n (at_of tX7_endFrom 0 0 rfl) rfl ?_
  refine go_if_ge (tgt := 8) (at_of tX7_endFrom 0 1 rfl) (by decide) (fun h1 => ?_) (fun h1 => ?_)
  rotate_left
  · exfalso; omega
  refine go_iload_n (at_of tX7_endFrom 0 4 rfl) rfl ?_
  refine go_istore_n (at_of tX7_endFrom 0 5 rfl) rfl rfl ?_
  exact lp_endFrom hR hU (σ.1 r 3 - i).toNat _ i (by omega) (by omega)
theorem lp_placeOf (hR : RowP σ r f g s) (hU : RowU σ r) {k0 : Int} : ∀ (n : Nat) (b : Nat × Nat) (i k : Int), 0 ≤ i → 0 ≤ k → k ≤ i → i + n = min k0 (σ.1 r 3) → Go (fun _ => 0) 1 mX7_placeOf b 4 [vA r, vI k0, vI k, vI i] [] σ (vI (k + cntF (leftB (fA σ f)) n i), σ) := by
  obtain ⟨hg1, hg2, hg3, hg4, hp1, hp2, hp3⟩ := id hR
  obtain ⟨hu1, hu2⟩ := id hU
  intro n
  induction n with
  | zero =>
    intro b i k h0 h1 h2 h3
    refine go_iload_n (at_of tX7_placeOf 0 4 rfl) rfl ?_
    refine go_iload_n (at_of tX7_placeOf 0 5 rfl) rfl ?_
    refine go_icmp_ge (tgt := 36) (at_of tX7_placeOf 0 6 rfl) (by decide) (fun h6 => ?_) (fun h6 => ?_)
    · refine go_iload_n (at_of tX7_placeOf 1 4 rfl) rfl ?_
      exact go_reti (at_of tX7_placeOf 1 5 rfl) (le_i (by rw [cntF]; omega))
    · refine go_iload_n (at_of tX7_placeOf 0 7 rfl) rfl ?_
      refine go_aload_n (at_of tX7_placeOf 0 8 rfl) rfl ?_
      refine go_getf fl_X7_21 rfl (by first | rfl | assumption) (at_of tX7_placeOf 0 9 rfl) ?_
      refine go_icmp_ge (tgt := 36) (at_of tX7_placeOf 0 10 rfl) (by decide) (fun h14 => ?_) (fun h14 => ?_)
      rotate_left
      · exfalso; omega
      refine go_iload_n (at_of tX7_placeOf 1 4 rfl) rfl ?_
      exact go_reti (at_of tX7_placeOf 1 5 rfl) (le_i (by rw [cntF]; omega))
  | succ n ih =>
    intro b i k h0 h1 h2 h3
    refine go_iload_n (at_of tX7_placeOf 0 4 rfl) rfl ?_
    refine go_iload_n (at_of tX7_placeOf 0 5 rfl) rfl ?_
    refine go_icmp_ge (tgt := 36) (at_of tX7_placeOf 0 6 rfl) (by decide) (fun h6 => ?_) (fun h6 => ?_)
    · exfalso; omega
    refine go_iload_n (at_of tX7_placeOf 0 7 rfl) rfl ?_
    refine go_aload_n (at_of tX7_placeOf 0 8 rfl) rfl ?_
    refine go_getf fl_X7_21 rfl (by first | rfl | assumption) (at_of tX7_placeOf 0 9 rfl) ?_
    refine go_icmp_ge (tgt := 36) (at_of tX7_placeOf 0 10 rfl) (by decide) (fun h14 => ?_) (fun h14 => ?_)
    · exfalso; omega
    refine go_aload_n (at_of tX7_placeOf 0 11 rfl) rfl ?_
    refine go_iconst (at_of tX7_placeOf 0 12 rfl) (by unfold in32; omega) ?_
    refine go_iload_n (at_of tX7_placeOf 0 13 rfl) rfl ?_
    refine go_cV (con_fact hR (by omega) (by omega)) lk_X7_31 rfl (by first | rfl | assumption) (at_of tX7_placeOf 0 14 rfl) rfl (by decide) rfl (Nat.le_of_ble_eq_true rfl) rfl (by first | decide | exact ⟨Nat.zero_le _, Nat.zero_le _⟩) ?_
    refine go_iconst (at_of tX7_placeOf 0 15 rfl) (by unfold in32; omega) ?_
    refine go_icmp_ne (tgt := 30) (at_of tX7_placeOf 1 0 rfl) (by decide) (fun h24 => ?_) (fun h24 => ?_)
    · refine go_iinc (at_of tX7_placeOf 1 2 rfl) rfl (by unfold in32; omega) rfl rfl ?_
      refine go_goto (tgt := 4) (at_of tX7_placeOf 1 3 rfl) (by decide) ?_
      first
        | (rw [cntF, if_pos (by simp only [leftB, decide_eq_true_eq]; omega), show k + (1 + cntF (leftB (fA σ f)) n (i + 1)) = k + 1 + cntF (leftB (fA σ f)) n (i + 1) by omega]; exact ih _ _ _ (by omega) (by omega) (by omega) (by omega))
        | (rw [cntF, if_neg (by simp only [leftB, decide_eq_true_eq]; omega), show k + (0 + cntF (leftB (fA σ f)) n (i + 1)) = k + cntF (leftB (fA σ f)) n (i + 1) by omega]; exact ih _ _ _ (by omega) (by omega) (by omega) (by omega))
    · refine go_iinc (at_of tX7_placeOf 1 1 rfl) rfl (by unfold in32; omega) rfl rfl ?_
      refine go_iinc (at_of tX7_placeOf 1 2 rfl) rfl (by unfold in32; omega) rfl rfl ?_
      refine go_goto (tgt := 4) (at_of tX7_placeOf 1 3 rfl) (by decide) ?_
      first
        | (rw [cntF, if_pos (by simp only [leftB, decide_eq_true_eq]; omega), show k + (1 + cntF (leftB (fA σ f)) n (i + 1)) = k + 1 + cntF (leftB (fA σ f)) n (i + 1) by omega]; exact ih _ _ _ (by omega) (by omega) (by omega) (by omega))
        | (rw [cntF, if_neg (by simp only [leftB, decide_eq_true_eq]; omega), show k + (0 + cntF (leftB (fA σ f)) n (i + 1)) = k + cntF (leftB (fA σ f)) n (i + 1) by omega]; exact ih _ _ _ (by omega) (by omega) (by omega) (by omega))
theorem con_placeOf (hR : RowP σ r f g s) (hU : RowU σ r) {i : Int} : Con 1 mX7_placeOf 0 0 [vA r, vI i] σ (vI (plOf (fA σ f) (σ.1 r 3) i), σ) := by
  obtain ⟨hg1, hg2, hg3, hg4, hp1, hp2, hp3⟩ := id hR
  obtain ⟨hu1, hu2⟩ := id hU
  unfold plOf
  by_cases hi : 0 ≤ i
  · have q := lp_placeOf hR hU (k0 := i) (min i (σ.1 r 3)).toNat (0, 0) 0 0 (by omega) (by omega) (by omega) (by omega)
    rw [Int.zero_add] at q
    refine con_of_go mfX7_placeOf.1 trivial (Nat.le_of_ble_eq_true rfl) rfl (by decide) ?_
    show Go _ _ _ _ 0 [vA _, vI _, vT 9 0, vT 9 0] [] _ _
    refine go_iconst (at_of tX7_placeOf 0 0 rfl) (by unfold in32; omega) ?_
    refine go_istore_n (at_of tX7_placeOf 0 1 rfl) rfl rfl ?_
    refine go_iconst (at_of tX7_placeOf 0 2 rfl) (by unfold in32; omega) ?_
    refine go_istore_n (at_of tX7_placeOf 0 3 rfl) rfl rfl ?_
    exact q
  · rw [show (min i (σ.1 r 3)).toNat = 0 by omega]
    refine con_of_go mfX7_placeOf.1 trivial (Nat.le_of_ble_eq_true rfl) rfl (by decide) ?_
    show Go _ _ _ _ 0 [vA _, vI _, vT 9 0, vT 9 0] [] _ _
    refine go_iconst (at_of tX7_placeOf 0 0 rfl) (by unfold in32; omega) ?_
    refine go_istore_n (at_of tX7_placeOf 0 1 rfl) rfl rfl ?_
    refine go_iconst (at_of tX7_placeOf 0 2 rfl) (by unfold in32; omega) ?_
    refine go_istore_n (at_of tX7_placeOf 0 3 rfl) rfl rfl ?_
    refine go_iload_n (at_of tX7_placeOf 0 4 rfl) rfl ?_
    refine go_iload_n (at_of tX7_placeOf 0 5 rfl) rfl ?_
    refine go_icmp_ge (tgt := 36) (at_of tX7_placeOf 0 6 rfl) (by decide) (fun h6 => ?_) (fun h6 => ?_)
    rotate_left
    · exfalso; omega
    refine go_iload_n (at_of tX7_placeOf 1 4 rfl) rfl ?_
    exact go_reti (at_of tX7_placeOf 1 5 rfl) rfl
theorem lp_endsAhead (hR : RowP σ r f g s) (hU : RowU σ r) {k0 : Int} : ∀ (n : Nat) (b : Nat × Nat) (i k : Int), 0 ≤ i → 0 ≤ k → k ≤ i → i + n = min k0 (σ.1 r 3) → Go (fun _ => 0) 2 mX7_endsAhead b 4 [vA r, vI k0, vI k, vI i] [] σ (vI (k + cntF (sendB (fA σ f) (σ.1 r 3)) n i), σ) := by
  obtain ⟨hg1, hg2, hg3, hg4, hp1, hp2, hp3⟩ := id hR
  obtain ⟨hu1, hu2⟩ := id hU
  intro n
  induction n with
  | zero =>
    intro b i k h0 h1 h2 h3
    refine go_iload_n (at_of tX7_endsAhead 0 4 rfl) rfl ?_
    refine go_iload_n (at_of tX7_endsAhead 0 5 rfl) rfl ?_
    refine go_icmp_ge (tgt := 34) (at_of tX7_endsAhead 0 6 rfl) (by decide) (fun h6 => ?_) (fun h6 => ?_)
    · refine go_iload_n (at_of tX7_endsAhead 1 2 rfl) rfl ?_
      exact go_reti (at_of tX7_endsAhead 1 3 rfl) (le_i (by rw [cntF]; omega))
    · refine go_iload_n (at_of tX7_endsAhead 0 7 rfl) rfl ?_
      refine go_aload_n (at_of tX7_endsAhead 0 8 rfl) rfl ?_
      refine go_getf fl_X7_21 rfl (by first | rfl | assumption) (at_of tX7_endsAhead 0 9 rfl) ?_
      refine go_icmp_ge (tgt := 34) (at_of tX7_endsAhead 0 10 rfl) (by decide) (fun h14 => ?_) (fun h14 => ?_)
      rotate_left
      · exfalso; omega
      refine go_iload_n (at_of tX7_endsAhead 1 2 rfl) rfl ?_
      exact go_reti (at_of tX7_endsAhead 1 3 rfl) (le_i (by rw [cntF]; omega))
  | succ n ih =>
    intro b i k h0 h1 h2 h3
    refine go_iload_n (at_of tX7_endsAhead 0 4 rfl) rfl ?_
    refine go_iload_n (at_of tX7_endsAhead 0 5 rfl) rfl ?_
    refine go_icmp_ge (tgt := 34) (at_of tX7_endsAhead 0 6 rfl) (by decide) (fun h6 => ?_) (fun h6 => ?_)
    · exfalso; omega
    refine go_iload_n (at_of tX7_endsAhead 0 7 rfl) rfl ?_
    refine go_aload_n (at_of tX7_endsAhead 0 8 rfl) rfl ?_
    refine go_getf fl_X7_21 rfl (by first | rfl | assumption) (at_of tX7_endsAhead 0 9 rfl) ?_
    refine go_icmp_ge (tgt := 34) (at_of tX7_endsAhead 0 10 rfl) (by decide) (fun h14 => ?_) (fun h14 => ?_)
    · exfalso; omega
    refine go_aload_n (at_of tX7_endsAhead 0 11 rfl) rfl ?_
    refine go_iload_n (at_of tX7_endsAhead 0 12 rfl) rfl ?_
    refine go_cV (con_isSeenEnd hR hU) lk_X7_42 rfl (by first | rfl | assumption) (at_of tX7_endsAhead 0 13 rfl) rfl (by decide) rfl (Nat.le_of_ble_eq_true rfl) rfl (by first | decide | exact ⟨Nat.zero_le _, Nat.zero_le _⟩) ?_
    refine go_if_eq (tgt := 28) (at_of tX7_endsAhead 0 14 rfl) (by decide) (fun h22 => ?_) (fun h22 => ?_)
    · refine go_iinc (at_of tX7_endsAhead 1 0 rfl) rfl (by unfold in32; omega) rfl rfl ?_
      refine go_goto (tgt := 4) (at_of tX7_endsAhead 1 1 rfl) (by decide) ?_
      first
        | (rw [cntF, if_pos (bI_1.mp h22), show k + (1 + cntF (sendB (fA σ f) (σ.1 r 3)) n (i + 1)) = k + 1 + cntF (sendB (fA σ f) (σ.1 r 3)) n (i + 1) by omega]; exact ih _ _ _ (by omega) (by omega) (by omega) (by omega))
        | (rw [cntF, if_neg (bI_0.mp h22), show k + (0 + cntF (sendB (fA σ f) (σ.1 r 3)) n (i + 1)) = k + cntF (sendB (fA σ f) (σ.1 r 3)) n (i + 1) by omega]; exact ih _ _ _ (by omega) (by omega) (by omega) (by omega))
    · refine go_iinc (at_of tX7_endsAhead 0 15 rfl) rfl (by unfold in32; omega) rfl rfl ?_
      refine go_iinc (at_of tX7_endsAhead 1 0 rfl) rfl (by unfold in32; omega) rfl rfl ?_
      refine go_goto (tgt := 4) (at_of tX7_endsAhead 1 1 rfl) (by decide) ?_
      first
        | (rw [cntF, if_pos (bI_1.mp h22), show k + (1 + cntF (sendB (fA σ f) (σ.1 r 3)) n (i + 1)) = k + 1 + cntF (sendB (fA σ f) (σ.1 r 3)) n (i + 1) by omega]; exact ih _ _ _ (by omega) (by omega) (by omega) (by omega))
        | (rw [cntF, if_neg (bI_0.mp h22), show k + (0 + cntF (sendB (fA σ f) (σ.1 r 3)) n (i + 1)) = k + cntF (sendB (fA σ f) (σ.1 r 3)) n (i + 1) by omega]; exact ih _ _ _ (by omega) (by omega) (by omega) (by omega))
theorem con_endsAhead (hR : RowP σ r f g s) (hU : RowU σ r) {i : Int} (hi : 0 ≤ i) : Con 2 mX7_endsAhead 0 0 [vA r, vI i] σ (vI (endsA (fA σ f) (σ.1 r 3) i), σ) := by
  obtain ⟨hg1, hg2, hg3, hg4, hp1, hp2, hp3⟩ := id hR
  obtain ⟨hu1, hu2⟩ := id hU
  unfold endsA
  have q := lp_endsAhead hR hU (k0 := i) (min i (σ.1 r 3)).toNat (0, 0) 0 0 (by omega) (by omega) (by omega) (by omega)
  rw [Int.zero_add] at q
  refine con_of_go mfX7_endsAhead.1 trivial (Nat.le_of_ble_eq_true rfl) rfl (by decide) ?_
  show Go _ _ _ _ 0 [vA _, vI _, vT 9 0, vT 9 0] [] _ _
  refine go_iconst (at_of tX7_endsAhead 0 0 rfl) (by unfold in32; omega) ?_
  refine go_istore_n (at_of tX7_endsAhead 0 1 rfl) rfl rfl ?_
  refine go_iconst (at_of tX7_endsAhead 0 2 rfl) (by unfold in32; omega) ?_
  refine go_istore_n (at_of tX7_endsAhead 0 3 rfl) rfl rfl ?_
  exact q
theorem lp_oldUnits (hR : RowP σ r f g s) (hU : RowU σ r) : ∀ (n : Nat) (b : Nat × Nat) (i k : Int), 0 ≤ i → 0 ≤ k → k ≤ i → i + n = σ.1 r 3 → Go (fun _ => 0) 2 mX7_oldUnits b 4 [vA r, vI k, vI i] [] σ (vI (k + cntF (oldB (fA σ f) (σ.1 r 3)) n i), σ) := by
  obtain ⟨hg1, hg2, hg3, hg4, hp1, hp2, hp3⟩ := id hR
  obtain ⟨hu1, hu2⟩ := id hU
  intro n
  induction n with
  | zero =>
    intro b i k h0 h1 h2 h3
    refine go_iload_n (at_of tX7_oldUnits 0 4 rfl) rfl ?_
    refine go_aload_n (at_of tX7_oldUnits 0 5 rfl) rfl ?_
    refine go_getf fl_X7_21 rfl (by first | rfl | assumption) (at_of tX7_oldUnits 0 6 rfl) ?_
    refine go_icmp_ge (tgt := 29) (at_of tX7_oldUnits 0 7 rfl) (by decide) (fun h9 => ?_) (fun h9 => ?_)
    rotate_left
    · exfalso; omega
    refine go_iload_n (at_of tX7_oldUnits 0 15 rfl) rfl ?_
    exact go_reti (at_of tX7_oldUnits 1 0 rfl) (le_i (by rw [cntF]; omega))
  | succ n ih =>
    intro b i k h0 h1 h2 h3
    refine go_iload_n (at_of tX7_oldUnits 0 4 rfl) rfl ?_
    refine go_aload_n (at_of tX7_oldUnits 0 5 rfl) rfl ?_
    refine go_getf fl_X7_21 rfl (by first | rfl | assumption) (at_of tX7_oldUnits 0 6 rfl) ?_
    refine go_icmp_ge (tgt := 29) (at_of tX7_oldUnits 0 7 rfl) (by decide) (fun h9 => ?_) (fun h9 => ?_)
    · exfalso; omega
    refine go_aload_n (at_of tX7_oldUnits 0 8 rfl) rfl ?_
    refine go_iload_n (at_of tX7_oldUnits 0 9 rfl) rfl ?_
    refine go_cV (con_isOld hR hU) lk_X7_39 rfl (by first | rfl | assumption) (at_of tX7_oldUnits 0 10 rfl) rfl (by decide) rfl (Nat.le_of_ble_eq_true rfl) rfl (by first | decide | exact ⟨Nat.zero_le _, Nat.zero_le _⟩) ?_
    refine go_if_eq (tgt := 23) (at_of tX7_oldUnits 0 11 rfl) (by decide) (fun h17 => ?_) (fun h17 => ?_)
    · refine go_iinc (at_of tX7_oldUnits 0 13 rfl) rfl (by unfold in32; omega) rfl rfl ?_
      refine go_goto (tgt := 4) (at_of tX7_oldUnits 0 14 rfl) (by decide) ?_
      first
        | (rw [cntF, if_pos (bI_1.mp h17), show k + (1 + cntF (oldB (fA σ f) (σ.1 r 3)) n (i + 1)) = k + 1 + cntF (oldB (fA σ f) (σ.1 r 3)) n (i + 1) by omega]; exact ih _ _ _ (by omega) (by omega) (by omega) (by omega))
        | (rw [cntF, if_neg (bI_0.mp h17), show k + (0 + cntF (oldB (fA σ f) (σ.1 r 3)) n (i + 1)) = k + cntF (oldB (fA σ f) (σ.1 r 3)) n (i + 1) by omega]; exact ih _ _ _ (by omega) (by omega) (by omega) (by omega))
    · refine go_iinc (at_of tX7_oldUnits 0 12 rfl) rfl (by unfold in32; omega) rfl rfl ?_
      refine go_iinc (at_of tX7_oldUnits 0 13 rfl) rfl (by unfold in32; omega) rfl rfl ?_
      refine go_goto (tgt := 4) (at_of tX7_oldUnits 0 14 rfl) (by decide) ?_
      first
        | (rw [cntF, if_pos (bI_1.mp h17), show k + (1 + cntF (oldB (fA σ f) (σ.1 r 3)) n (i + 1)) = k + 1 + cntF (oldB (fA σ f) (σ.1 r 3)) n (i + 1) by omega]; exact ih _ _ _ (by omega) (by omega) (by omega) (by omega))
        | (rw [cntF, if_neg (bI_0.mp h17), show k + (0 + cntF (oldB (fA σ f) (σ.1 r 3)) n (i + 1)) = k + cntF (oldB (fA σ f) (σ.1 r 3)) n (i + 1) by omega]; exact ih _ _ _ (by omega) (by omega) (by omega) (by omega))
theorem lp_waitingUnits (hR : RowP σ r f g s) (hU : RowU σ r) : ∀ (n : Nat) (b : Nat × Nat) (i k : Int), 0 ≤ i → 0 ≤ k → k ≤ i → i + n = σ.1 r 3 → Go (fun _ => 0) 1 mX7_waitingUnits b 4 [vA r, vI k, vI i] [] σ (vI (k + cntF (waitB (fA σ f)) n i), σ) := by
  obtain ⟨hg1, hg2, hg3, hg4, hp1, hp2, hp3⟩ := id hR
  obtain ⟨hu1, hu2⟩ := id hU
  intro n
  induction n with
  | zero =>
    intro b i k h0 h1 h2 h3
    refine go_iload_n (at_of tX7_waitingUnits 0 4 rfl) rfl ?_
    refine go_aload_n (at_of tX7_waitingUnits 0 5 rfl) rfl ?_
    refine go_getf fl_X7_21 rfl (by first | rfl | assumption) (at_of tX7_waitingUnits 0 6 rfl) ?_
    refine go_icmp_ge (tgt := 41) (at_of tX7_waitingUnits 0 7 rfl) (by decide) (fun h9 => ?_) (fun h9 => ?_)
    rotate_left
    · exfalso; omega
    refine go_iload_n (at_of tX7_waitingUnits 1 7 rfl) rfl ?_
    exact go_reti (at_of tX7_waitingUnits 1 8 rfl) (le_i (by rw [cntF]; omega))
  | succ n ih =>
    intro b i k h0 h1 h2 h3
    refine go_iload_n (at_of tX7_waitingUnits 0 4 rfl) rfl ?_
    refine go_aload_n (at_of tX7_waitingUnits 0 5 rfl) rfl ?_
    refine go_getf fl_X7_21 rfl (by first | rfl | assumption) (at_of tX7_waitingUnits 0 6 rfl) ?_
    refine go_icmp_ge (tgt := 41) (at_of tX7_waitingUnits 0 7 rfl) (by decide) (fun h9 => ?_) (fun h9 => ?_)
    · exfalso; omega
    refine go_aload_n (at_of tX7_waitingUnits 0 8 rfl) rfl ?_
    refine go_iconst (at_of tX7_waitingUnits 0 9 rfl) (by unfold in32; omega) ?_
    refine go_iload_n (at_of tX7_waitingUnits 0 10 rfl) rfl ?_
    refine go_cV (con_fact hR (by omega) (by omega)) lk_X7_31 rfl (by first | rfl | assumption) (at_of tX7_waitingUnits 0 11 rfl) rfl (by decide) rfl (Nat.le_of_ble_eq_true rfl) rfl (by first | decide | exact ⟨Nat.zero_le _, Nat.zero_le _⟩) ?_
    refine go_iconst (at_of tX7_waitingUnits 0 12 rfl) (by unfold in32; omega) ?_
    refine go_icmp_ne (tgt := 32) (at_of tX7_waitingUnits 0 13 rfl) (by decide) (fun h19 => ?_) (fun h19 => ?_)
    · refine go_iinc (at_of tX7_waitingUnits 1 4 rfl) rfl (by unfold in32; omega) rfl rfl ?_
      refine go_iinc (at_of tX7_waitingUnits 1 5 rfl) rfl (by unfold in32; omega) rfl rfl ?_
      refine go_goto (tgt := 4) (at_of tX7_waitingUnits 1 6 rfl) (by decide) ?_
      first
        | (rw [cntF, if_pos (by simp only [waitB, decide_eq_true_eq]; omega), show k + (1 + cntF (waitB (fA σ f)) n (i + 1)) = k + 1 + cntF (waitB (fA σ f)) n (i + 1) by omega]; exact ih _ _ _ (by omega) (by omega) (by omega) (by omega))
        | (rw [cntF, if_neg (by simp only [waitB, decide_eq_true_eq]; omega), show k + (0 + cntF (waitB (fA σ f)) n (i + 1)) = k + cntF (waitB (fA σ f)) n (i + 1) by omega]; exact ih _ _ _ (by omega) (by omega) (by omega) (by omega))
    · refine go_aload_n (at_of tX7_waitingUnits 0 14 rfl) rfl ?_
      refine go_iconst (at_of tX7_waitingUnits 0 15 rfl) (by unfold in32; omega) ?_
      refine go_iload_n (at_of tX7_waitingUnits 1 0 rfl) rfl ?_
      refine go_cV (con_fact hR (by omega) (by omega)) lk_X7_31 rfl (by first | rfl | assumption) (at_of tX7_waitingUnits 1 1 rfl) rfl (by decide) rfl (Nat.le_of_ble_eq_true rfl) rfl (by first | decide | exact ⟨Nat.zero_le _, Nat.zero_le _⟩) ?_
      refine go_iconst (at_of tX7_waitingUnits 1 2 rfl) (by unfold in32; omega) ?_
      refine go_icmp_eq (tgt := 35) (at_of tX7_waitingUnits 1 3 rfl) (by decide) (fun h29 => ?_) (fun h29 => ?_)
      · refine go_iinc (at_of tX7_waitingUnits 1 5 rfl) rfl (by unfold in32; omega) rfl rfl ?_
        refine go_goto (tgt := 4) (at_of tX7_waitingUnits 1 6 rfl) (by decide) ?_
        first
          | (rw [cntF, if_pos (by simp only [waitB, decide_eq_true_eq]; omega), show k + (1 + cntF (waitB (fA σ f)) n (i + 1)) = k + 1 + cntF (waitB (fA σ f)) n (i + 1) by omega]; exact ih _ _ _ (by omega) (by omega) (by omega) (by omega))
          | (rw [cntF, if_neg (by simp only [waitB, decide_eq_true_eq]; omega), show k + (0 + cntF (waitB (fA σ f)) n (i + 1)) = k + cntF (waitB (fA σ f)) n (i + 1) by omega]; exact ih _ _ _ (by omega) (by omega) (by omega) (by omega))
      · refine go_iinc (at_of tX7_waitingUnits 1 4 rfl) rfl (by unfold in32; omega) rfl rfl ?_
        refine go_iinc (at_of tX7_waitingUnits 1 5 rfl) rfl (by unfold in32; omega) rfl rfl ?_
        refine go_goto (tgt := 4) (at_of tX7_waitingUnits 1 6 rfl) (by decide) ?_
        first
          | (rw [cntF, if_pos (by simp only [waitB, decide_eq_true_eq]; omega), show k + (1 + cntF (waitB (fA σ f)) n (i + 1)) = k + 1 + cntF (waitB (fA σ f)) n (i + 1) by omega]; exact ih _ _ _ (by omega) (by omega) (by omega) (by omega))
          | (rw [cntF, if_neg (by simp only [waitB, decide_eq_true_eq]; omega), show k + (0 + cntF (waitB (fA σ f)) n (i + 1)) = k + cntF (waitB (fA σ f)) n (i + 1) by omega]; exact ih _ _ _ (by omega) (by omega) (by omega) (by omega))
theorem lp_concerned (hR : RowP σ r f g s) (hU : RowU σ r) {c : Int} : ∀ (n : Nat) (b : Nat × Nat) (i k : Int), 0 ≤ i → 0 ≤ k → k ≤ i → i + n = σ.1 r 3 + 1 → Go (fun _ => 0) 1 mX7_concerned b 4 [vA r, vI c, vI k, vI i] [] σ (vI (k + cntF (concB (fA σ f) c) n i), σ) := by
  obtain ⟨hg1, hg2, hg3, hg4, hp1, hp2, hp3⟩ := id hR
  obtain ⟨hu1, hu2⟩ := id hU
  intro n
  induction n with
  | zero =>
    intro b i k h0 h1 h2 h3
    refine go_iload_n (at_of tX7_concerned 0 4 rfl) rfl ?_
    refine go_aload_n (at_of tX7_concerned 0 5 rfl) rfl ?_
    refine go_getf fl_X7_21 rfl (by first | rfl | assumption) (at_of tX7_concerned 0 6 rfl) ?_
    refine go_icmp_gt (tgt := 51) (at_of tX7_concerned 0 7 rfl) (by decide) (fun h9 => ?_) (fun h9 => ?_)
    rotate_left
    · exfalso; omega
    refine go_iload_n (at_of tX7_concerned 1 13 rfl) rfl ?_
    exact go_reti (at_of tX7_concerned 1 14 rfl) (le_i (by rw [cntF]; omega))
  | succ n ih =>
    intro b i k h0 h1 h2 h3
    refine go_iload_n (at_of tX7_concerned 0 4 rfl) rfl ?_
    refine go_aload_n (at_of tX7_concerned 0 5 rfl) rfl ?_
    refine go_getf fl_X7_21 rfl (by first | rfl | assumption) (at_of tX7_concerned 0 6 rfl) ?_
    refine go_icmp_gt (tgt := 51) (at_of tX7_concerned 0 7 rfl) (by decide) (fun h9 => ?_) (fun h9 => ?_)
    · exfalso; omega
    refine go_aload_n (at_of tX7_concerned 0 8 rfl) rfl ?_
    refine go_iconst (at_of tX7_concerned 0 9 rfl) (by unfold in32; omega) ?_
    refine go_iload_n (at_of tX7_concerned 0 10 rfl) rfl ?_
    refine go_cV (con_fact hR (by omega) (by omega)) lk_X7_31 rfl (by first | rfl | assumption) (at_of tX7_concerned 0 11 rfl) rfl (by decide) rfl (Nat.le_of_ble_eq_true rfl) rfl (by first | decide | exact ⟨Nat.zero_le _, Nat.zero_le _⟩) ?_
    refine go_iload_n (at_of tX7_concerned 0 12 rfl) rfl ?_
    refine go_icmp_eq (tgt := 42) (at_of tX7_concerned 0 13 rfl) (by decide) (fun h19 => ?_) (fun h19 => ?_)
    · refine go_iinc (at_of tX7_concerned 1 10 rfl) rfl (by unfold in32; omega) rfl rfl ?_
      refine go_iinc (at_of tX7_concerned 1 11 rfl) rfl (by unfold in32; omega) rfl rfl ?_
      refine go_goto (tgt := 4) (at_of tX7_concerned 1 12 rfl) (by decide) ?_
      first
        | (rw [cntF, if_pos (by simp only [concB, decide_eq_true_eq]; omega), show k + (1 + cntF (concB (fA σ f) c) n (i + 1)) = k + 1 + cntF (concB (fA σ f) c) n (i + 1) by omega]; exact ih _ _ _ (by omega) (by omega) (by omega) (by omega))
        | (rw [cntF, if_neg (by simp only [concB, decide_eq_true_eq]; omega), show k + (0 + cntF (concB (fA σ f) c) n (i + 1)) = k + cntF (concB (fA σ f) c) n (i + 1) by omega]; exact ih _ _ _ (by omega) (by omega) (by omega) (by omega))
    · refine go_aload_n (at_of tX7_concerned 0 14 rfl) rfl ?_
      refine go_iconst (at_of tX7_concerned 0 15 rfl) (by unfold in32; omega) ?_
      refine go_iload_n (at_of tX7_concerned 1 0 rfl) rfl ?_
      refine go_cV (con_fact hR (by omega) (by omega)) lk_X7_31 rfl (by first | rfl | assumption) (at_of tX7_concerned 1 1 rfl) rfl (by decide) rfl (Nat.le_of_ble_eq_true rfl) rfl (by first | decide | exact ⟨Nat.zero_le _, Nat.zero_le _⟩) ?_
      refine go_iload_n (at_of tX7_concerned 1 2 rfl) rfl ?_
      refine go_icmp_eq (tgt := 42) (at_of tX7_concerned 1 3 rfl) (by decide) (fun h29 => ?_) (fun h29 => ?_)
      · refine go_iinc (at_of tX7_concerned 1 10 rfl) rfl (by unfold in32; omega) rfl rfl ?_
        refine go_iinc (at_of tX7_concerned 1 11 rfl) rfl (by unfold in32; omega) rfl rfl ?_
        refine go_goto (tgt := 4) (at_of tX7_concerned 1 12 rfl) (by decide) ?_
        first
          | (rw [cntF, if_pos (by simp only [concB, decide_eq_true_eq]; omega), show k + (1 + cntF (concB (fA σ f) c) n (i + 1)) = k + 1 + cntF (concB (fA σ f) c) n (i + 1) by omega]; exact ih _ _ _ (by omega) (by omega) (by omega) (by omega))
          | (rw [cntF, if_neg (by simp only [concB, decide_eq_true_eq]; omega), show k + (0 + cntF (concB (fA σ f) c) n (i + 1)) = k + cntF (concB (fA σ f) c) n (i + 1) by omega]; exact ih _ _ _ (by omega) (by omega) (by omega) (by omega))
      · refine go_aload_n (at_of tX7_concerned 1 4 rfl) rfl ?_
        refine go_iconst (at_of tX7_concerned 1 5 rfl) (by unfold in32; omega) ?_
        refine go_iload_n (at_of tX7_concerned 1 6 rfl) rfl ?_
        refine go_cV (con_fact hR (by omega) (by omega)) lk_X7_31 rfl (by first | rfl | assumption) (at_of tX7_concerned 1 7 rfl) rfl (by decide) rfl (Nat.le_of_ble_eq_true rfl) rfl (by first | decide | exact ⟨Nat.zero_le _, Nat.zero_le _⟩) ?_
        refine go_iload_n (at_of tX7_concerned 1 8 rfl) rfl ?_
        refine go_icmp_ne (tgt := 45) (at_of tX7_concerned 1 9 rfl) (by decide) (fun h39 => ?_) (fun h39 => ?_)
        · refine go_iinc (at_of tX7_concerned 1 11 rfl) rfl (by unfold in32; omega) rfl rfl ?_
          refine go_goto (tgt := 4) (at_of tX7_concerned 1 12 rfl) (by decide) ?_
          first
            | (rw [cntF, if_pos (by simp only [concB, decide_eq_true_eq]; omega), show k + (1 + cntF (concB (fA σ f) c) n (i + 1)) = k + 1 + cntF (concB (fA σ f) c) n (i + 1) by omega]; exact ih _ _ _ (by omega) (by omega) (by omega) (by omega))
            | (rw [cntF, if_neg (by simp only [concB, decide_eq_true_eq]; omega), show k + (0 + cntF (concB (fA σ f) c) n (i + 1)) = k + cntF (concB (fA σ f) c) n (i + 1) by omega]; exact ih _ _ _ (by omega) (by omega) (by omega) (by omega))
        · refine go_iinc (at_of tX7_concerned 1 10 rfl) rfl (by unfold in32; omega) rfl rfl ?_
          refine go_iinc (at_of tX7_concerned 1 11 rfl) rfl (by unfold in32; omega) rfl rfl ?_
          refine go_goto (tgt := 4) (at_of tX7_concerned 1 12 rfl) (by decide) ?_
          first
            | (rw [cntF, if_pos (by simp only [concB, decide_eq_true_eq]; omega), show k + (1 + cntF (concB (fA σ f) c) n (i + 1)) = k + 1 + cntF (concB (fA σ f) c) n (i + 1) by omega]; exact ih _ _ _ (by omega) (by omega) (by omega) (by omega))
            | (rw [cntF, if_neg (by simp only [concB, decide_eq_true_eq]; omega), show k + (0 + cntF (concB (fA σ f) c) n (i + 1)) = k + cntF (concB (fA σ f) c) n (i + 1) by omega]; exact ih _ _ _ (by omega) (by omega) (by omega) (by omega))
theorem con_oldUnits (hR : RowP σ r f g s) (hU : RowU σ r) : Con 2 mX7_oldUnits 0 0 [vA r] σ (vI (oldN (fA σ f) (σ.1 r 3)), σ) := by
  obtain ⟨hg1, hg2, hg3, hg4, hp1, hp2, hp3⟩ := id hR
  obtain ⟨hu1, hu2⟩ := id hU
  unfold oldN
  have q := lp_oldUnits hR hU (σ.1 r 3).toNat (0, 0) 0 0 (by omega) (by omega) (by omega) (by omega)
  rw [Int.zero_add] at q
  refine con_of_go mfX7_oldUnits.1 trivial (Nat.le_of_ble_eq_true rfl) rfl (by decide) ?_
  show Go _ _ _ _ 0 [vA _, vT 9 0, vT 9 0] [] _ _
  refine go_iconst (at_of tX7_oldUnits 0 0 rfl) (by unfold in32; omega) ?_
  refine go_istore_n (at_of tX7_oldUnits 0 1 rfl) rfl rfl ?_
  refine go_iconst (at_of tX7_oldUnits 0 2 rfl) (by unfold in32; omega) ?_
  refine go_istore_n (at_of tX7_oldUnits 0 3 rfl) rfl rfl ?_
  exact q
theorem con_waitingUnits (hR : RowP σ r f g s) (hU : RowU σ r) : Con 1 mX7_waitingUnits 0 0 [vA r] σ (vI (waitN (fA σ f) (σ.1 r 3)), σ) := by
  obtain ⟨hg1, hg2, hg3, hg4, hp1, hp2, hp3⟩ := id hR
  obtain ⟨hu1, hu2⟩ := id hU
  unfold waitN
  have q := lp_waitingUnits hR hU (σ.1 r 3).toNat (0, 0) 0 0 (by omega) (by omega) (by omega) (by omega)
  rw [Int.zero_add] at q
  refine con_of_go mfX7_waitingUnits.1 trivial (Nat.le_of_ble_eq_true rfl) rfl (by decide) ?_
  show Go _ _ _ _ 0 [vA _, vT 9 0, vT 9 0] [] _ _
  refine go_iconst (at_of tX7_waitingUnits 0 0 rfl) (by unfold in32; omega) ?_
  refine go_istore_n (at_of tX7_waitingUnits 0 1 rfl) rfl rfl ?_
  refine go_iconst (at_of tX7_waitingUnits 0 2 rfl) (by unfold in32; omega) ?_
  refine go_istore_n (at_of tX7_waitingUnits 0 3 rfl) rfl rfl ?_
  exact q
theorem con_concerned (hR : RowP σ r f g s) (hU : RowU σ r) {c : Int} : Con 1 mX7_concerned 0 0 [vA r, vI c] σ (vI (concN (fA σ f) (σ.1 r 3) c), σ) := by
  obtain ⟨hg1, hg2, hg3, hg4, hp1, hp2, hp3⟩ := id hR
  obtain ⟨hu1, hu2⟩ := id hU
  unfold concN
  have q := lp_concerned hR hU (c := c) (σ.1 r 3 + 1).toNat (0, 0) 0 0 (by omega) (by omega) (by omega) (by omega)
  rw [Int.zero_add] at q
  refine con_of_go mfX7_concerned.1 trivial (Nat.le_of_ble_eq_true rfl) rfl (by decide) ?_
  show Go _ _ _ _ 0 [vA _, vI _, vT 9 0, vT 9 0] [] _ _
  refine go_iconst (at_of tX7_concerned 0 0 rfl) (by unfold in32; omega) ?_
  refine go_istore_n (at_of tX7_concerned 0 1 rfl) rfl rfl ?_
  refine go_iconst (at_of tX7_concerned 0 2 rfl) (by unfold in32; omega) ?_
  refine go_istore_n (at_of tX7_concerned 0 3 rfl) rfl rfl ?_
  exact q
theorem con_seenUnits (hR : RowP σ r f g s) (hU : RowU σ r) : Con 2 mX7_seenUnits 0 0 [vA r] σ (vI (plOf (fA σ f) (σ.1 r 3) (σ.1 r 3)), σ) := by
  obtain ⟨hg1, hg2, hg3, hg4, hp1, hp2, hp3⟩ := id hR
  obtain ⟨hu1, hu2⟩ := id hU
  refine con_of_go mfX7_seenUnits.1 trivial (Nat.le_of_ble_eq_true rfl) rfl (by decide) ?_
  show Go _ _ _ _ 0 [vA _] [] _ _
  refine go_aload_n (at_of tX7_seenUnits 0 0 rfl) rfl ?_
  refine go_aload_n (at_of tX7_seenUnits 0 1 rfl) rfl ?_
  refine go_getf fl_X7_21 rfl (by first | rfl | assumption) (at_of tX7_seenUnits 0 2 rfl) ?_
  refine go_cV (con_placeOf hR hU) lk_X7_49 rfl (by first | rfl | assumption) (at_of tX7_seenUnits 0 3 rfl) rfl (by decide) rfl (Nat.le_of_ble_eq_true rfl) rfl (by first | decide | exact ⟨Nat.zero_le _, Nat.zero_le _⟩) ?_
  exact go_reti (at_of tX7_seenUnits 0 4 rfl) rfl
theorem plOf_le {F : Int → Int → Int} {n i : Int} : 0 ≤ plOf F n i ∧ (0 ≤ n → plOf F n i ≤ n) := by
  unfold plOf; have := cntF_le (leftB F) (min i n).toNat 0; omega
theorem endsA_le {F : Int → Int → Int} {n i : Int} : 0 ≤ endsA F n i ∧ (0 ≤ n → endsA F n i ≤ n) := by
  unfold endsA; have := cntF_le (sendB F n) (min i n).toNat 0; omega
theorem con_seenParagraphs (hR : RowP σ r f g s) (hU : RowU σ r) : Con 3 mX7_seenParagraphs 0 0 [vA r] σ (vI (endsA (fA σ f) (σ.1 r 3) (σ.1 r 3) + 1), σ) := by
  obtain ⟨hg1, hg2, hg3, hg4, hp1, hp2, hp3⟩ := id hR
  obtain ⟨hu1, hu2⟩ := id hU
  have q := @endsA_le (fA σ f) (σ.1 r 3) (σ.1 r 3)
  refine con_of_go mfX7_seenParagraphs.1 trivial (Nat.le_of_ble_eq_true rfl) rfl (by decide) ?_
  show Go _ _ _ _ 0 [vA _] [] _ _
  refine go_aload_n (at_of tX7_seenParagraphs 0 0 rfl) rfl ?_
  refine go_aload_n (at_of tX7_seenParagraphs 0 1 rfl) rfl ?_
  refine go_getf fl_X7_21 rfl (by first | rfl | assumption) (at_of tX7_seenParagraphs 0 2 rfl) ?_
  refine go_cV (con_endsAhead hR hU (by omega)) lk_X7_52 rfl (by first | rfl | assumption) (at_of tX7_seenParagraphs 0 3 rfl) rfl (by decide) rfl (Nat.le_of_ble_eq_true rfl) rfl (by first | decide | exact ⟨Nat.zero_le _, Nat.zero_le _⟩) ?_
  refine go_iconst (at_of tX7_seenParagraphs 0 4 rfl) (by unfold in32; omega) ?_
  refine go_iadd (at_of tX7_seenParagraphs 0 5 rfl) (by unfold in32; omega) ?_
  exact go_reti (at_of tX7_seenParagraphs 0 6 rfl) rfl
theorem lp_isGuarded (hR : RowP σ r f g s) (hU : RowU σ r) {a z : Int} : ∀ (n : Nat) (b : Nat × Nat) (i : Int), 0 ≤ i → i + n = σ.1 r 3 + 1 → Go (fun _ => 0) 2 mX7_isGuarded b 2 [vA r, vI a, vI z, vI i] [] σ (vI (bI (grdF (fA σ f) (σ.1 r 3) z n i = true)), σ) := by
  obtain ⟨hg1, hg2, hg3, hg4, hp1, hp2, hp3⟩ := id hR
  obtain ⟨hu1, hu2⟩ := id hU
  intro n
  induction n with
  | zero =>
    intro b i h0 h1
    refine go_iload_n (at_of tX7_isGuarded 0 2 rfl) rfl ?_
    refine go_aload_n (at_of tX7_isGuarded 0 3 rfl) rfl ?_
    refine go_getf fl_X7_21 rfl (by first | rfl | assumption) (at_of tX7_isGuarded 0 4 rfl) ?_
    refine go_icmp_gt (tgt := 44) (at_of tX7_isGuarded 0 5 rfl) (by decide) (fun h7 => ?_) (fun h7 => ?_)
    rotate_left
    · exfalso; omega
    refine go_iconst (at_of tX7_isGuarded 1 9 rfl) (by unfold in32; omega) ?_
    exact go_reti (at_of tX7_isGuarded 1 10 rfl) (le_i (bI_f (by rw [grdF]; decide)))
  | succ n ih =>
    intro b i h0 h1
    rw [grdF]
    refine go_iload_n (at_of tX7_isGuarded 0 2 rfl) rfl ?_
    refine go_aload_n (at_of tX7_isGuarded 0 3 rfl) rfl ?_
    refine go_getf fl_X7_21 rfl (by first | rfl | assumption) (at_of tX7_isGuarded 0 4 rfl) ?_
    refine go_icmp_gt (tgt := 44) (at_of tX7_isGuarded 0 5 rfl) (by decide) (fun h7 => ?_) (fun h7 => ?_)
    · exfalso; omega
    refine go_aload_n (at_of tX7_isGuarded 0 6 rfl) rfl ?_
    refine go_iload_n (at_of tX7_isGuarded 0 7 rfl) rfl ?_
    refine go_cV (con_isSeenEnd hR hU) lk_X7_42 rfl (by first | rfl | assumption) (at_of tX7_isGuarded 0 8 rfl) rfl (by decide) rfl (Nat.le_of_ble_eq_true rfl) rfl (by first | decide | exact ⟨Nat.zero_le _, Nat.zero_le _⟩) ?_
    refine go_if_eq (tgt := 38) (at_of tX7_isGuarded 0 9 rfl) (by decide) (fun h15 => ?_) (fun h15 => ?_)
    · refine go_iinc (at_of tX7_isGuarded 1 7 rfl) rfl (by unfold in32; omega) rfl rfl ?_
      refine go_goto (tgt := 2) (at_of tX7_isGuarded 1 8 rfl) (by decide) ?_
      first
        | (rw [if_neg (bI_0.mp h15)]; exact ih _ _ (by omega) (by omega))
        | (rw [if_pos (bI_1.mp h15), if_neg (by omega), if_neg (by omega)]; exact ih _ _ (by omega) (by omega))
    · refine go_aload_n (at_of tX7_isGuarded 0 10 rfl) rfl ?_
      refine go_bipush (at_of tX7_isGuarded 0 11 rfl) (by decide) ?_
      refine go_iload_n (at_of tX7_isGuarded 0 12 rfl) rfl ?_
      refine go_cV (con_fact hR (by omega) (by omega)) lk_X7_31 rfl (by first | rfl | assumption) (at_of tX7_isGuarded 0 13 rfl) rfl (by decide) rfl (Nat.le_of_ble_eq_true rfl) rfl (by first | decide | exact ⟨Nat.zero_le _, Nat.zero_le _⟩) ?_
      refine go_iconst (at_of tX7_isGuarded 0 14 rfl) (by unfold in32; omega) ?_
      refine go_icmp_ne (tgt := 31) (at_of tX7_isGuarded 0 15 rfl) (by decide) (fun h26 => ?_) (fun h26 => ?_)
      · refine go_iload_n (at_of tX7_isGuarded 1 2 rfl) rfl ?_
        refine go_iload_n (at_of tX7_isGuarded 1 3 rfl) rfl ?_
        refine go_icmp_lt (tgt := 38) (at_of tX7_isGuarded 1 4 rfl) (by decide) (fun h33 => ?_) (fun h33 => ?_)
        · refine go_iinc (at_of tX7_isGuarded 1 7 rfl) rfl (by unfold in32; omega) rfl rfl ?_
          refine go_goto (tgt := 2) (at_of tX7_isGuarded 1 8 rfl) (by decide) ?_
          first
            | (rw [if_neg (bI_0.mp h15)]; exact ih _ _ (by omega) (by omega))
            | (rw [if_pos (bI_1.mp h15), if_neg (by omega), if_neg (by omega)]; exact ih _ _ (by omega) (by omega))
        · refine go_iconst (at_of tX7_isGuarded 1 5 rfl) (by unfold in32; omega) ?_
          exact go_reti (at_of tX7_isGuarded 1 6 rfl) (le_i (bI_f (by rw [if_pos (bI_1.mp h15), if_neg (by omega), if_pos (by omega)]; decide)))
      · refine go_iconst (at_of tX7_isGuarded 1 0 rfl) (by unfold in32; omega) ?_
        exact go_reti (at_of tX7_isGuarded 1 1 rfl) (le_i (bI_t (by rw [if_pos (bI_1.mp h15), if_pos (by omega)])))
theorem con_isGuarded (hR : RowP σ r f g s) (hU : RowU σ r) {a z : Int} (ha : 0 ≤ a ∧ a ≤ σ.1 r 3) : Con 2 mX7_isGuarded 0 0 [vA r, vI a, vI z] σ (vI (bI (grdF (fA σ f) (σ.1 r 3) z (σ.1 r 3 + 1 - a).toNat a = true)), σ) := by
  obtain ⟨hg1, hg2, hg3, hg4, hp1, hp2, hp3⟩ := id hR
  obtain ⟨hu1, hu2⟩ := id hU
  refine con_of_go mfX7_isGuarded.1 bI_01 (Nat.le_of_ble_eq_true rfl) rfl (by decide) ?_
  show Go _ _ _ _ 0 [vA _, vI _, vI _, vT 9 0] [] _ _
  refine go_iload_n (at_of tX7_isGuarded 0 0 rfl) rfl ?_
  refine go_istore_n (at_of tX7_isGuarded 0 1 rfl) rfl rfl ?_
  exact lp_isGuarded hR hU _ _ a (by omega) (by omega)
theorem con_hasBookmark (hR : RowP σ r f g s) {k : Int} : Con 1 mX7_hasBookmark 0 0 [vA r, vI k] σ (vI (bI (cl σ g 6 k ≠ -1)), σ) := by
  obtain ⟨hg1, hg2, hg3, hg4, hp1, hp2, hp3⟩ := id hR
  refine con_of_go mfX7_hasBookmark.1 bI_01 (Nat.le_of_ble_eq_true rfl) rfl (by decide) ?_
  show Go _ _ _ _ 0 [vA _, vI _] [] _ _
  refine go_aload_n (at_of tX7_hasBookmark 0 0 rfl) rfl ?_
  refine go_getr fl_X7_15 rfl (by first | rfl | assumption) (by assumption) (at_of tX7_hasBookmark 0 1 rfl) ?_
  refine go_iload_n (at_of tX7_hasBookmark 0 2 rfl) rfl ?_
  refine go_cN (con_cl hg3 (by omega)) lk_X7_73 rfl (at_of tX7_hasBookmark 0 3 rfl) rfl (by decide) rfl (Nat.le_of_ble_eq_true rfl) rfl (by first | decide | exact ⟨Nat.zero_le _, Nat.zero_le _⟩) ?_
  refine go_iconst (at_of tX7_hasBookmark 0 4 rfl) (by unfold in32; omega) ?_
  refine go_icmp_eq (tgt := 16) (at_of tX7_hasBookmark 0 5 rfl) (by decide) (fun h9 => ?_) (fun h9 => ?_)
  · refine go_iconst (at_of tX7_hasBookmark 0 8 rfl) (by unfold in32; omega) ?_
    exact go_reti (at_of tX7_hasBookmark 0 9 rfl) (le_i (by first | exact bI_t (by omega) | exact bI_f (by omega)))
  · refine go_iconst (at_of tX7_hasBookmark 0 6 rfl) (by unfold in32; omega) ?_
    refine go_goto (tgt := 17) (at_of tX7_hasBookmark 0 7 rfl) (by decide) ?_
    exact go_reti (at_of tX7_hasBookmark 0 9 rfl) (le_i (by first | exact bI_t (by omega) | exact bI_f (by omega)))
theorem con_bookmarkBegin (hR : RowP σ r f g s) (hU : RowU σ r) {k : Int} : Con 2 mX7_bookmarkBegin 0 0 [vA r, vI k] σ (vI (plOf (fA σ f) (σ.1 r 3) (cl σ g 6 k)), σ) := by
  obtain ⟨hg1, hg2, hg3, hg4, hp1, hp2, hp3⟩ := id hR
  refine con_of_go mfX7_bookmarkBegin.1 trivial (Nat.le_of_ble_eq_true rfl) rfl (by decide) ?_
  show Go _ _ _ _ 0 [vA _, vI _] [] _ _
  refine go_aload_n (at_of tX7_bookmarkBegin 0 0 rfl) rfl ?_
  refine go_aload_n (at_of tX7_bookmarkBegin 0 1 rfl) rfl ?_
  refine go_getr fl_X7_15 rfl (by first | rfl | assumption) (by assumption) (at_of tX7_bookmarkBegin 0 2 rfl) ?_
  refine go_iload_n (at_of tX7_bookmarkBegin 0 3 rfl) rfl ?_
  refine go_cN (con_cl hg3 (by omega)) lk_X7_73 rfl (at_of tX7_bookmarkBegin 0 4 rfl) rfl (by decide) rfl (Nat.le_of_ble_eq_true rfl) rfl (by first | decide | exact ⟨Nat.zero_le _, Nat.zero_le _⟩) ?_
  refine go_cV (con_placeOf hR hU) lk_X7_49 rfl (by first | rfl | assumption) (at_of tX7_bookmarkBegin 0 5 rfl) rfl (by decide) rfl (Nat.le_of_ble_eq_true rfl) rfl (by first | decide | exact ⟨Nat.zero_le _, Nat.zero_le _⟩) ?_
  exact go_reti (at_of tX7_bookmarkBegin 0 6 rfl) rfl
theorem con_bookmarkEnd (hR : RowP σ r f g s) (hU : RowU σ r) {k : Int} : Con 3 mX7_bookmarkEnd 0 0 [vA r, vI k] σ (vI (max (plOf (fA σ f) (σ.1 r 3) (cl σ s 6 k)) (plOf (fA σ f) (σ.1 r 3) (cl σ g 6 k))), σ) := by
  obtain ⟨hg1, hg2, hg3, hg4, hp1, hp2, hp3⟩ := id hR
  refine con_of_go mfX7_bookmarkEnd.1 trivial (Nat.le_of_ble_eq_true rfl) rfl (by decide) ?_
  show Go _ _ _ _ 0 [vA _, vI _, vT 9 0, vT 9 0] [] _ _
  refine go_aload_n (at_of tX7_bookmarkEnd 0 0 rfl) rfl ?_
  refine go_iload_n (at_of tX7_bookmarkEnd 0 1 rfl) rfl ?_
  refine go_cV (con_bookmarkBegin hR hU) lk_X7_77 rfl (by first | rfl | assumption) (at_of tX7_bookmarkEnd 0 2 rfl) rfl (by decide) rfl (Nat.le_of_ble_eq_true rfl) rfl (by first | decide | exact ⟨Nat.zero_le _, Nat.zero_le _⟩) ?_
  refine go_istore_n (at_of tX7_bookmarkEnd 0 3 rfl) rfl rfl ?_
  refine go_aload_n (at_of tX7_bookmarkEnd 0 4 rfl) rfl ?_
  refine go_aload_n (at_of tX7_bookmarkEnd 0 5 rfl) rfl ?_
  refine go_getr fl_X7_18 rfl (by first | rfl | assumption) (by assumption) (at_of tX7_bookmarkEnd 0 6 rfl) ?_
  refine go_iload_n (at_of tX7_bookmarkEnd 0 7 rfl) rfl ?_
  refine go_cN (con_cl hg4 (by omega)) lk_X7_73 rfl (at_of tX7_bookmarkEnd 0 8 rfl) rfl (by decide) rfl (Nat.le_of_ble_eq_true rfl) rfl (by first | decide | exact ⟨Nat.zero_le _, Nat.zero_le _⟩) ?_
  refine go_cV (con_placeOf hR hU) lk_X7_49 rfl (by first | rfl | assumption) (at_of tX7_bookmarkEnd 0 9 rfl) rfl (by decide) rfl (Nat.le_of_ble_eq_true rfl) rfl (by first | decide | exact ⟨Nat.zero_le _, Nat.zero_le _⟩) ?_
  refine go_istore_n (at_of tX7_bookmarkEnd 0 10 rfl) rfl rfl ?_
  refine go_iload_n (at_of tX7_bookmarkEnd 0 11 rfl) rfl ?_
  refine go_iload_n (at_of tX7_bookmarkEnd 0 12 rfl) rfl ?_
  refine go_icmp_ge (tgt := 28) (at_of tX7_bookmarkEnd 0 13 rfl) (by decide) (fun h21 => ?_) (fun h21 => ?_)
  · refine go_iload_n (at_of tX7_bookmarkEnd 1 0 rfl) rfl ?_
    exact go_reti (at_of tX7_bookmarkEnd 1 1 rfl) (le_i (by omega))
  · refine go_iload_n (at_of tX7_bookmarkEnd 0 14 rfl) rfl ?_
    refine go_goto (tgt := 29) (at_of tX7_bookmarkEnd 0 15 rfl) (by decide) ?_
    exact go_reti (at_of tX7_bookmarkEnd 1 1 rfl) (le_i (by omega))
end Row
