/-! The numbers of lists, and the line to which they are written. -/
section Numb
variable {σ : St} {k : Nat} {R : RowD}
/-- what a list's counts become at a paragraph -/
def ct1 (lv rs : Int) (c : Int → Int) : Int → Int := fun j => if j = lv then (if 0 < rs then rs else c lv + 1) else if lv < j then 0 else c j
def ctG (R : RowD) (l : Int) (c : Int → Int) (i : Int) : Int → Int := if sendB R.1 R.2.1 i = true ∧ R.1 7 i = l then ct1 (R.1 8 i) (R.1 9 i) c else c
def ctF (R : RowD) (e : Int) : Int → Int := upX (ctG R (R.1 7 e)) (e + 1).toNat 0 (fun _ => 0)
/-- levels and restarts of ends are as they may be -/
def EndW (R : RowD) : Prop := ∀ i, 0 ≤ i → i ≤ R.2.1 → R.1 0 i = 47 → 0 ≤ R.1 8 i ∧ R.1 8 i ≤ 2 ∧ 0 ≤ R.1 9 i ∧ R.1 9 i ≤ 99 ∧ -1 ≤ R.1 7 i ∧ R.1 7 i ≤ 2
def ctS (σ : St) (c : Int → Int) : St := (fun a j => if a = 90 ∧ j < 3 then c j else σ.1 a j, σ.2.1, σ.2.2)
theorem ctS_ne {c : Int → Int} {a j : Nat} (h : a ≠ 90) : (ctS σ c).1 a j = σ.1 a j := if_neg (fun q => h q.1)
theorem ctS_at {c : Int → Int} {j : Int} (h : 0 ≤ j ∧ j < 3) : (ctS σ c).1 90 j.toNat = c j := by
  show (if (90 : Nat) = 90 ∧ j.toNat < 3 then c (j.toNat : Int) else σ.1 90 j.toNat) = c j
  rw [if_pos (by omega), show ((j.toNat : Nat) : Int) = j by omega]
theorem ctS_set {c : Int → Int} {j z : Int} (h : 0 ≤ j ∧ j < 3) : M1 (ctS σ c) 90 j z = ctS σ (updZ c j z) := by
  unfold M1 ctS upd2 updZ
  refine Prod.ext (funext fun a => funext fun i => ?_) rfl
  dsimp only
  by_cases ha : a = 90
  · subst ha
    by_cases hi : i < 3
    · rw [if_pos (c := (90 : Nat) = 90 ∧ i < 3) ⟨rfl, hi⟩, if_pos (c := (90 : Nat) = 90 ∧ i < 3) ⟨rfl, hi⟩]
      by_cases hj : i = j.toNat
      · rw [if_pos ⟨rfl, hj⟩, if_pos (by omega)]
      · rw [if_neg (fun q => hj q.2), if_neg (by omega)]
    · rw [if_neg (by omega), if_neg (by omega), if_neg (by omega)]
  · rw [if_neg (fun q => ha q.1), if_neg (fun q => ha q.1), if_neg (fun q => ha q.1)]
theorem ct_zero : M1 (M1 (M1 σ 90 0 0) 90 (0 + 1) 0) 90 (0 + 1 + 1) 0 = ctS σ (fun _ => 0) := by
  unfold M1 ctS upd2
  refine Prod.ext (funext fun a => funext fun i => ?_) rfl
  dsimp only
  by_cases ha : a = 90
  · subst ha
    by_cases h2 : i = 2
    · rw [if_pos ⟨rfl, by omega⟩, if_pos ⟨rfl, by omega⟩]
    · rw [if_neg (by omega)]
      by_cases h1 : i = 1
      · rw [if_pos ⟨rfl, by omega⟩, if_pos ⟨rfl, by omega⟩]
      · rw [if_neg (by omega)]
        by_cases h0 : i = 0
        · rw [if_pos ⟨rfl, by omega⟩, if_pos ⟨rfl, by omega⟩]
        · rw [if_neg (by omega), if_neg (by omega)]
  · rw [if_neg (fun q => ha q.1), if_neg (fun q => ha q.1), if_neg (fun q => ha q.1), if_neg (fun q => ha q.1)]
theorem ctS_frm {c : Int → Int} : Frm σ (ctS σ c) 90 90 := ⟨rfl, fun a h j => ctS_ne (by omega)⟩
theorem ct1_le {lv rs K : Int} {c : Int → Int} (hr : 0 ≤ rs ∧ rs ≤ 99) (hc : ∀ j, 0 ≤ c j ∧ c j ≤ K) (hK : 99 ≤ K) : ∀ j, 0 ≤ ct1 lv rs c j ∧ ct1 lv rs c j ≤ K + 1 := by
  intro j
  have h1 := hc lv
  have h2 := hc j
  unfold ct1
  split
  · split <;> omega
  · split <;> omega
theorem ctG_le {l i K : Int} {c : Int → Int} (hE : EndW R) (hc : ∀ j, 0 ≤ c j ∧ c j ≤ K) (hK : 99 ≤ K) : ∀ j, 0 ≤ ctG R l c i j ∧ ctG R l c i j ≤ K + 1 := by
  intro j
  unfold ctG
  split
  · rename_i h
    have h3 : 0 ≤ i ∧ i ≤ R.2.1 ∧ R.1 3 i = -1 ∧ R.1 0 i = 47 := of_decide_eq_true h.1
    have h4 := hE i h3.1 h3.2.1 h3.2.2.2
    exact ct1_le ⟨h4.2.2.1, h4.2.2.2.1⟩ hc hK j
  · have := hc j; omega
theorem ctU_le {l : Int} (hE : EndW R) : ∀ (m : Nat) (i K : Int) (c : Int → Int), (∀ j, 0 ≤ c j ∧ c j ≤ K) → 99 ≤ K → ∀ j, 0 ≤ upX (ctG R l) m i c j ∧ upX (ctG R l) m i c j ≤ K + m := by
  intro m
  induction m with
  | zero => intro i K c hc hK j; have := hc j; rw [upX]; omega
  | succ m ih =>
    intro i K c hc hK j
    rw [upX]
    have := ih (i + 1) (K + 1) _ (ctG_le hE hc hK (l := l) (i := i)) (by omega) j
    omega
theorem ctF_le {e : Int} (hE : EndW R) (he : 0 ≤ e ∧ e ≤ R.2.1) (hn : R.2.1 ≤ 200) : ∀ j, 0 ≤ ctF R e j ∧ ctF R e j ≤ 300 := by
  intro j
  have := ctU_le hE (l := R.1 7 e) (e + 1).toNat 0 99 (fun _ => 0) (fun _ => ⟨by omega, by omega⟩) (by omega) j
  unfold ctF
  omega
theorem ctS_congr {c c' : Int → Int} (h : c 0 = c' 0 ∧ c 1 = c' 1 ∧ c 2 = c' 2) : ctS σ c = ctS σ c' := by
  unfold ctS
  refine Prod.ext (funext fun a => funext fun i => ?_) rfl
  dsimp only
  by_cases hi : a = 90 ∧ i < 3
  · rw [if_pos hi, if_pos hi]
    have h3 : i = 0 ∨ i = 1 ∨ i = 2 := by omega
    rcases h3 with rfl | rfl | rfl
    · exact h.1
    · exact h.2.1
    · exact h.2.2
  · rw [if_neg hi, if_neg hi]
theorem con_countOne_0 (hS : Str σ.2.1) {c : Int → Int} {rs : Int} (hr : 0 ≤ rs ∧ rs ≤ 99) (hc : 0 ≤ c 0 ∧ c 0 ≤ 1000) : Con 1 mX3_countOne 0 0 [vA 87, vI 0, vI rs] (ctS σ c) (vT 8 0, ctS σ (ct1 0 rs c)) := by
  have ev : (ctS σ c).1 90 ((0 : Int)).toNat = c 0 := ctS_at (by omega)
  by_cases hrs : 0 < rs
  · skip
    refine con_of_go mfX3_countOne.1 trivial (Nat.le_of_ble_eq_true rfl) rfl (by decide) ?_
    show Go _ _ _ _ 0 [vA _, vI _, vI _, vT 9 0] [] _ _
    refine go_aload_n (at_of tX3_countOne 0 0 rfl) rfl ?_
    refine go_getr (q := 90) fl_X3_19 rfl G_87 ((hS _ _ rfl).trans rfl) (at_of tX3_countOne 0 1 rfl) ?_
    refine go_iload_n (at_of tX3_countOne 0 2 rfl) rfl ?_
    refine go_iload_n (at_of tX3_countOne 0 3 rfl) rfl ?_
    refine go_if_le (tgt := 13) (at_of tX3_countOne 0 4 rfl) (by decide) (fun h6 => ?_) (fun h6 => ?_)
    · exfalso; omega
    refine go_iload_n (at_of tX3_countOne 0 5 rfl) rfl ?_
    refine go_goto (tgt := 23) (at_of tX3_countOne 0 6 rfl) (by decide) ?_
    refine go_cN (con_setCell G_90 (by omega) (by omega)) lk_X3_34 rfl (at_of tX3_countOne 0 13 rfl) rfl (by decide) rfl (Nat.le_of_ble_eq_true rfl) rfl (by first | decide | exact ⟨Nat.zero_le _, Nat.zero_le _⟩) ?_
    rw [ctS_set (by omega)]
    refine go_iload_n (at_of tX3_countOne 0 14 rfl) rfl ?_
    refine go_iconst (at_of tX3_countOne 0 15 rfl) (by unfold in32; omega) ?_
    refine go_iadd (at_of tX3_countOne 1 0 rfl) (by unfold in32; omega) ?_
    refine go_istore_n (at_of tX3_countOne 1 1 rfl) rfl rfl ?_
    refine go_iload_n (at_of tX3_countOne 1 2 rfl) rfl ?_
    refine go_iconst (at_of tX3_countOne 1 3 rfl) (by unfold in32; omega) ?_
    refine go_icmp_ge (tgt := 50) (at_of tX3_countOne 1 4 rfl) (by decide) (fun h32 => ?_) (fun h32 => ?_)
    · exfalso; omega
    refine go_aload_n (at_of tX3_countOne 1 5 rfl) rfl ?_
    refine go_getr (q := 90) fl_X3_19 rfl G_87 ((hS _ _ rfl).trans rfl) (at_of tX3_countOne 1 6 rfl) ?_
    refine go_iload_n (at_of tX3_countOne 1 7 rfl) rfl ?_
    refine go_iconst (at_of tX3_countOne 1 8 rfl) (by unfold in32; omega) ?_
    refine go_cN (con_setCell G_90 (by omega) (by omega)) lk_X3_34 rfl (at_of tX3_countOne 1 9 rfl) rfl (by decide) rfl (Nat.le_of_ble_eq_true rfl) rfl (by first | decide | exact ⟨Nat.zero_le _, Nat.zero_le _⟩) ?_
    rw [ctS_set (by omega)]
    refine go_iinc (at_of tX3_countOne 1 10 rfl) rfl (by unfold in32; omega) rfl rfl ?_
    refine go_goto (tgt := 30) (at_of tX3_countOne 1 11 rfl) (by decide) ?_
    refine go_iload_n (at_of tX3_countOne 1 2 rfl) rfl ?_
    refine go_iconst (at_of tX3_countOne 1 3 rfl) (by unfold in32; omega) ?_
    refine go_icmp_ge (tgt := 50) (at_of tX3_countOne 1 4 rfl) (by decide) (fun h32 => ?_) (fun h32 => ?_)
    · exfalso; omega
    refine go_aload_n (at_of tX3_countOne 1 5 rfl) rfl ?_
    refine go_getr (q := 90) fl_X3_19 rfl G_87 ((hS _ _ rfl).trans rfl) (at_of tX3_countOne 1 6 rfl) ?_
    refine go_iload_n (at_of tX3_countOne 1 7 rfl) rfl ?_
    refine go_iconst (at_of tX3_countOne 1 8 rfl) (by unfold in32; omega) ?_
    refine go_cN (con_setCell G_90 (by omega) (by omega)) lk_X3_34 rfl (at_of tX3_countOne 1 9 rfl) rfl (by decide) rfl (Nat.le_of_ble_eq_true rfl) rfl (by first | decide | exact ⟨Nat.zero_le _, Nat.zero_le _⟩) ?_
    rw [ctS_set (by omega)]
    refine go_iinc (at_of tX3_countOne 1 10 rfl) rfl (by unfold in32; omega) rfl rfl ?_
    refine go_goto (tgt := 30) (at_of tX3_countOne 1 11 rfl) (by decide) ?_
    refine go_iload_n (at_of tX3_countOne 1 2 rfl) rfl ?_
    refine go_iconst (at_of tX3_countOne 1 3 rfl) (by unfold in32; omega) ?_
    refine go_icmp_ge (tgt := 50) (at_of tX3_countOne 1 4 rfl) (by decide) (fun h32 => ?_) (fun h32 => ?_)
    rotate_left
    · exfalso; omega
    exact go_retv (at_of tX3_countOne 1 12 rfl) (by rw [ctS_congr (c := ct1 0 rs c) (c' := updZ (updZ (updZ c 0 rs) 1 0) 2 0) ⟨by unfold ct1 updZ; simp [hrs], by unfold ct1 updZ; simp [hrs], by unfold ct1 updZ; simp [hrs]⟩]; try rfl)
  · skip
    refine con_of_go mfX3_countOne.1 trivial (Nat.le_of_ble_eq_true rfl) rfl (by decide) ?_
    show Go _ _ _ _ 0 [vA _, vI _, vI _, vT 9 0] [] _ _
    refine go_aload_n (at_of tX3_countOne 0 0 rfl) rfl ?_
    refine go_getr (q := 90) fl_X3_19 rfl G_87 ((hS _ _ rfl).trans rfl) (at_of tX3_countOne 0 1 rfl) ?_
    refine go_iload_n (at_of tX3_countOne 0 2 rfl) rfl ?_
    refine go_iload_n (at_of tX3_countOne 0 3 rfl) rfl ?_
    refine go_if_le (tgt := 13) (at_of tX3_countOne 0 4 rfl) (by decide) (fun h6 => ?_) (fun h6 => ?_)
    rotate_left
    · exfalso; omega
    refine go_aload_n (at_of tX3_countOne 0 7 rfl) rfl ?_
    refine go_getr (q := 90) fl_X3_19 rfl G_87 ((hS _ _ rfl).trans rfl) (at_of tX3_countOne 0 8 rfl) ?_
    refine go_iload_n (at_of tX3_countOne 0 9 rfl) rfl ?_
    refine go_cN (con_cell G_90 (by omega) (by omega)) lk_X3_30 rfl (at_of tX3_countOne 0 10 rfl) rfl (by decide) rfl (Nat.le_of_ble_eq_true rfl) rfl (by first | decide | exact ⟨Nat.zero_le _, Nat.zero_le _⟩) ?_
    refine go_iconst (at_of tX3_countOne 0 11 rfl) (by unfold in32; omega) ?_
    rw [ev]
    refine go_iadd (at_of tX3_countOne 0 12 rfl) (by unfold in32; omega) ?_
    refine go_cN (con_setCell G_90 (by omega) (by omega)) lk_X3_34 rfl (at_of tX3_countOne 0 13 rfl) rfl (by decide) rfl (Nat.le_of_ble_eq_true rfl) rfl (by first | decide | exact ⟨Nat.zero_le _, Nat.zero_le _⟩) ?_
    rw [ctS_set (by omega)]
    refine go_iload_n (at_of tX3_countOne 0 14 rfl) rfl ?_
    refine go_iconst (at_of tX3_countOne 0 15 rfl) (by unfold in32; omega) ?_
    refine go_iadd (at_of tX3_countOne 1 0 rfl) (by unfold in32; omega) ?_
    refine go_istore_n (at_of tX3_countOne 1 1 rfl) rfl rfl ?_
    refine go_iload_n (at_of tX3_countOne 1 2 rfl) rfl ?_
    refine go_iconst (at_of tX3_countOne 1 3 rfl) (by unfold in32; omega) ?_
    refine go_icmp_ge (tgt := 50) (at_of tX3_countOne 1 4 rfl) (by decide) (fun h32 => ?_) (fun h32 => ?_)
    · exfalso; omega
    refine go_aload_n (at_of tX3_countOne 1 5 rfl) rfl ?_
    refine go_getr (q := 90) fl_X3_19 rfl G_87 ((hS _ _ rfl).trans rfl) (at_of tX3_countOne 1 6 rfl) ?_
    refine go_iload_n (at_of tX3_countOne 1 7 rfl) rfl ?_
    refine go_iconst (at_of tX3_countOne 1 8 rfl) (by unfold in32; omega) ?_
    refine go_cN (con_setCell G_90 (by omega) (by omega)) lk_X3_34 rfl (at_of tX3_countOne 1 9 rfl) rfl (by decide) rfl (Nat.le_of_ble_eq_true rfl) rfl (by first | decide | exact ⟨Nat.zero_le _, Nat.zero_le _⟩) ?_
    rw [ctS_set (by omega)]
    refine go_iinc (at_of tX3_countOne 1 10 rfl) rfl (by unfold in32; omega) rfl rfl ?_
    refine go_goto (tgt := 30) (at_of tX3_countOne 1 11 rfl) (by decide) ?_
    refine go_iload_n (at_of tX3_countOne 1 2 rfl) rfl ?_
    refine go_iconst (at_of tX3_countOne 1 3 rfl) (by unfold in32; omega) ?_
    refine go_icmp_ge (tgt := 50) (at_of tX3_countOne 1 4 rfl) (by decide) (fun h32 => ?_) (fun h32 => ?_)
    · exfalso; omega
    refine go_aload_n (at_of tX3_countOne 1 5 rfl) rfl ?_
    refine go_getr (q := 90) fl_X3_19 rfl G_87 ((hS _ _ rfl).trans rfl) (at_of tX3_countOne 1 6 rfl) ?_
    refine go_iload_n (at_of tX3_countOne 1 7 rfl) rfl ?_
    refine go_iconst (at_of tX3_countOne 1 8 rfl) (by unfold in32; omega) ?_
    refine go_cN (con_setCell G_90 (by omega) (by omega)) lk_X3_34 rfl (at_of tX3_countOne 1 9 rfl) rfl (by decide) rfl (Nat.le_of_ble_eq_true rfl) rfl (by first | decide | exact ⟨Nat.zero_le _, Nat.zero_le _⟩) ?_
    rw [ctS_set (by omega)]
    refine go_iinc (at_of tX3_countOne 1 10 rfl) rfl (by unfold in32; omega) rfl rfl ?_
    refine go_goto (tgt := 30) (at_of tX3_countOne 1 11 rfl) (by decide) ?_
    refine go_iload_n (at_of tX3_countOne 1 2 rfl) rfl ?_
    refine go_iconst (at_of tX3_countOne 1 3 rfl) (by unfold in32; omega) ?_
    refine go_icmp_ge (tgt := 50) (at_of tX3_countOne 1 4 rfl) (by decide) (fun h32 => ?_) (fun h32 => ?_)
    rotate_left
    · exfalso; omega
    exact go_retv (at_of tX3_countOne 1 12 rfl) (by rw [ctS_congr (c := ct1 0 rs c) (c' := updZ (updZ (updZ c 0 (c 0 + 1)) 1 0) 2 0) ⟨by unfold ct1 updZ; simp [hrs], by unfold ct1 updZ; simp [hrs], by unfold ct1 updZ; simp [hrs]⟩]; try rfl)
theorem con_countOne_1 (hS : Str σ.2.1) {c : Int → Int} {rs : Int} (hr : 0 ≤ rs ∧ rs ≤ 99) (hc : 0 ≤ c 1 ∧ c 1 ≤ 1000) : Con 1 mX3_countOne 0 0 [vA 87, vI 1, vI rs] (ctS σ c) (vT 8 0, ctS σ (ct1 1 rs c)) := by
  have ev : (ctS σ c).1 90 ((1 : Int)).toNat = c 1 := ctS_at (by omega)
  by_cases hrs : 0 < rs
  · skip
    refine con_of_go mfX3_countOne.1 trivial (Nat.le_of_ble_eq_true rfl) rfl (by decide) ?_
    show Go _ _ _ _ 0 [vA _, vI _, vI _, vT 9 0] [] _ _
    refine go_aload_n (at_of tX3_countOne 0 0 rfl) rfl ?_
    refine go_getr (q := 90) fl_X3_19 rfl G_87 ((hS _ _ rfl).trans rfl) (at_of tX3_countOne 0 1 rfl) ?_
    refine go_iload_n (at_of tX3_countOne 0 2 rfl) rfl ?_
    refine go_iload_n (at_of tX3_countOne 0 3 rfl) rfl ?_
    refine go_if_le (tgt := 13) (at_of tX3_countOne 0 4 rfl) (by decide) (fun h6 => ?_) (fun h6 => ?_)
    · exfalso; omega
    refine go_iload_n (at_of tX3_countOne 0 5 rfl) rfl ?_
    refine go_goto (tgt := 23) (at_of tX3_countOne 0 6 rfl) (by decide) ?_
    refine go_cN (con_setCell G_90 (by omega) (by omega)) lk_X3_34 rfl (at_of tX3_countOne 0 13 rfl) rfl (by decide) rfl (Nat.le_of_ble_eq_true rfl) rfl (by first | decide | exact ⟨Nat.zero_le _, Nat.zero_le _⟩) ?_
    rw [ctS_set (by omega)]
    refine go_iload_n (at_of tX3_countOne 0 14 rfl) rfl ?_
    refine go_iconst (at_of tX3_countOne 0 15 rfl) (by unfold in32; omega) ?_
    refine go_iadd (at_of tX3_countOne 1 0 rfl) (by unfold in32; omega) ?_
    refine go_istore_n (at_of tX3_countOne 1 1 rfl) rfl rfl ?_
    refine go_iload_n (at_of tX3_countOne 1 2 rfl) rfl ?_
    refine go_iconst (at_of tX3_countOne 1 3 rfl) (by unfold in32; omega) ?_
    refine go_icmp_ge (tgt := 50) (at_of tX3_countOne 1 4 rfl) (by decide) (fun h32 => ?_) (fun h32 => ?_)
    · exfalso; omega
    refine go_aload_n (at_of tX3_countOne 1 5 rfl) rfl ?_
    refine go_getr (q := 90) fl_X3_19 rfl G_87 ((hS _ _ rfl).trans rfl) (at_of tX3_countOne 1 6 rfl) ?_
    refine go_iload_n (at_of tX3_countOne 1 7 rfl) rfl ?_
    refine go_iconst (at_of tX3_countOne 1 8 rfl) (by unfold in32; omega) ?_
    refine go_cN (con_setCell G_90 (by omega) (by omega)) lk_X3_34 rfl (at_of tX3_countOne 1 9 rfl) rfl (by decide) rfl (Nat.le_of_ble_eq_true rfl) rfl (by first | decide | exact ⟨Nat.zero_le _, Nat.zero_le _⟩) ?_
    rw [ctS_set (by omega)]
    refine go_iinc (at_of tX3_countOne 1 10 rfl) rfl (by unfold in32; omega) rfl rfl ?_
    refine go_goto (tgt := 30) (at_of tX3_countOne 1 11 rfl) (by decide) ?_
    refine go_iload_n (at_of tX3_countOne 1 2 rfl) rfl ?_
    refine go_iconst (at_of tX3_countOne 1 3 rfl) (by unfold in32; omega) ?_
    refine go_icmp_ge (tgt := 50) (at_of tX3_countOne 1 4 rfl) (by decide) (fun h32 => ?_) (fun h32 => ?_)
    rotate_left
    · exfalso; omega
    exact go_retv (at_of tX3_countOne 1 12 rfl) (by rw [ctS_congr (c := ct1 1 rs c) (c' := updZ (updZ c 1 rs) 2 0) ⟨by unfold ct1 updZ; simp [hrs], by unfold ct1 updZ; simp [hrs], by unfold ct1 updZ; simp [hrs]⟩]; try rfl)
  · skip
    refine con_of_go mfX3_countOne.1 trivial (Nat.le_of_ble_eq_true rfl) rfl (by decide) ?_
    show Go _ _ _ _ 0 [vA _, vI _, vI _, vT 9 0] [] _ _
    refine go_aload_n (at_of tX3_countOne 0 0 rfl) rfl ?_
    refine go_getr (q := 90) fl_X3_19 rfl G_87 ((hS _ _ rfl).trans rfl) (at_of tX3_countOne 0 1 rfl) ?_
    refine go_iload_n (at_of tX3_countOne 0 2 rfl) rfl ?_
    refine go_iload_n (at_of tX3_countOne 0 3 rfl) rfl ?_
    refine go_if_le (tgt := 13) (at_of tX3_countOne 0 4 rfl) (by decide) (fun h6 => ?_) (fun h6 => ?_)
    rotate_left
    · exfalso; omega
    refine go_aload_n (at_of tX3_countOne 0 7 rfl) rfl ?_
    refine go_getr (q := 90) fl_X3_19 rfl G_87 ((hS _ _ rfl).trans rfl) (at_of tX3_countOne 0 8 rfl) ?_
    refine go_iload_n (at_of tX3_countOne 0 9 rfl) rfl ?_
    refine go_cN (con_cell G_90 (by omega) (by omega)) lk_X3_30 rfl (at_of tX3_countOne 0 10 rfl) rfl (by decide) rfl (Nat.le_of_ble_eq_true rfl) rfl (by first | decide | exact ⟨Nat.zero_le _, Nat.zero_le _⟩) ?_
    refine go_iconst (at_of tX3_countOne 0 11 rfl) (by unfold in32; omega) ?_
    rw [ev]
    refine go_iadd (at_of tX3_countOne 0 12 rfl) (by unfold in32; omega) ?_
    refine go_cN (con_setCell G_90 (by omega) (by omega)) lk_X3_34 rfl (at_of tX3_countOne 0 13 rfl) rfl (by decide) rfl (Nat.le_of_ble_eq_true rfl) rfl (by first | decide | exact ⟨Nat.zero_le _, Nat.zero_le _⟩) ?_
    rw [ctS_set (by omega)]
    refine go_iload_n (at_of tX3_countOne 0 14 rfl) rfl ?_
    refine go_iconst (at_of tX3_countOne 0 15 rfl) (by unfold in32; omega) ?_
    refine go_iadd (at_of tX3_countOne 1 0 rfl) (by unfold in32; omega) ?_
    refine go_istore_n (at_of tX3_countOne 1 1 rfl) rfl rfl ?_
    refine go_iload_n (at_of tX3_countOne 1 2 rfl) rfl ?_
    refine go_iconst (at_of tX3_countOne 1 3 rfl) (by unfold in32; omega) ?_
    refine go_icmp_ge (tgt := 50) (at_of tX3_countOne 1 4 rfl) (by decide) (fun h32 => ?_) (fun h32 => ?_)
    · exfalso; omega
    refine go_aload_n (at_of tX3_countOne 1 5 rfl) rfl ?_
    refine go_getr (q := 90) fl_X3_19 rfl G_87 ((hS _ _ rfl).trans rfl) (at_of tX3_countOne 1 6 rfl) ?_
    refine go_iload_n (at_of tX3_countOne 1 7 rfl) rfl ?_
    refine go_iconst (at_of tX3_countOne 1 8 rfl) (by unfold in32; omega) ?_
    refine go_cN (con_setCell G_90 (by omega) (by omega)) lk_X3_34 rfl (at_of tX3_countOne 1 9 rfl) rfl (by decide) rfl (Nat.le_of_ble_eq_true rfl) rfl (by first | decide | exact ⟨Nat.zero_le _, Nat.zero_le _⟩) ?_
    rw [ctS_set (by omega)]
    refine go_iinc (at_of tX3_countOne 1 10 rfl) rfl (by unfold in32; omega) rfl rfl ?_
    refine go_goto (tgt := 30) (at_of tX3_countOne 1 11 rfl) (by decide) ?_
    refine go_iload_n (at_of tX3_countOne 1 2 rfl) rfl ?_
    refine go_iconst (at_of tX3_countOne 1 3 rfl) (by unfold in32; omega) ?_
    refine go_icmp_ge (tgt := 50) (at_of tX3_countOne 1 4 rfl) (by decide) (fun h32 => ?_) (fun h32 => ?_)
    rotate_left
    · exfalso; omega
    exact go_retv (at_of tX3_countOne 1 12 rfl) (by rw [ctS_congr (c := ct1 1 rs c) (c' := updZ (updZ c 1 (c 1 + 1)) 2 0) ⟨by unfold ct1 updZ; simp [hrs], by unfold ct1 updZ; simp [hrs], by unfold ct1 updZ; simp [hrs]⟩]; try rfl)
theorem con_countOne_2 (hS : Str σ.2.1) {c : Int → Int} {rs : Int} (hr : 0 ≤ rs ∧ rs ≤ 99) (hc : 0 ≤ c 2 ∧ c 2 ≤ 1000) : Con 1 mX3_countOne 0 0 [vA 87, vI 2, vI rs] (ctS σ c) (vT 8 0, ctS σ (ct1 2 rs c)) := by
  have ev : (ctS σ c).1 90 ((2 : Int)).toNat = c 2 := ctS_at (by omega)
  by_cases hrs : 0 < rs
  · skip
    refine con_of_go mfX3_countOne.1 trivial (Nat.le_of_ble_eq_true rfl) rfl (by decide) ?_
    show Go _ _ _ _ 0 [vA _, vI _, vI _, vT 9 0] [] _ _
    refine go_aload_n (at_of tX3_countOne 0 0 rfl) rfl ?_
    refine go_getr (q := 90) fl_X3_19 rfl G_87 ((hS _ _ rfl).trans rfl) (at_of tX3_countOne 0 1 rfl) ?_
    refine go_iload_n (at_of tX3_countOne 0 2 rfl) rfl ?_
    refine go_iload_n (at_of tX3_countOne 0 3 rfl) rfl ?_
    refine go_if_le (tgt := 13) (at_of tX3_countOne 0 4 rfl) (by decide) (fun h6 => ?_) (fun h6 => ?_)
    · exfalso; omega
    refine go_iload_n (at_of tX3_countOne 0 5 rfl) rfl ?_
    refine go_goto (tgt := 23) (at_of tX3_countOne 0 6 rfl) (by decide) ?_
    refine go_cN (con_setCell G_90 (by omega) (by omega)) lk_X3_34 rfl (at_of tX3_countOne 0 13 rfl) rfl (by decide) rfl (Nat.le_of_ble_eq_true rfl) rfl (by first | decide | exact ⟨Nat.zero_le _, Nat.zero_le _⟩) ?_
    rw [ctS_set (by omega)]
    refine go_iload_n (at_of tX3_countOne 0 14 rfl) rfl ?_
    refine go_iconst (at_of tX3_countOne 0 15 rfl) (by unfold in32; omega) ?_
    refine go_iadd (at_of tX3_countOne 1 0 rfl) (by unfold in32; omega) ?_
    refine go_istore_n (at_of tX3_countOne 1 1 rfl) rfl rfl ?_
    refine go_iload_n (at_of tX3_countOne 1 2 rfl) rfl ?_
    refine go_iconst (at_of tX3_countOne 1 3 rfl) (by unfold in32; omega) ?_
    refine go_icmp_ge (tgt := 50) (at_of tX3_countOne 1 4 rfl) (by decide) (fun h32 => ?_) (fun h32 => ?_)
    rotate_left
    · exfalso; omega
    exact go_retv (at_of tX3_countOne 1 12 rfl) (by rw [ctS_congr (c := ct1 2 rs c) (c' := updZ c 2 rs) ⟨by unfold ct1 updZ; simp [hrs], by unfold ct1 updZ; simp [hrs], by unfold ct1 updZ; simp [hrs]⟩]; try rfl)
  · skip
    refine con_of_go mfX3_countOne.1 trivial (Nat.le_of_ble_eq_true rfl) rfl (by decide) ?_
    show Go _ _ _ _ 0 [vA _, vI _, vI _, vT 9 0] [] _ _
    refine go_aload_n (at_of tX3_countOne 0 0 rfl) rfl ?_
    refine go_getr (q := 90) fl_X3_19 rfl G_87 ((hS _ _ rfl).trans rfl) (at_of tX3_countOne 0 1 rfl) ?_
    refine go_iload_n (at_of tX3_countOne 0 2 rfl) rfl ?_
    refine go_iload_n (at_of tX3_countOne 0 3 rfl) rfl ?_
    refine go_if_le (tgt := 13) (at_of tX3_countOne 0 4 rfl) (by decide) (fun h6 => ?_) (fun h6 => ?_)
    rotate_left
    · exfalso; omega
    refine go_aload_n (at_of tX3_countOne 0 7 rfl) rfl ?_
    refine go_getr (q := 90) fl_X3_19 rfl G_87 ((hS _ _ rfl).trans rfl) (at_of tX3_countOne 0 8 rfl) ?_
    refine go_iload_n (at_of tX3_countOne 0 9 rfl) rfl ?_
    refine go_cN (con_cell G_90 (by omega) (by omega)) lk_X3_30 rfl (at_of tX3_countOne 0 10 rfl) rfl (by decide) rfl (Nat.le_of_ble_eq_true rfl) rfl (by first | decide | exact ⟨Nat.zero_le _, Nat.zero_le _⟩) ?_
    refine go_iconst (at_of tX3_countOne 0 11 rfl) (by unfold in32; omega) ?_
    rw [ev]
    refine go_iadd (at_of tX3_countOne 0 12 rfl) (by unfold in32; omega) ?_
    refine go_cN (con_setCell G_90 (by omega) (by omega)) lk_X3_34 rfl (at_of tX3_countOne 0 13 rfl) rfl (by decide) rfl (Nat.le_of_ble_eq_true rfl) rfl (by first | decide | exact ⟨Nat.zero_le _, Nat.zero_le _⟩) ?_
    rw [ctS_set (by omega)]
    refine go_iload_n (at_of tX3_countOne 0 14 rfl) rfl ?_
    refine go_iconst (at_of tX3_countOne 0 15 rfl) (by unfold in32; omega) ?_
    refine go_iadd (at_of tX3_countOne 1 0 rfl) (by unfold in32; omega) ?_
    refine go_istore_n (at_of tX3_countOne 1 1 rfl) rfl rfl ?_
    refine go_iload_n (at_of tX3_countOne 1 2 rfl) rfl ?_
    refine go_iconst (at_of tX3_countOne 1 3 rfl) (by unfold in32; omega) ?_
    refine go_icmp_ge (tgt := 50) (at_of tX3_countOne 1 4 rfl) (by decide) (fun h32 => ?_) (fun h32 => ?_)
    rotate_left
    · exfalso; omega
    exact go_retv (at_of tX3_countOne 1 12 rfl) (by rw [ctS_congr (c := ct1 2 rs c) (c' := updZ c 2 (c 2 + 1)) ⟨by unfold ct1 updZ; simp [hrs], by unfold ct1 updZ; simp [hrs], by unfold ct1 updZ; simp [hrs]⟩]; try rfl)
theorem con_countOne (hS : Str σ.2.1) {c : Int → Int} {lv rs : Int} (hlv : 0 ≤ lv ∧ lv ≤ 2) (hr : 0 ≤ rs ∧ rs ≤ 99) (hc : ∀ j, 0 ≤ c j ∧ c j ≤ 1000) : Con 1 mX3_countOne 0 0 [vA 87, vI lv, vI rs] (ctS σ c) (vT 8 0, ctS σ (ct1 lv rs c)) := by
  have h3 : lv = 0 ∨ lv = 1 ∨ lv = 2 := by omega
  rcases h3 with rfl | rfl | rfl
  · exact con_countOne_0 hS hr (hc 0)
  · exact con_countOne_1 hS hr (hc 1)
  · exact con_countOne_2 hS hr (hc 2)
theorem con_countTo (hS : Str σ.2.1) (hk : k < 8) (hR : RepR σ k R) (hE : EndW R) {e : Int} (he : 0 ≤ e ∧ e ≤ R.2.1) : Con 2 mX3_countTo 0 0 [vA 87, vA (4 + 10 * k), vI e] σ (vT 8 0, ctS σ (ctF R e)) := by
  obtain ⟨g1, g2, g3, g4, g5, g6, g7, g8, g9, g10⟩ := gamk k hk
  obtain ⟨p1, p2, p3, p4, p5, p6, p7, p8, p9⟩ := strk hS k hk
  have hn := hR.1
  obtain ⟨hw1, hw2, hw3⟩ := hR.2.2.2
  have key : ∀ (m : Nat) (b : Nat × Nat) (i : Int) (c : Int → Int), 0 ≤ i → i + m = e + 1 → (∀ j, 0 ≤ c j ∧ c j ≤ 99 + i) → Go (fun _ => 0) 2 mX3_countTo b 34 [vA 87, vA (4 + 10 * k), vI e, vI (R.1 7 e), vI i] [] (ctS σ c) (vT 8 0, ctS σ (upX (ctG R (R.1 7 e)) m i c)) := by
    intro m
    induction m with
    | zero =>
      intro b i c h0 h1 h2
      refine go_iload (at_of tX3_countTo 1 3 rfl) rfl rfl ?_
      refine go_iload_n (at_of tX3_countTo 1 4 rfl) rfl ?_
      refine go_icmp_gt (tgt := 87) (at_of tX3_countTo 1 5 rfl) (by decide) (fun h37 => ?_) (fun h37 => ?_)
      rotate_left
      · exfalso; omega
      exact go_retv (at_of tX3_countTo 2 12 rfl) (by rw [upX])
    | succ m ih =>
      intro b i c h0 h1 h2
      have hRc : RepR (ctS σ c) k R := hR.frm ctS_frm (by omega)
      rw [upX]
      by_cases hq : sendB R.1 R.2.1 i = true
      · have h3 : 0 ≤ i ∧ i ≤ R.2.1 ∧ R.1 3 i = -1 ∧ R.1 0 i = 47 := of_decide_eq_true hq
        obtain ⟨w1, w2, w3, w4, w5, w6⟩ := hE i h3.1 h3.2.1 h3.2.2.2
        by_cases hl : R.1 7 i = R.1 7 e
        · have e9 : ctG R (R.1 7 e) c i = ct1 (R.1 8 i) (R.1 9 i) c := if_pos ⟨hq, hl⟩
          rw [e9]
          have hcc := ct1_le (lv := R.1 8 i) (rs := R.1 9 i) (K := 99 + i) ⟨w3, w4⟩ h2 (by omega)
          refine go_iload (at_of tX3_countTo 1 3 rfl) rfl rfl ?_
          refine go_iload_n (at_of tX3_countTo 1 4 rfl) rfl ?_
          refine go_icmp_gt (tgt := 87) (at_of tX3_countTo 1 5 rfl) (by decide) (fun h37 => ?_) (fun h37 => ?_)
          · exfalso; omega
          refine go_aload_n (at_of tX3_countTo 1 6 rfl) rfl ?_
          refine go_iload (at_of tX3_countTo 1 7 rfl) rfl rfl ?_
          refine go_cV (r_isSeenEnd (by exact hS) hk hRc) lk_X3_52 rfl g2 (at_of tX3_countTo 1 8 rfl) rfl (by decide) rfl (Nat.le_of_ble_eq_true rfl) rfl (by first | decide | exact ⟨Nat.zero_le _, Nat.zero_le _⟩) ?_
          refine go_if_eq (tgt := 81) (at_of tX3_countTo 1 9 rfl) (by decide) (fun h46 => ?_) (fun h46 => ?_)
          · exfalso; exact bI_0.mp h46 hq
          refine go_aload_n (at_of tX3_countTo 1 10 rfl) rfl ?_
          refine go_bipush (at_of tX3_countTo 1 11 rfl) (by decide) ?_
          refine go_iload (at_of tX3_countTo 1 12 rfl) rfl rfl ?_
          refine go_cV (r_fact (by exact hS) hk hRc (by omega) (by omega)) lk_X3_44 rfl g2 (at_of tX3_countTo 1 13 rfl) rfl (by decide) rfl (Nat.le_of_ble_eq_true rfl) rfl (by first | decide | exact ⟨Nat.zero_le _, Nat.zero_le _⟩) ?_
          refine go_iload_n (at_of tX3_countTo 1 14 rfl) rfl ?_
          refine go_icmp_ne (tgt := 81) (at_of tX3_countTo 1 15 rfl) (by decide) (fun h58 => ?_) (fun h58 => ?_)
          · exfalso; omega
          refine go_aload_n (at_of tX3_countTo 2 0 rfl) rfl ?_
          refine go_aload_n (at_of tX3_countTo 2 1 rfl) rfl ?_
          refine go_bipush (at_of tX3_countTo 2 2 rfl) (by decide) ?_
          refine go_iload (at_of tX3_countTo 2 3 rfl) rfl rfl ?_
          refine go_cV (r_fact (by exact hS) hk hRc (by omega) (by omega)) lk_X3_44 rfl g2 (at_of tX3_countTo 2 4 rfl) rfl (by decide) rfl (Nat.le_of_ble_eq_true rfl) rfl (by first | decide | exact ⟨Nat.zero_le _, Nat.zero_le _⟩) ?_
          refine go_aload_n (at_of tX3_countTo 2 5 rfl) rfl ?_
          refine go_bipush (at_of tX3_countTo 2 6 rfl) (by decide) ?_
          refine go_iload (at_of tX3_countTo 2 7 rfl) rfl rfl ?_
          refine go_cV (r_fact (by exact hS) hk hRc (by omega) (by omega)) lk_X3_44 rfl g2 (at_of tX3_countTo 2 8 rfl) rfl (by decide) rfl (Nat.le_of_ble_eq_true rfl) rfl (by first | decide | exact ⟨Nat.zero_le _, Nat.zero_le _⟩) ?_
          refine go_cV (con_countOne hS ⟨w1, w2⟩ ⟨w3, w4⟩ (fun j => by have := h2 j; omega)) lk_X3_56 rfl G_87 (at_of tX3_countTo 2 9 rfl) rfl (by decide) rfl (Nat.le_of_ble_eq_true rfl) rfl (by first | decide | exact ⟨Nat.zero_le _, Nat.zero_le _⟩) ?_
          refine go_iinc (at_of tX3_countTo 2 10 rfl) rfl (by unfold in32; omega) rfl rfl ?_
          refine go_goto (tgt := 34) (at_of tX3_countTo 2 11 rfl) (by decide) ?_
          exact ih _ _ _ (by omega) (by omega) (fun j => by have := hcc j; omega)
        · have e9 : ctG R (R.1 7 e) c i = c := if_neg (fun q => hl q.2)
          rw [e9]
          refine go_iload (at_of tX3_countTo 1 3 rfl) rfl rfl ?_
          refine go_iload_n (at_of tX3_countTo 1 4 rfl) rfl ?_
          refine go_icmp_gt (tgt := 87) (at_of tX3_countTo 1 5 rfl) (by decide) (fun h37 => ?_) (fun h37 => ?_)
          · exfalso; omega
          refine go_aload_n (at_of tX3_countTo 1 6 rfl) rfl ?_
          refine go_iload (at_of tX3_countTo 1 7 rfl) rfl rfl ?_
          refine go_cV (r_isSeenEnd (by exact hS) hk hRc) lk_X3_52 rfl g2 (at_of tX3_countTo 1 8 rfl) rfl (by decide) rfl (Nat.le_of_ble_eq_true rfl) rfl (by first | decide | exact ⟨Nat.zero_le _, Nat.zero_le _⟩) ?_
          refine go_if_eq (tgt := 81) (at_of tX3_countTo 1 9 rfl) (by decide) (fun h46 => ?_) (fun h46 => ?_)
          · exfalso; exact bI_0.mp h46 hq
          refine go_aload_n (at_of tX3_countTo 1 10 rfl) rfl ?_
          refine go_bipush (at_of tX3_countTo 1 11 rfl) (by decide) ?_
          refine go_iload (at_of tX3_countTo 1 12 rfl) rfl rfl ?_
          refine go_cV (r_fact (by exact hS) hk hRc (by omega) (by omega)) lk_X3_44 rfl g2 (at_of tX3_countTo 1 13 rfl) rfl (by decide) rfl (Nat.le_of_ble_eq_true rfl) rfl (by first | decide | exact ⟨Nat.zero_le _, Nat.zero_le _⟩) ?_
          refine go_iload_n (at_of tX3_countTo 1 14 rfl) rfl ?_
          refine go_icmp_ne (tgt := 81) (at_of tX3_countTo 1 15 rfl) (by decide) (fun h58 => ?_) (fun h58 => ?_)
          rotate_left
          · exfalso; omega
          refine go_iinc (at_of tX3_countTo 2 10 rfl) rfl (by unfold in32; omega) rfl rfl ?_
          refine go_goto (tgt := 34) (at_of tX3_countTo 2 11 rfl) (by decide) ?_
          exact ih _ _ _ (by omega) (by omega) (fun j => by have := h2 j; omega)
      · have e9 : ctG R (R.1 7 e) c i = c := if_neg (fun q => hq q.1)
        rw [e9]
        refine go_iload (at_of tX3_countTo 1 3 rfl) rfl rfl ?_
        refine go_iload_n (at_of tX3_countTo 1 4 rfl) rfl ?_
        refine go_icmp_gt (tgt := 87) (at_of tX3_countTo 1 5 rfl) (by decide) (fun h37 => ?_) (fun h37 => ?_)
        · exfalso; omega
        refine go_aload_n (at_of tX3_countTo 1 6 rfl) rfl ?_
        refine go_iload (at_of tX3_countTo 1 7 rfl) rfl rfl ?_
        refine go_cV (r_isSeenEnd (by exact hS) hk hRc) lk_X3_52 rfl g2 (at_of tX3_countTo 1 8 rfl) rfl (by decide) rfl (Nat.le_of_ble_eq_true rfl) rfl (by first | decide | exact ⟨Nat.zero_le _, Nat.zero_le _⟩) ?_
        refine go_if_eq (tgt := 81) (at_of tX3_countTo 1 9 rfl) (by decide) (fun h46 => ?_) (fun h46 => ?_)
        rotate_left
        · exfalso; exact hq (bI_1.mp h46)
        refine go_iinc (at_of tX3_countTo 2 10 rfl) rfl (by unfold in32; omega) rfl rfl ?_
        refine go_goto (tgt := 34) (at_of tX3_countTo 2 11 rfl) (by decide) ?_
        exact ih _ _ _ (by omega) (by omega) (fun j => by have := h2 j; omega)
  unfold ctF
  refine con_of_go mfX3_countTo.1 trivial (Nat.le_of_ble_eq_true rfl) rfl (by decide) ?_
  show Go _ _ _ _ 0 [vA _, vA _, vI _, vT 9 0, vT 9 0] [] _ _
  refine go_aload_n (at_of tX3_countTo 0 0 rfl) rfl ?_
  refine go_bipush (at_of tX3_countTo 0 1 rfl) (by decide) ?_
  refine go_iload_n (at_of tX3_countTo 0 2 rfl) rfl ?_
  refine go_cV (r_fact hS hk hR (by omega) (by omega)) lk_X3_44 rfl g2 (at_of tX3_countTo 0 3 rfl) rfl (by decide) rfl (Nat.le_of_ble_eq_true rfl) rfl (by first | decide | exact ⟨Nat.zero_le _, Nat.zero_le _⟩) ?_
  refine go_istore_n (at_of tX3_countTo 0 4 rfl) rfl rfl ?_
  refine go_iconst (at_of tX3_countTo 0 5 rfl) (by unfold in32; omega) ?_
  refine go_istore (at_of tX3_countTo 0 6 rfl) rfl rfl ?_
  refine go_iload (at_of tX3_countTo 0 7 rfl) rfl rfl ?_
  refine go_iconst (at_of tX3_countTo 0 8 rfl) (by unfold in32; omega) ?_
  refine go_icmp_ge (tgt := 31) (at_of tX3_countTo 0 9 rfl) (by decide) (fun h14 => ?_) (fun h14 => ?_)
  · exfalso; omega
  refine go_aload_n (at_of tX3_countTo 0 10 rfl) rfl ?_
  refine go_getr (q := 90) fl_X3_19 rfl G_87 ((hS _ _ rfl).trans rfl) (at_of tX3_countTo 0 11 rfl) ?_
  refine go_iload (at_of tX3_countTo 0 12 rfl) rfl rfl ?_
  refine go_iconst (at_of tX3_countTo 0 13 rfl) (by unfold in32; omega) ?_
  refine go_iast1 G_90 (by omega) (by omega) (at_of tX3_countTo 0 14 rfl) ?_
  refine go_iinc (at_of tX3_countTo 0 15 rfl) rfl (by unfold in32; omega) rfl rfl ?_
  refine go_goto (tgt := 11) (at_of tX3_countTo 1 0 rfl) (by decide) ?_
  refine go_iload (at_of tX3_countTo 0 7 rfl) rfl rfl ?_
  refine go_iconst (at_of tX3_countTo 0 8 rfl) (by unfold in32; omega) ?_
  refine go_icmp_ge (tgt := 31) (at_of tX3_countTo 0 9 rfl) (by decide) (fun h14 => ?_) (fun h14 => ?_)
  · exfalso; omega
  refine go_aload_n (at_of tX3_countTo 0 10 rfl) rfl ?_
  refine go_getr (q := 90) fl_X3_19 rfl G_87 ((hS _ _ rfl).trans rfl) (at_of tX3_countTo 0 11 rfl) ?_
  refine go_iload (at_of tX3_countTo 0 12 rfl) rfl rfl ?_
  refine go_iconst (at_of tX3_countTo 0 13 rfl) (by unfold in32; omega) ?_
  refine go_iast1 G_90 (by omega) (by omega) (at_of tX3_countTo 0 14 rfl) ?_
  refine go_iinc (at_of tX3_countTo 0 15 rfl) rfl (by unfold in32; omega) rfl rfl ?_
  refine go_goto (tgt := 11) (at_of tX3_countTo 1 0 rfl) (by decide) ?_
  refine go_iload (at_of tX3_countTo 0 7 rfl) rfl rfl ?_
  refine go_iconst (at_of tX3_countTo 0 8 rfl) (by unfold in32; omega) ?_
  refine go_icmp_ge (tgt := 31) (at_of tX3_countTo 0 9 rfl) (by decide) (fun h14 => ?_) (fun h14 => ?_)
  · exfalso; omega
  refine go_aload_n (at_of tX3_countTo 0 10 rfl) rfl ?_
  refine go_getr (q := 90) fl_X3_19 rfl G_87 ((hS _ _ rfl).trans rfl) (at_of tX3_countTo 0 11 rfl) ?_
  refine go_iload (at_of tX3_countTo 0 12 rfl) rfl rfl ?_
  refine go_iconst (at_of tX3_countTo 0 13 rfl) (by unfold in32; omega) ?_
  refine go_iast1 G_90 (by omega) (by omega) (at_of tX3_countTo 0 14 rfl) ?_
  refine go_iinc (at_of tX3_countTo 0 15 rfl) rfl (by unfold in32; omega) rfl rfl ?_
  refine go_goto (tgt := 11) (at_of tX3_countTo 1 0 rfl) (by decide) ?_
  refine go_iload (at_of tX3_countTo 0 7 rfl) rfl rfl ?_
  refine go_iconst (at_of tX3_countTo 0 8 rfl) (by unfold in32; omega) ?_
  refine go_icmp_ge (tgt := 31) (at_of tX3_countTo 0 9 rfl) (by decide) (fun h14 => ?_) (fun h14 => ?_)
  rotate_left
  · exfalso; omega
  refine go_iconst (at_of tX3_countTo 1 1 rfl) (by unfold in32; omega) ?_
  refine go_istore (at_of tX3_countTo 1 2 rfl) rfl rfl ?_
  rw [ct_zero]; exact key (e + 1).toNat _ 0 _ (by omega) (by omega) (fun j => ⟨by omega, by omega⟩)
theorem con_ownNumber_no (hS : Str σ.2.1) (hk : k < 8) (hR : RepR σ k R) {e : Int} (he : 0 ≤ e ∧ e ≤ R.2.1) (h7 : R.1 7 e = -1) : Con 3 mX3_ownNumber 0 0 [vA 87, vA (4 + 10 * k), vI e] σ (vI 0, σ) := by
  obtain ⟨g1, g2, g3, g4, g5, g6, g7, g8, g9, g10⟩ := gamk k hk
  obtain ⟨p1, p2, p3, p4, p5, p6, p7, p8, p9⟩ := strk hS k hk
  have hn := hR.1
  obtain ⟨hw1, hw2, hw3⟩ := hR.2.2.2
  refine con_of_go mfX3_ownNumber.1 trivial (Nat.le_of_ble_eq_true rfl) rfl (by decide) ?_
  show Go _ _ _ _ 0 [vA _, vA _, vI _] [] _ _
  refine go_aload_n (at_of tX3_ownNumber 0 0 rfl) rfl ?_
  refine go_bipush (at_of tX3_ownNumber 0 1 rfl) (by decide) ?_
  refine go_iload_n (at_of tX3_ownNumber 0 2 rfl) rfl ?_
  refine go_cV (r_fact hS hk hR (by omega) (by omega)) lk_X3_44 rfl g2 (at_of tX3_ownNumber 0 3 rfl) rfl (by decide) rfl (Nat.le_of_ble_eq_true rfl) rfl (by first | decide | exact ⟨Nat.zero_le _, Nat.zero_le _⟩) ?_
  refine go_iconst (at_of tX3_ownNumber 0 4 rfl) (by unfold in32; omega) ?_
  refine go_icmp_ne (tgt := 13) (at_of tX3_ownNumber 0 5 rfl) (by decide) (fun h8 => ?_) (fun h8 => ?_)
  · exfalso; omega
  refine go_iconst (at_of tX3_ownNumber 0 6 rfl) (by unfold in32; omega) ?_
  first | exact go_reti (at_of tX3_ownNumber 0 7 rfl) rfl | exact go_reti (at_of tX3_ownNumber 0 7 rfl) (le_i (by omega)) | exact go_reti (at_of tX3_ownNumber 0 7 rfl) (le_i (by first | exact bI_t (by omega) | exact bI_f (by omega)))
theorem con_ownNumber (hS : Str σ.2.1) (hk : k < 8) (hR : RepR σ k R) (hE : EndW R) {e : Int} (he : 0 ≤ e ∧ e ≤ R.2.1) (h0 : R.1 0 e = 47) (h7 : R.1 7 e ≠ -1) : Con 3 mX3_ownNumber 0 0 [vA 87, vA (4 + 10 * k), vI e] σ (vI (ctF R e (R.1 8 e)), ctS σ (ctF R e)) := by
  obtain ⟨g1, g2, g3, g4, g5, g6, g7, g8, g9, g10⟩ := gamk k hk
  obtain ⟨p1, p2, p3, p4, p5, p6, p7, p8, p9⟩ := strk hS k hk
  have hn := hR.1
  obtain ⟨hw1, hw2, hw3⟩ := hR.2.2.2
  obtain ⟨w1, w2, w3, w4, w5, w6⟩ := hE e he.1 he.2 h0
  refine con_of_go mfX3_ownNumber.1 trivial (Nat.le_of_ble_eq_true rfl) rfl (by decide) ?_
  show Go _ _ _ _ 0 [vA _, vA _, vI _] [] _ _
  refine go_aload_n (at_of tX3_ownNumber 0 0 rfl) rfl ?_
  refine go_bipush (at_of tX3_ownNumber 0 1 rfl) (by decide) ?_
  refine go_iload_n (at_of tX3_ownNumber 0 2 rfl) rfl ?_
  refine go_cV (r_fact hS hk hR (by omega) (by omega)) lk_X3_44 rfl g2 (at_of tX3_ownNumber 0 3 rfl) rfl (by decide) rfl (Nat.le_of_ble_eq_true rfl) rfl (by first | decide | exact ⟨Nat.zero_le _, Nat.zero_le _⟩) ?_
  refine go_iconst (at_of tX3_ownNumber 0 4 rfl) (by unfold in32; omega) ?_
  refine go_icmp_ne (tgt := 13) (at_of tX3_ownNumber 0 5 rfl) (by decide) (fun h8 => ?_) (fun h8 => ?_)
  rotate_left
  · exfalso; omega
  refine go_aload_n (at_of tX3_ownNumber 0 8 rfl) rfl ?_
  refine go_aload_n (at_of tX3_ownNumber 0 9 rfl) rfl ?_
  refine go_iload_n (at_of tX3_ownNumber 0 10 rfl) rfl ?_
  refine go_cV (con_countTo hS hk hR hE he) lk_X3_48 rfl G_87 (at_of tX3_ownNumber 0 11 rfl) rfl (by decide) rfl (Nat.le_of_ble_eq_true rfl) rfl (by first | decide | exact ⟨Nat.zero_le _, Nat.zero_le _⟩) ?_
  refine go_aload_n (at_of tX3_ownNumber 0 12 rfl) rfl ?_
  refine go_getr (q := 90) fl_X3_19 rfl G_87 ((hS _ _ rfl).trans rfl) (at_of tX3_ownNumber 0 13 rfl) ?_
  refine go_aload_n (at_of tX3_ownNumber 0 14 rfl) rfl ?_
  refine go_bipush (at_of tX3_ownNumber 0 15 rfl) (by decide) ?_
  refine go_iload_n (at_of tX3_ownNumber 1 0 rfl) rfl ?_
  refine go_cV (r_fact (by exact hS) hk (hR.frm ctS_frm (by omega)) (by omega) (by omega)) lk_X3_44 rfl g2 (at_of tX3_ownNumber 1 1 rfl) rfl (by decide) rfl (Nat.le_of_ble_eq_true rfl) rfl (by first | decide | exact ⟨Nat.zero_le _, Nat.zero_le _⟩) ?_
  refine go_cN (con_cell G_90 (by omega) (by omega)) lk_X3_30 rfl (at_of tX3_ownNumber 1 2 rfl) rfl (by decide) rfl (Nat.le_of_ble_eq_true rfl) rfl (by first | decide | exact ⟨Nat.zero_le _, Nat.zero_le _⟩) ?_
  exact go_reti (at_of tX3_ownNumber 1 3 rfl) (le_i (ctS_at (by omega)).symm)
end Numb
section Line
variable {σ : St} {k : Nat} {R : RowD}
/-- signs put to the line -/
def putS (σ : St) (c : Int) : St := P1 (M1 σ 91 (σ.1 87 4) c) 87 4 (σ.1 87 4 + 1)
def putL (σ : St) (l : List Int) : St := l.foldl putS σ
theorem putS_n {c : Int} : (putS σ c).1 87 4 = σ.1 87 4 + 1 := P1_eq
theorem putL_n : ∀ {l : List Int} {σ : St}, (putL σ l).1 87 4 = σ.1 87 4 + l.length := by
  intro l
  induction l with
  | nil => intro σ; show σ.1 87 4 = σ.1 87 4 + ((0 : Nat) : Int); omega
  | cons c l ih => intro σ; show (putL (putS σ c) l).1 87 4 = _; rw [ih, putS_n, List.length_cons]; omega
theorem putL_app {l l' : List Int} : putL σ (l ++ l') = putL (putL σ l) l' := List.foldl_append
theorem putL_ne : ∀ {l : List Int} {σ : St} {a j : Nat}, a ≠ 87 → a ≠ 91 → (putL σ l).1 a j = σ.1 a j := by
  intro l
  induction l with
  | nil => intro σ a j _ _; rfl
  | cons c l ih => intro σ a j h1 h2; show (putL (putS σ c) l).1 a j = _; rw [ih h1 h2]; unfold putS; rw [P1_ne h1, M1_ne h2]
theorem putL_2 : ∀ {l : List Int} {σ : St}, (putL σ l).2 = σ.2 := by
  intro l
  induction l with
  | nil => intro σ; rfl
  | cons c l ih => intro σ; show (putL (putS σ c) l).2 = _; rw [ih]; rfl
theorem putL_frm {l : List Int} : Frm σ (putL σ l) 87 91 := ⟨putL_2, fun a h j => putL_ne (by omega) (by omega)⟩
theorem putL_lo : ∀ {l : List Int} {σ : St} {j : Nat}, 0 ≤ σ.1 87 4 → (j : Int) < σ.1 87 4 → (putL σ l).1 91 j = σ.1 91 j := by
  intro l
  induction l with
  | nil => intro σ j _ _; rfl
  | cons c l ih =>
    intro σ j h0 h1
    show (putL (putS σ c) l).1 91 j = _
    rw [ih (by rw [putS_n]; omega) (by rw [putS_n]; omega)]
    unfold putS
    rw [P1_ne (by omega), M1_nj (by omega)]
theorem putL_at : ∀ {l : List Int} {σ : St} {j : Nat}, 0 ≤ σ.1 87 4 → σ.1 87 4 ≤ j → (j : Int) < σ.1 87 4 + l.length → (putL σ l).1 91 j = l.getD (j - (σ.1 87 4).toNat) 0 := by
  intro l
  induction l with
  | nil => intro σ j _ h1 h2; have h2 : (j : Int) < σ.1 87 4 + ((0 : Nat) : Int) := h2; omega
  | cons c l ih =>
    intro σ j h0 h1 h2
    rw [List.length_cons] at h2
    show (putL (putS σ c) l).1 91 j = _
    by_cases e : (j : Int) = σ.1 87 4
    · rw [putL_lo (by rw [putS_n]; omega) (by rw [putS_n]; omega), show j - (σ.1 87 4).toNat = 0 by omega]
      unfold putS
      rw [P1_ne (by omega), M1_eq (by omega)]
      rfl
    · rw [ih (by rw [putS_n]; omega) (by rw [putS_n]; omega) (by rw [putS_n]; omega), putS_n, show j - (σ.1 87 4).toNat = (j - (σ.1 87 4 + 1).toNat) + 1 by omega]
      rfl
def unitF (n : Int) : Nat → Int → Int
  | 0, u => u
  | m + 1, u => if n / 10 < u then u else unitF n m (u * 10)
def digF : Nat → Int → Int → List Int
  | 0, _, _ => []
  | m + 1, q, u => if u ≤ 0 then [] else (48 + q / u) % 65536 :: digF m (q % u) (u / 10)
def digC (n : Int) : List Int := digF 9 n (unitF n 8 1)
def letC (n : Int) : List Int := List.replicate ((n - 1) / 26 + 1).toNat ((97 + (n - 1) % 26) % 65536)
def romD (d o f t : Int) : List Int := if d % 5 = 4 then [o, if d = 4 then f else t] else (if 5 ≤ d then [f] else []) ++ List.replicate (d % 5).toNat o
def romC (n : Int) : List Int := romD (n / 100 % 10) 99 100 109 ++ (romD (n / 10 % 10) 120 108 99 ++ romD (n % 10) 105 118 120)
def numC (kd n : Int) : List Int := if kd = 97 then letC n else if kd = 114 then romC n else digC n
theorem digF_len : ∀ (m : Nat) (q u : Int), (digF m q u).length ≤ m := by
  intro m
  induction m with
  | zero => intro q u; exact Nat.le_refl _
  | succ m ih => intro q u; rw [digF]; split
                 · exact Nat.zero_le _
                 · rw [List.length_cons]; exact Nat.succ_le_succ (ih _ _)
theorem romD_len {d o f t : Int} (h : 0 ≤ d ∧ d < 10) : (romD d o f t).length ≤ 4 := by
  unfold romD
  split
  · exact Nat.le_of_ble_eq_true rfl
  · rw [List.length_append, List.length_replicate]
    split
    · show 1 + _ ≤ 4; omega
    · show 0 + _ ≤ 4; omega
theorem numC_len {kd n : Int} (h : 1 ≤ n ∧ n ≤ 400) : (numC kd n).length ≤ 16 := by
  unfold numC
  split
  · unfold letC; rw [List.length_replicate]; omega
  · split
    · unfold romC
      have h1 := romD_len (d := n / 100 % 10) (o := 99) (f := 100) (t := 109) (by omega)
      have h2 := romD_len (d := n / 10 % 10) (o := 120) (f := 108) (t := 99) (by omega)
      have h3 := romD_len (d := n % 10) (o := 105) (f := 118) (t := 120) (by omega)
      rw [List.length_append, List.length_append]
      omega
    · have := digF_len 9 n (unitF n 8 1); unfold digC; omega
theorem con_addSign3 (hS : Str σ.2.1) (h : 0 ≤ σ.1 87 4 ∧ σ.1 87 4 < 128) {c : Int} (hc : 0 ≤ c ∧ c < 65536) : Con 1 mX3_addSign 0 0 [vA 87, vI c] σ (vT 8 0, putS σ c) := by
  refine con_of_go mfX3_addSign.1 trivial (Nat.le_of_ble_eq_true rfl) rfl (by decide) ?_
  show Go _ _ _ _ 0 [vA _, vI _] [] _ _
  refine go_aload_n (at_of tX3_addSign 0 0 rfl) rfl ?_
  refine go_getf fl_X3_26 rfl G_87 (at_of tX3_addSign 0 1 rfl) ?_
  refine go_sipush (at_of tX3_addSign 0 2 rfl) (by decide) ?_
  refine go_cN (con_isWithin) lk_X3_38 rfl (at_of tX3_addSign 0 3 rfl) rfl (by decide) rfl (Nat.le_of_ble_eq_true rfl) rfl (by first | decide | exact ⟨Nat.zero_le _, Nat.zero_le _⟩) ?_
  refine go_if_eq (tgt := 33) (at_of tX3_addSign 0 4 rfl) (by decide) (fun h10 => ?_) (fun h10 => ?_)
  · exfalso; exact bI_0.mp h10 (by omega)
  refine go_aload_n (at_of tX3_addSign 0 5 rfl) rfl ?_
  refine go_getr (q := 91) fl_X3_22 rfl G_87 ((hS _ _ rfl).trans rfl) (at_of tX3_addSign 0 6 rfl) ?_
  refine go_aload_n (at_of tX3_addSign 0 7 rfl) rfl ?_
  refine go_getf fl_X3_26 rfl G_87 (at_of tX3_addSign 0 8 rfl) ?_
  refine go_iload_n (at_of tX3_addSign 0 9 rfl) rfl ?_
  refine go_cast1 G_91 (by omega) (by omega) (by omega) (at_of tX3_addSign 0 10 rfl) ?_
  refine go_aload_n (at_of tX3_addSign 0 11 rfl) rfl ?_
  refine go_dup (at_of tX3_addSign 0 12 rfl) rfl ?_
  refine go_getf fl_X3_26 rfl G_87 (at_of tX3_addSign 0 13 rfl) ?_
  rw [M1_ne (by omega)]
  refine go_iconst (at_of tX3_addSign 0 14 rfl) (by unfold in32; omega) ?_
  refine go_iadd (at_of tX3_addSign 0 15 rfl) (by unfold in32; omega) ?_
  refine go_put1 fp_X3_26 rfl (Or.inl rfl) G_87 (Or.inl rfl) (at_of tX3_addSign 1 0 rfl) ?_
  exact go_retv (at_of tX3_addSign 1 1 rfl) rfl
theorem con_addDigits (hS : Str σ.2.1) {n : Int} (hn : 0 ≤ n ∧ n < 10000) (h : 0 ≤ σ.1 87 4 ∧ σ.1 87 4 + 9 ≤ 128) : Con 2 mX3_addDigits 0 0 [vA 87, vI n] σ (vT 8 0, putL σ (digC n)) := by
  have key2 : ∀ (m : Nat) (b : Nat × Nat) (i q u : Int) (σ : St), Str σ.2.1 → 0 ≤ i → i + m = 9 → 0 ≤ q → q < 10000 → 0 ≤ u → u < 100000 → 0 ≤ σ.1 87 4 → σ.1 87 4 + m ≤ 128 → Go (fun _ => 0) 2 mX3_addDigits b 34 [vA 87, vI n, vI u, vI q, vI i] [] σ (vT 8 0, putL σ (digF m q u)) := by
    intro m
    induction m with
    | zero =>
      intro b i q u σ hS h0 h1 h2 h3 h4 h5 h6 h7
      refine go_iload (at_of tX3_addDigits 1 6 rfl) rfl rfl ?_
      refine go_bipush (at_of tX3_addDigits 1 7 rfl) (by decide) ?_
      refine go_icmp_ge (tgt := 71) (at_of tX3_addDigits 1 8 rfl) (by decide) (fun h38 => ?_) (fun h38 => ?_)
      rotate_left
      · exfalso; omega
      exact go_retv (at_of tX3_addDigits 2 13 rfl) rfl
    | succ m ih =>
      intro b i q u σ hS h0 h1 h2 h3 h4 h5 h6 h7
      by_cases hu : u ≤ 0
      · rw [digF, if_pos hu]
        refine go_iload (at_of tX3_addDigits 1 6 rfl) rfl rfl ?_
        refine go_bipush (at_of tX3_addDigits 1 7 rfl) (by decide) ?_
        refine go_icmp_ge (tgt := 71) (at_of tX3_addDigits 1 8 rfl) (by decide) (fun h38 => ?_) (fun h38 => ?_)
        · exfalso; omega
        refine go_iload_n (at_of tX3_addDigits 1 9 rfl) rfl ?_
        refine go_if_le (tgt := 71) (at_of tX3_addDigits 1 10 rfl) (by decide) (fun h42 => ?_) (fun h42 => ?_)
        rotate_left
        · exfalso; omega
        exact go_retv (at_of tX3_addDigits 2 13 rfl) rfl
      · rw [digF, if_neg hu]
        have d1 : 0 ≤ q / u := Int.ediv_nonneg h2 (by omega)
        have d2 : q / u ≤ q := Int.ediv_le_self u h2
        have d3 : 0 ≤ q % u := Int.emod_nonneg q (by omega)
        have d4 : q % u < u := Int.emod_lt_of_pos q (by omega)
        have d5 : q % u ≤ q := by have := Int.mul_ediv_add_emod q u; have := Int.mul_nonneg (show (0 : Int) ≤ u by omega) d1; omega
        refine go_iload (at_of tX3_addDigits 1 6 rfl) rfl rfl ?_
        refine go_bipush (at_of tX3_addDigits 1 7 rfl) (by decide) ?_
        refine go_icmp_ge (tgt := 71) (at_of tX3_addDigits 1 8 rfl) (by decide) (fun h38 => ?_) (fun h38 => ?_)
        · exfalso; omega
        refine go_iload_n (at_of tX3_addDigits 1 9 rfl) rfl ?_
        refine go_if_le (tgt := 71) (at_of tX3_addDigits 1 10 rfl) (by decide) (fun h42 => ?_) (fun h42 => ?_)
        · exfalso; omega
        refine go_aload_n (at_of tX3_addDigits 1 11 rfl) rfl ?_
        refine go_bipush (at_of tX3_addDigits 1 12 rfl) (by decide) ?_
        refine go_iload_n (at_of tX3_addDigits 1 13 rfl) rfl ?_
        refine go_iload_n (at_of tX3_addDigits 1 14 rfl) rfl ?_
        refine go_idiv (at_of tX3_addDigits 1 15 rfl) (by omega) (by omega) ?_
        refine go_iadd (at_of tX3_addDigits 2 0 rfl) (by unfold in32; omega) ?_
        refine go_i2c (at_of tX3_addDigits 2 1 rfl) ?_
        refine go_cV (con_addSign3 hS (by omega) (by omega)) lk_X3_60 rfl G_87 (at_of tX3_addDigits 2 2 rfl) rfl (by decide) rfl (Nat.le_of_ble_eq_true rfl) rfl (by first | decide | exact ⟨Nat.zero_le _, Nat.zero_le _⟩) ?_
        refine go_iload_n (at_of tX3_addDigits 2 3 rfl) rfl ?_
        refine go_iload_n (at_of tX3_addDigits 2 4 rfl) rfl ?_
        refine go_irem (at_of tX3_addDigits 2 5 rfl) (by omega) (by omega) ?_
        refine go_istore_n (at_of tX3_addDigits 2 6 rfl) rfl rfl ?_
        refine go_iload_n (at_of tX3_addDigits 2 7 rfl) rfl ?_
        refine go_bipush (at_of tX3_addDigits 2 8 rfl) (by decide) ?_
        refine go_idiv (at_of tX3_addDigits 2 9 rfl) (by omega) (by omega) ?_
        refine go_istore_n (at_of tX3_addDigits 2 10 rfl) rfl rfl ?_
        refine go_iinc (at_of tX3_addDigits 2 11 rfl) rfl (by unfold in32; omega) rfl rfl ?_
        refine go_goto (tgt := 34) (at_of tX3_addDigits 2 12 rfl) (by decide) ?_
        exact ih _ _ _ _ (putS σ _) hS (by omega) (by omega) (by omega) (by omega) (by omega) (by omega) (by rw [putS_n]; omega) (by rw [putS_n]; omega)
  have key1 : ∀ (m : Nat) (b : Nat × Nat) (i u : Int) (v4 : MV), 0 ≤ i → i + m = 8 → 1 ≤ u → u < 100000 → Go (fun _ => 0) 2 mX3_addDigits b 4 [vA 87, vI n, vI u, vI i, v4] [] σ (vT 8 0, putL σ (digF 9 n (unitF n m u))) := by
    intro m
    induction m with
    | zero =>
      intro b i u v4 h0 h1 h2 h3
      refine go_iload_n (at_of tX3_addDigits 0 4 rfl) rfl ?_
      refine go_bipush (at_of tX3_addDigits 0 5 rfl) (by decide) ?_
      refine go_icmp_ge (tgt := 29) (at_of tX3_addDigits 0 6 rfl) (by decide) (fun h7 => ?_) (fun h7 => ?_)
      rotate_left
      · exfalso; omega
      refine go_iload_n (at_of tX3_addDigits 1 2 rfl) rfl ?_
      refine go_istore_n (at_of tX3_addDigits 1 3 rfl) rfl rfl ?_
      refine go_iconst (at_of tX3_addDigits 1 4 rfl) (by unfold in32; omega) ?_
      refine go_istore (at_of tX3_addDigits 1 5 rfl) rfl rfl ?_
      rw [unitF]; exact key2 9 _ 0 n u σ hS (by omega) (by omega) (by omega) (by omega) (by omega) (by omega) (by omega) (by omega)
    | succ m ih =>
      intro b i u v4 h0 h1 h2 h3
      rw [unitF]
      refine go_iload_n (at_of tX3_addDigits 0 4 rfl) rfl ?_
      refine go_bipush (at_of tX3_addDigits 0 5 rfl) (by decide) ?_
      refine go_icmp_ge (tgt := 29) (at_of tX3_addDigits 0 6 rfl) (by decide) (fun h7 => ?_) (fun h7 => ?_)
      · exfalso; omega
      refine go_iload_n (at_of tX3_addDigits 0 7 rfl) rfl ?_
      refine go_bipush (at_of tX3_addDigits 0 8 rfl) (by decide) ?_
      refine go_idiv (at_of tX3_addDigits 0 9 rfl) (by omega) (by omega) ?_
      refine go_iload_n (at_of tX3_addDigits 0 10 rfl) rfl ?_
      refine go_icmp_lt (tgt := 29) (at_of tX3_addDigits 0 11 rfl) (by decide) (fun h15 => ?_) (fun h15 => ?_)
      · refine go_iload_n (at_of tX3_addDigits 1 2 rfl) rfl ?_
        refine go_istore_n (at_of tX3_addDigits 1 3 rfl) rfl rfl ?_
        refine go_iconst (at_of tX3_addDigits 1 4 rfl) (by unfold in32; omega) ?_
        refine go_istore (at_of tX3_addDigits 1 5 rfl) rfl rfl ?_
        rw [if_pos (by omega)]; exact key2 9 _ 0 n u σ hS (by omega) (by omega) (by omega) (by omega) (by omega) (by omega) (by omega) (by omega)
      · refine go_iload_n (at_of tX3_addDigits 0 12 rfl) rfl ?_
        refine go_bipush (at_of tX3_addDigits 0 13 rfl) (by decide) ?_
        refine go_imul (at_of tX3_addDigits 0 14 rfl) (by unfold in32; omega) ?_
        refine go_istore_n (at_of tX3_addDigits 0 15 rfl) rfl rfl ?_
        refine go_iinc (at_of tX3_addDigits 1 0 rfl) rfl (by unfold in32; omega) rfl rfl ?_
        refine go_goto (tgt := 4) (at_of tX3_addDigits 1 1 rfl) (by decide) ?_
        rw [if_neg (by omega)]; exact ih _ _ _ _ (by omega) (by omega) (by omega) (by omega)
  refine con_of_go mfX3_addDigits.1 trivial (Nat.le_of_ble_eq_true rfl) rfl (by decide) ?_
  show Go _ _ _ _ 0 [vA _, vI _, vT 9 0, vT 9 0, vT 9 0] [] _ _
  refine go_iconst (at_of tX3_addDigits 0 0 rfl) (by unfold in32; omega) ?_
  refine go_istore_n (at_of tX3_addDigits 0 1 rfl) rfl rfl ?_
  refine go_iconst (at_of tX3_addDigits 0 2 rfl) (by unfold in32; omega) ?_
  refine go_istore_n (at_of tX3_addDigits 0 3 rfl) rfl rfl ?_
  exact key1 8 _ 0 1 _ (by omega) (by omega) (by omega) (by omega)
theorem con_addLetters (hS : Str σ.2.1) {n : Int} (hn : 1 ≤ n ∧ n ≤ 400) (h : 0 ≤ σ.1 87 4 ∧ σ.1 87 4 + 16 ≤ 128) : Con 2 mX3_addLetters 0 0 [vA 87, vI n] σ (vT 8 0, putL σ (letC n)) := by
  obtain ⟨c, hc⟩ : ∃ c : Int, c = (97 + (n - 1) % 26) % 65536 := ⟨_, rfl⟩
  obtain ⟨t, ht⟩ : ∃ t : Int, t = (n - 1) / 26 + 1 := ⟨_, rfl⟩
  have key : ∀ (m : Nat) (b : Nat × Nat) (i : Int) (σ : St), Str σ.2.1 → 0 ≤ i → i + m = t → 0 ≤ σ.1 87 4 → σ.1 87 4 + m ≤ 128 → Go (fun _ => 0) 2 mX3_addLetters b 23 [vA 87, vI n, vI c, vI t, vI i] [] σ (vT 8 0, putL σ (List.replicate m c)) := by
    intro m
    induction m with
    | zero =>
      intro b i σ hS h0 h1 h2 h3
      refine go_iload (at_of tX3_addLetters 1 3 rfl) rfl rfl ?_
      refine go_iload_n (at_of tX3_addLetters 1 4 rfl) rfl ?_
      refine go_icmp_ge (tgt := 48) (at_of tX3_addLetters 1 5 rfl) (by decide) (fun h26 => ?_) (fun h26 => ?_)
      rotate_left
      · exfalso; omega
      exact go_retv (at_of tX3_addLetters 1 14 rfl) rfl
    | succ m ih =>
      intro b i σ hS h0 h1 h2 h3
      rw [List.replicate_succ]
      refine go_iload (at_of tX3_addLetters 1 3 rfl) rfl rfl ?_
      refine go_iload_n (at_of tX3_addLetters 1 4 rfl) rfl ?_
      refine go_icmp_ge (tgt := 48) (at_of tX3_addLetters 1 5 rfl) (by decide) (fun h26 => ?_) (fun h26 => ?_)
      · exfalso; omega
      refine go_iload (at_of tX3_addLetters 1 6 rfl) rfl rfl ?_
      refine go_sipush (at_of tX3_addLetters 1 7 rfl) (by decide) ?_
      refine go_icmp_ge (tgt := 48) (at_of tX3_addLetters 1 8 rfl) (by decide) (fun h34 => ?_) (fun h34 => ?_)
      · exfalso; omega
      refine go_aload_n (at_of tX3_addLetters 1 9 rfl) rfl ?_
      refine go_iload_n (at_of tX3_addLetters 1 10 rfl) rfl ?_
      refine go_cV (con_addSign3 hS (by omega) (by omega)) lk_X3_60 rfl G_87 (at_of tX3_addLetters 1 11 rfl) rfl (by decide) rfl (Nat.le_of_ble_eq_true rfl) rfl (by first | decide | exact ⟨Nat.zero_le _, Nat.zero_le _⟩) ?_
      refine go_iinc (at_of tX3_addLetters 1 12 rfl) rfl (by unfold in32; omega) rfl rfl ?_
      refine go_goto (tgt := 23) (at_of tX3_addLetters 1 13 rfl) (by decide) ?_
      exact ih _ _ (putS σ c) hS (by omega) (by omega) (by rw [putS_n]; omega) (by rw [putS_n]; omega)
  unfold letC
  rw [← hc, ← ht]
  refine con_of_go mfX3_addLetters.1 trivial (Nat.le_of_ble_eq_true rfl) rfl (by decide) ?_
  show Go _ _ _ _ 0 [vA _, vI _, vT 9 0, vT 9 0, vT 9 0] [] _ _
  refine go_bipush (at_of tX3_addLetters 0 0 rfl) (by decide) ?_
  refine go_iload_n (at_of tX3_addLetters 0 1 rfl) rfl ?_
  refine go_iconst (at_of tX3_addLetters 0 2 rfl) (by unfold in32; omega) ?_
  refine go_isub (at_of tX3_addLetters 0 3 rfl) (by unfold in32; omega) ?_
  refine go_bipush (at_of tX3_addLetters 0 4 rfl) (by decide) ?_
  refine go_irem (at_of tX3_addLetters 0 5 rfl) (by omega) (by omega) ?_
  refine go_iadd (at_of tX3_addLetters 0 6 rfl) (by unfold in32; omega) ?_
  refine go_i2c (at_of tX3_addLetters 0 7 rfl) ?_
  rw [← hc]
  refine go_istore_n (at_of tX3_addLetters 0 8 rfl) rfl rfl ?_
  refine go_iload_n (at_of tX3_addLetters 0 9 rfl) rfl ?_
  refine go_iconst (at_of tX3_addLetters 0 10 rfl) (by unfold in32; omega) ?_
  refine go_isub (at_of tX3_addLetters 0 11 rfl) (by unfold in32; omega) ?_
  refine go_bipush (at_of tX3_addLetters 0 12 rfl) (by decide) ?_
  refine go_idiv (at_of tX3_addLetters 0 13 rfl) (by omega) (by omega) ?_
  refine go_iconst (at_of tX3_addLetters 0 14 rfl) (by unfold in32; omega) ?_
  refine go_iadd (at_of tX3_addLetters 0 15 rfl) (by unfold in32; omega) ?_
  rw [← ht]
  refine go_istore_n (at_of tX3_addLetters 1 0 rfl) rfl rfl ?_
  refine go_iconst (at_of tX3_addLetters 1 1 rfl) (by unfold in32; omega) ?_
  refine go_istore (at_of tX3_addLetters 1 2 rfl) rfl rfl ?_
  exact key t.toNat _ 0 σ hS (by omega) (by omega) (by omega) (by omega)
theorem con_addRomanDigit (hS : Str σ.2.1) {d c f t : Int} (hd : 0 ≤ d ∧ d < 10) (hc : 0 ≤ c ∧ c < 65536) (hf : 0 ≤ f ∧ f < 65536) (ht : 0 ≤ t ∧ t < 65536) (h : 0 ≤ σ.1 87 4 ∧ σ.1 87 4 + 4 ≤ 128) : Con 2 mX3_addRomanDigit 0 0 [vA 87, vI d, vI c, vI f, vI t] σ (vT 8 0, putL σ (romD d c f t)) := by
  have e1 := @putS_n σ c
  have e2 := @putS_n σ f
  have key : ∀ (m : Nat) (b : Nat × Nat) (i : Int) (σ : St), Str σ.2.1 → 0 ≤ i → i + m = d % 5 → 0 ≤ σ.1 87 4 → σ.1 87 4 + m ≤ 128 → Go (fun _ => 0) 2 mX3_addRomanDigit b 41 [vA 87, vI d, vI c, vI f, vI t, vI i] [] σ (vT 8 0, putL σ (List.replicate m c)) := by
    intro m
    induction m with
    | zero =>
      intro b i σ hS h0 h1 h2 h3
      refine go_iload (at_of tX3_addRomanDigit 1 9 rfl) rfl rfl ?_
      refine go_iload_n (at_of tX3_addRomanDigit 1 10 rfl) rfl ?_
      refine go_iconst (at_of tX3_addRomanDigit 1 11 rfl) (by unfold in32; omega) ?_
      refine go_irem (at_of tX3_addRomanDigit 1 12 rfl) (by omega) (by omega) ?_
      refine go_icmp_ge (tgt := 60) (at_of tX3_addRomanDigit 1 13 rfl) (by decide) (fun h46 => ?_) (fun h46 => ?_)
      rotate_left
      · exfalso; omega
      exact go_retv (at_of tX3_addRomanDigit 2 3 rfl) rfl
    | succ m ih =>
      intro b i σ hS h0 h1 h2 h3
      rw [List.replicate_succ]
      refine go_iload (at_of tX3_addRomanDigit 1 9 rfl) rfl rfl ?_
      refine go_iload_n (at_of tX3_addRomanDigit 1 10 rfl) rfl ?_
      refine go_iconst (at_of tX3_addRomanDigit 1 11 rfl) (by unfold in32; omega) ?_
      refine go_irem (at_of tX3_addRomanDigit 1 12 rfl) (by omega) (by omega) ?_
      refine go_icmp_ge (tgt := 60) (at_of tX3_addRomanDigit 1 13 rfl) (by decide) (fun h46 => ?_) (fun h46 => ?_)
      · exfalso; omega
      refine go_aload_n (at_of tX3_addRomanDigit 1 14 rfl) rfl ?_
      refine go_iload_n (at_of tX3_addRomanDigit 1 15 rfl) rfl ?_
      refine go_cV (con_addSign3 hS (by omega) (by omega)) lk_X3_60 rfl G_87 (at_of tX3_addRomanDigit 2 0 rfl) rfl (by decide) rfl (Nat.le_of_ble_eq_true rfl) rfl (by first | decide | exact ⟨Nat.zero_le _, Nat.zero_le _⟩) ?_
      refine go_iinc (at_of tX3_addRomanDigit 2 1 rfl) rfl (by unfold in32; omega) rfl rfl ?_
      refine go_goto (tgt := 41) (at_of tX3_addRomanDigit 2 2 rfl) (by decide) ?_
      exact ih _ _ (putS σ c) hS (by omega) (by omega) (by rw [putS_n]; omega) (by rw [putS_n]; omega)
  unfold romD
  by_cases h4 : d % 5 = 4
  · rw [if_pos h4]
    by_cases hd4 : d = 4
    · rw [if_pos hd4]
      refine con_of_go mfX3_addRomanDigit.1 trivial (Nat.le_of_ble_eq_true rfl) rfl (by decide) ?_
      show Go _ _ _ _ 0 [vA _, vI _, vI _, vI _, vI _, vT 9 0] [] _ _
      refine go_iload_n (at_of tX3_addRomanDigit 0 0 rfl) rfl ?_
      refine go_iconst (at_of tX3_addRomanDigit 0 1 rfl) (by unfold in32; omega) ?_
      refine go_irem (at_of tX3_addRomanDigit 0 2 rfl) (by omega) (by omega) ?_
      refine go_iconst (at_of tX3_addRomanDigit 0 3 rfl) (by unfold in32; omega) ?_
      refine go_icmp_ne (tgt := 28) (at_of tX3_addRomanDigit 0 4 rfl) (by decide) (fun h4 => ?_) (fun h4 => ?_)
      · exfalso; omega
      refine go_aload_n (at_of tX3_addRomanDigit 0 5 rfl) rfl ?_
      refine go_iload_n (at_of tX3_addRomanDigit 0 6 rfl) rfl ?_
      refine go_cV (con_addSign3 (by exact hS) (by omega) (by omega)) lk_X3_60 rfl G_87 (at_of tX3_addRomanDigit 0 7 rfl) rfl (by decide) rfl (Nat.le_of_ble_eq_true rfl) rfl (by first | decide | exact ⟨Nat.zero_le _, Nat.zero_le _⟩) ?_
      refine go_aload_n (at_of tX3_addRomanDigit 0 8 rfl) rfl ?_
      refine go_iload_n (at_of tX3_addRomanDigit 0 9 rfl) rfl ?_
      refine go_iconst (at_of tX3_addRomanDigit 0 10 rfl) (by unfold in32; omega) ?_
      refine go_icmp_ne (tgt := 22) (at_of tX3_addRomanDigit 0 11 rfl) (by decide) (fun h15 => ?_) (fun h15 => ?_)
      · exfalso; omega
      refine go_iload_n (at_of tX3_addRomanDigit 0 12 rfl) rfl ?_
      refine go_goto (tgt := 24) (at_of tX3_addRomanDigit 0 13 rfl) (by decide) ?_
      refine go_cV (con_addSign3 (σ := putS σ c) hS (by omega) (by omega)) lk_X3_60 rfl G_87 (at_of tX3_addRomanDigit 0 15 rfl) rfl (by decide) rfl (Nat.le_of_ble_eq_true rfl) rfl (by first | decide | exact ⟨Nat.zero_le _, Nat.zero_le _⟩) ?_
      exact go_retv (at_of tX3_addRomanDigit 1 0 rfl) rfl
    · rw [if_neg hd4]
      refine con_of_go mfX3_addRomanDigit.1 trivial (Nat.le_of_ble_eq_true rfl) rfl (by decide) ?_
      show Go _ _ _ _ 0 [vA _, vI _, vI _, vI _, vI _, vT 9 0] [] _ _
      refine go_iload_n (at_of tX3_addRomanDigit 0 0 rfl) rfl ?_
      refine go_iconst (at_of tX3_addRomanDigit 0 1 rfl) (by unfold in32; omega) ?_
      refine go_irem (at_of tX3_addRomanDigit 0 2 rfl) (by omega) (by omega) ?_
      refine go_iconst (at_of tX3_addRomanDigit 0 3 rfl) (by unfold in32; omega) ?_
      refine go_icmp_ne (tgt := 28) (at_of tX3_addRomanDigit 0 4 rfl) (by decide) (fun h4 => ?_) (fun h4 => ?_)
      · exfalso; omega
      refine go_aload_n (at_of tX3_addRomanDigit 0 5 rfl) rfl ?_
      refine go_iload_n (at_of tX3_addRomanDigit 0 6 rfl) rfl ?_
      refine go_cV (con_addSign3 (by exact hS) (by omega) (by omega)) lk_X3_60 rfl G_87 (at_of tX3_addRomanDigit 0 7 rfl) rfl (by decide) rfl (Nat.le_of_ble_eq_true rfl) rfl (by first | decide | exact ⟨Nat.zero_le _, Nat.zero_le _⟩) ?_
      refine go_aload_n (at_of tX3_addRomanDigit 0 8 rfl) rfl ?_
      refine go_iload_n (at_of tX3_addRomanDigit 0 9 rfl) rfl ?_
      refine go_iconst (at_of tX3_addRomanDigit 0 10 rfl) (by unfold in32; omega) ?_
      refine go_icmp_ne (tgt := 22) (at_of tX3_addRomanDigit 0 11 rfl) (by decide) (fun h15 => ?_) (fun h15 => ?_)
      rotate_left
      · exfalso; omega
      refine go_iload (at_of tX3_addRomanDigit 0 14 rfl) rfl rfl ?_
      refine go_cV (con_addSign3 (σ := putS σ c) hS (by omega) (by omega)) lk_X3_60 rfl G_87 (at_of tX3_addRomanDigit 0 15 rfl) rfl (by decide) rfl (Nat.le_of_ble_eq_true rfl) rfl (by first | decide | exact ⟨Nat.zero_le _, Nat.zero_le _⟩) ?_
      exact go_retv (at_of tX3_addRomanDigit 1 0 rfl) rfl
  · rw [if_neg h4]
    by_cases h5 : 5 ≤ d
    · rw [if_pos h5]
      refine con_of_go mfX3_addRomanDigit.1 trivial (Nat.le_of_ble_eq_true rfl) rfl (by decide) ?_
      show Go _ _ _ _ 0 [vA _, vI _, vI _, vI _, vI _, vT 9 0] [] _ _
      refine go_iload_n (at_of tX3_addRomanDigit 0 0 rfl) rfl ?_
      refine go_iconst (at_of tX3_addRomanDigit 0 1 rfl) (by unfold in32; omega) ?_
      refine go_irem (at_of tX3_addRomanDigit 0 2 rfl) (by omega) (by omega) ?_
      refine go_iconst (at_of tX3_addRomanDigit 0 3 rfl) (by unfold in32; omega) ?_
      refine go_icmp_ne (tgt := 28) (at_of tX3_addRomanDigit 0 4 rfl) (by decide) (fun h4 => ?_) (fun h4 => ?_)
      rotate_left
      · exfalso; omega
      refine go_iload_n (at_of tX3_addRomanDigit 1 1 rfl) rfl ?_
      refine go_iconst (at_of tX3_addRomanDigit 1 2 rfl) (by unfold in32; omega) ?_
      refine go_icmp_lt (tgt := 38) (at_of tX3_addRomanDigit 1 3 rfl) (by decide) (fun h30 => ?_) (fun h30 => ?_)
      · exfalso; omega
      refine go_aload_n (at_of tX3_addRomanDigit 1 4 rfl) rfl ?_
      refine go_iload_n (at_of tX3_addRomanDigit 1 5 rfl) rfl ?_
      refine go_cV (con_addSign3 (by exact hS) (by omega) (by omega)) lk_X3_60 rfl G_87 (at_of tX3_addRomanDigit 1 6 rfl) rfl (by decide) rfl (Nat.le_of_ble_eq_true rfl) rfl (by first | decide | exact ⟨Nat.zero_le _, Nat.zero_le _⟩) ?_
      refine go_iconst (at_of tX3_addRomanDigit 1 7 rfl) (by unfold in32; omega) ?_
      refine go_istore (at_of tX3_addRomanDigit 1 8 rfl) rfl rfl ?_
      exact key (d % 5).toNat _ 0 (putS σ f) hS (by omega) (by omega) (by omega) (by omega)
    · rw [if_neg h5]
      refine con_of_go mfX3_addRomanDigit.1 trivial (Nat.le_of_ble_eq_true rfl) rfl (by decide) ?_
      show Go _ _ _ _ 0 [vA _, vI _, vI _, vI _, vI _, vT 9 0] [] _ _
      refine go_iload_n (at_of tX3_addRomanDigit 0 0 rfl) rfl ?_
      refine go_iconst (at_of tX3_addRomanDigit 0 1 rfl) (by unfold in32; omega) ?_
      refine go_irem (at_of tX3_addRomanDigit 0 2 rfl) (by omega) (by omega) ?_
      refine go_iconst (at_of tX3_addRomanDigit 0 3 rfl) (by unfold in32; omega) ?_
      refine go_icmp_ne (tgt := 28) (at_of tX3_addRomanDigit 0 4 rfl) (by decide) (fun h4 => ?_) (fun h4 => ?_)
      rotate_left
      · exfalso; omega
      refine go_iload_n (at_of tX3_addRomanDigit 1 1 rfl) rfl ?_
      refine go_iconst (at_of tX3_addRomanDigit 1 2 rfl) (by unfold in32; omega) ?_
      refine go_icmp_lt (tgt := 38) (at_of tX3_addRomanDigit 1 3 rfl) (by decide) (fun h30 => ?_) (fun h30 => ?_)
      rotate_left
      · exfalso; omega
      refine go_iconst (at_of tX3_addRomanDigit 1 7 rfl) (by unfold in32; omega) ?_
      refine go_istore (at_of tX3_addRomanDigit 1 8 rfl) rfl rfl ?_
      exact key (d % 5).toNat _ 0 σ hS (by omega) (by omega) (by omega) (by omega)
theorem con_addRoman (hS : Str σ.2.1) {n : Int} (hn : 1 ≤ n ∧ n ≤ 400) (h : 0 ≤ σ.1 87 4 ∧ σ.1 87 4 + 16 ≤ 128) : Con 3 mX3_addRoman 0 0 [vA 87, vI n] σ (vT 8 0, putL σ (romC n)) := by
  have l1 := romD_len (d := n / 100 % 10) (o := 99) (f := 100) (t := 109) (by omega)
  have l2 := romD_len (d := n / 10 % 10) (o := 120) (f := 108) (t := 99) (by omega)
  have n1 := @putL_n (romD (n / 100 % 10) 99 100 109) σ
  have n2 := @putL_n (romD (n / 10 % 10) 120 108 99) (putL σ (romD (n / 100 % 10) 99 100 109))
  have S1 : Str (putL σ (romD (n / 100 % 10) 99 100 109)).2.1 := by rw [putL_2]; exact hS
  have S2 : Str (putL (putL σ (romD (n / 100 % 10) 99 100 109)) (romD (n / 10 % 10) 120 108 99)).2.1 := by rw [putL_2]; exact S1
  refine con_of_go mfX3_addRoman.1 trivial (Nat.le_of_ble_eq_true rfl) rfl (by decide) ?_
  show Go _ _ _ _ 0 [vA _, vI _, vT 9 0, vT 9 0] [] _ _
  refine go_iload_n (at_of tX3_addRoman 0 0 rfl) rfl ?_
  refine go_sipush (at_of tX3_addRoman 0 1 rfl) (by decide) ?_
  refine go_idiv (at_of tX3_addRoman 0 2 rfl) (by omega) (by omega) ?_
  refine go_istore_n (at_of tX3_addRoman 0 3 rfl) rfl rfl ?_
  refine go_iconst (at_of tX3_addRoman 0 4 rfl) (by unfold in32; omega) ?_
  refine go_istore_n (at_of tX3_addRoman 0 5 rfl) rfl rfl ?_
  refine go_iload_n (at_of tX3_addRoman 0 6 rfl) rfl ?_
  refine go_iload_n (at_of tX3_addRoman 0 7 rfl) rfl ?_
  refine go_icmp_ge (tgt := 32) (at_of tX3_addRoman 0 8 rfl) (by decide) (fun h10 => ?_) (fun h10 => ?_)
  rotate_left
  · exfalso; omega
  refine go_aload_n (at_of tX3_addRoman 1 1 rfl) rfl ?_
  refine go_iload_n (at_of tX3_addRoman 1 2 rfl) rfl ?_
  refine go_bipush (at_of tX3_addRoman 1 3 rfl) (by decide) ?_
  refine go_idiv (at_of tX3_addRoman 1 4 rfl) (by omega) (by omega) ?_
  refine go_bipush (at_of tX3_addRoman 1 5 rfl) (by decide) ?_
  refine go_irem (at_of tX3_addRoman 1 6 rfl) (by omega) (by omega) ?_
  refine go_bipush (at_of tX3_addRoman 1 7 rfl) (by decide) ?_
  refine go_bipush (at_of tX3_addRoman 1 8 rfl) (by decide) ?_
  refine go_bipush (at_of tX3_addRoman 1 9 rfl) (by decide) ?_
  refine go_cV (con_addRomanDigit hS (by omega) (by omega) (by omega) (by omega) (by omega)) lk_X3_83 rfl G_87 (at_of tX3_addRoman 1 10 rfl) rfl (by decide) rfl (Nat.le_of_ble_eq_true rfl) rfl (by first | decide | exact ⟨Nat.zero_le _, Nat.zero_le _⟩) ?_
  refine go_aload_n (at_of tX3_addRoman 1 11 rfl) rfl ?_
  refine go_iload_n (at_of tX3_addRoman 1 12 rfl) rfl ?_
  refine go_bipush (at_of tX3_addRoman 1 13 rfl) (by decide) ?_
  refine go_idiv (at_of tX3_addRoman 1 14 rfl) (by omega) (by omega) ?_
  refine go_bipush (at_of tX3_addRoman 1 15 rfl) (by decide) ?_
  refine go_irem (at_of tX3_addRoman 2 0 rfl) (by omega) (by omega) ?_
  refine go_bipush (at_of tX3_addRoman 2 1 rfl) (by decide) ?_
  refine go_bipush (at_of tX3_addRoman 2 2 rfl) (by decide) ?_
  refine go_bipush (at_of tX3_addRoman 2 3 rfl) (by decide) ?_
  refine go_cV (con_addRomanDigit S1 (by omega) (by omega) (by omega) (by omega) (by omega)) lk_X3_83 rfl G_87 (at_of tX3_addRoman 2 4 rfl) rfl (by decide) rfl (Nat.le_of_ble_eq_true rfl) rfl (by first | decide | exact ⟨Nat.zero_le _, Nat.zero_le _⟩) ?_
  refine go_aload_n (at_of tX3_addRoman 2 5 rfl) rfl ?_
  refine go_iload_n (at_of tX3_addRoman 2 6 rfl) rfl ?_
  refine go_bipush (at_of tX3_addRoman 2 7 rfl) (by decide) ?_
  refine go_irem (at_of tX3_addRoman 2 8 rfl) (by omega) (by omega) ?_
  refine go_bipush (at_of tX3_addRoman 2 9 rfl) (by decide) ?_
  refine go_bipush (at_of tX3_addRoman 2 10 rfl) (by decide) ?_
  refine go_bipush (at_of tX3_addRoman 2 11 rfl) (by decide) ?_
  refine go_cV (con_addRomanDigit S2 (by omega) (by omega) (by omega) (by omega) (by omega)) lk_X3_83 rfl G_87 (at_of tX3_addRoman 2 12 rfl) rfl (by decide) rfl (Nat.le_of_ble_eq_true rfl) rfl (by first | decide | exact ⟨Nat.zero_le _, Nat.zero_le _⟩) ?_
  exact go_retv (at_of tX3_addRoman 2 13 rfl) (by unfold romC; rw [putL_app, putL_app])
theorem con_addNumber (hS : Str σ.2.1) {l v n : Int} (hl : 0 ≤ l ∧ l < 3) (hv : 0 ≤ v ∧ v < 3) (hn : 1 ≤ n ∧ n ≤ 400) (h : 0 ≤ σ.1 87 4 ∧ σ.1 87 4 + 16 ≤ 128) : Con 4 mX3_addNumber 0 0 [vA 87, vI l, vI v, vI n] σ (vT 8 0, putL σ (numC (if σ.1 89 l.toNat ≠ 0 then 100 else σ.1 88 (l * 3 + v).toNat) n)) := by
  unfold numC
  by_cases hg : σ.1 89 l.toNat ≠ 0
  · rw [if_pos hg, if_neg (by omega), if_neg (by omega)]
    refine con_of_go mfX3_addNumber.1 trivial (Nat.le_of_ble_eq_true rfl) rfl (by decide) ?_
    show Go _ _ _ _ 0 [vA _, vI _, vI _, vI _, vT 9 0] [] _ _
    refine go_iload_n (at_of tX3_addNumber 0 0 rfl) rfl ?_
    refine go_iconst (at_of tX3_addNumber 0 1 rfl) (by unfold in32; omega) ?_
    refine go_cN (con_isWithin) lk_X3_38 rfl (at_of tX3_addNumber 0 2 rfl) rfl (by decide) rfl (Nat.le_of_ble_eq_true rfl) rfl (by first | decide | exact ⟨Nat.zero_le _, Nat.zero_le _⟩) ?_
    refine go_if_eq (tgt := 22) (at_of tX3_addNumber 0 3 rfl) (by decide) (fun h5 => ?_) (fun h5 => ?_)
    · exfalso; exact bI_0.mp h5 (by omega)
    refine go_aload_n (at_of tX3_addNumber 0 4 rfl) rfl ?_
    refine go_getr (q := 89) fl_X3_15 rfl G_87 ((hS _ _ rfl).trans rfl) (at_of tX3_addNumber 0 5 rfl) ?_
    refine go_iload_n (at_of tX3_addNumber 0 6 rfl) rfl ?_
    refine go_bald G_89 (by omega) (by omega) (at_of tX3_addNumber 0 7 rfl) ?_
    refine go_if_eq (tgt := 22) (at_of tX3_addNumber 0 8 rfl) (by decide) (fun h14 => ?_) (fun h14 => ?_)
    · exfalso; omega
    refine go_bipush (at_of tX3_addNumber 0 9 rfl) (by decide) ?_
    refine go_goto (tgt := 34) (at_of tX3_addNumber 0 10 rfl) (by decide) ?_
    refine go_istore (at_of tX3_addNumber 1 3 rfl) rfl rfl ?_
    refine go_iload (at_of tX3_addNumber 1 4 rfl) rfl rfl ?_
    refine go_lookup (tgt := 80) (at_of tX3_addNumber 1 5 rfl) (by decide) rfl (by decide) ?_
    refine go_aload_n (at_of tX3_addNumber 1 14 rfl) rfl ?_
    refine go_iload_n (at_of tX3_addNumber 1 15 rfl) rfl ?_
    refine go_cV (con_addDigits hS (by omega) (by omega)) lk_X3_80 rfl G_87 (at_of tX3_addNumber 2 0 rfl) rfl (by decide) rfl (Nat.le_of_ble_eq_true rfl) rfl (by first | decide | exact ⟨Nat.zero_le _, Nat.zero_le _⟩) ?_
    exact go_retv (at_of tX3_addNumber 2 1 rfl) rfl
  · rw [if_neg hg]
    by_cases ha : σ.1 88 (l * 3 + v).toNat = 97
    · rw [if_pos ha]
      refine con_of_go mfX3_addNumber.1 trivial (Nat.le_of_ble_eq_true rfl) rfl (by decide) ?_
      show Go _ _ _ _ 0 [vA _, vI _, vI _, vI _, vT 9 0] [] _ _
      refine go_iload_n (at_of tX3_addNumber 0 0 rfl) rfl ?_
      refine go_iconst (at_of tX3_addNumber 0 1 rfl) (by unfold in32; omega) ?_
      refine go_cN (con_isWithin) lk_X3_38 rfl (at_of tX3_addNumber 0 2 rfl) rfl (by decide) rfl (Nat.le_of_ble_eq_true rfl) rfl (by first | decide | exact ⟨Nat.zero_le _, Nat.zero_le _⟩) ?_
      refine go_if_eq (tgt := 22) (at_of tX3_addNumber 0 3 rfl) (by decide) (fun h5 => ?_) (fun h5 => ?_)
      · exfalso; exact bI_0.mp h5 (by omega)
      refine go_aload_n (at_of tX3_addNumber 0 4 rfl) rfl ?_
      refine go_getr (q := 89) fl_X3_15 rfl G_87 ((hS _ _ rfl).trans rfl) (at_of tX3_addNumber 0 5 rfl) ?_
      refine go_iload_n (at_of tX3_addNumber 0 6 rfl) rfl ?_
      refine go_bald G_89 (by omega) (by omega) (at_of tX3_addNumber 0 7 rfl) ?_
      refine go_if_eq (tgt := 22) (at_of tX3_addNumber 0 8 rfl) (by decide) (fun h14 => ?_) (fun h14 => ?_)
      rotate_left
      · exfalso; omega
      refine go_aload_n (at_of tX3_addNumber 0 11 rfl) rfl ?_
      refine go_getr (q := 88) fl_X3_9 rfl G_87 ((hS _ _ rfl).trans rfl) (at_of tX3_addNumber 0 12 rfl) ?_
      refine go_iload_n (at_of tX3_addNumber 0 13 rfl) rfl ?_
      refine go_iconst (at_of tX3_addNumber 0 14 rfl) (by unfold in32; omega) ?_
      refine go_imul (at_of tX3_addNumber 0 15 rfl) (by unfold in32; omega) ?_
      refine go_iload_n (at_of tX3_addNumber 1 0 rfl) rfl ?_
      refine go_iadd (at_of tX3_addNumber 1 1 rfl) (by unfold in32; omega) ?_
      refine go_cN (con_cell G_88 (by omega) (by omega)) lk_X3_30 rfl (at_of tX3_addNumber 1 2 rfl) rfl (by decide) rfl (Nat.le_of_ble_eq_true rfl) rfl (by first | decide | exact ⟨Nat.zero_le _, Nat.zero_le _⟩) ?_
      refine go_istore (at_of tX3_addNumber 1 3 rfl) rfl rfl ?_
      refine go_iload (at_of tX3_addNumber 1 4 rfl) rfl rfl ?_
      rw [ha]
      refine go_lookup (tgt := 64) (at_of tX3_addNumber 1 5 rfl) (by decide) rfl (by decide) ?_
      refine go_aload_n (at_of tX3_addNumber 1 6 rfl) rfl ?_
      refine go_iload_n (at_of tX3_addNumber 1 7 rfl) rfl ?_
      refine go_cV (con_addLetters hS hn h) lk_X3_73 rfl G_87 (at_of tX3_addNumber 1 8 rfl) rfl (by decide) rfl (Nat.le_of_ble_eq_true rfl) rfl (by first | decide | exact ⟨Nat.zero_le _, Nat.zero_le _⟩) ?_
      refine go_goto (tgt := 85) (at_of tX3_addNumber 1 9 rfl) (by decide) ?_
      exact go_retv (at_of tX3_addNumber 2 1 rfl) rfl
    · rw [if_neg ha]
      by_cases hr : σ.1 88 (l * 3 + v).toNat = 114
      · rw [if_pos hr]
        refine con_of_go mfX3_addNumber.1 trivial (Nat.le_of_ble_eq_true rfl) rfl (by decide) ?_
        show Go _ _ _ _ 0 [vA _, vI _, vI _, vI _, vT 9 0] [] _ _
        refine go_iload_n (at_of tX3_addNumber 0 0 rfl) rfl ?_
        refine go_iconst (at_of tX3_addNumber 0 1 rfl) (by unfold in32; omega) ?_
        refine go_cN (con_isWithin) lk_X3_38 rfl (at_of tX3_addNumber 0 2 rfl) rfl (by decide) rfl (Nat.le_of_ble_eq_true rfl) rfl (by first | decide | exact ⟨Nat.zero_le _, Nat.zero_le _⟩) ?_
        refine go_if_eq (tgt := 22) (at_of tX3_addNumber 0 3 rfl) (by decide) (fun h5 => ?_) (fun h5 => ?_)
        · exfalso; exact bI_0.mp h5 (by omega)
        refine go_aload_n (at_of tX3_addNumber 0 4 rfl) rfl ?_
        refine go_getr (q := 89) fl_X3_15 rfl G_87 ((hS _ _ rfl).trans rfl) (at_of tX3_addNumber 0 5 rfl) ?_
        refine go_iload_n (at_of tX3_addNumber 0 6 rfl) rfl ?_
        refine go_bald G_89 (by omega) (by omega) (at_of tX3_addNumber 0 7 rfl) ?_
        refine go_if_eq (tgt := 22) (at_of tX3_addNumber 0 8 rfl) (by decide) (fun h14 => ?_) (fun h14 => ?_)
        rotate_left
        · exfalso; omega
        refine go_aload_n (at_of tX3_addNumber 0 11 rfl) rfl ?_
        refine go_getr (q := 88) fl_X3_9 rfl G_87 ((hS _ _ rfl).trans rfl) (at_of tX3_addNumber 0 12 rfl) ?_
        refine go_iload_n (at_of tX3_addNumber 0 13 rfl) rfl ?_
        refine go_iconst (at_of tX3_addNumber 0 14 rfl) (by unfold in32; omega) ?_
        refine go_imul (at_of tX3_addNumber 0 15 rfl) (by unfold in32; omega) ?_
        refine go_iload_n (at_of tX3_addNumber 1 0 rfl) rfl ?_
        refine go_iadd (at_of tX3_addNumber 1 1 rfl) (by unfold in32; omega) ?_
        refine go_cN (con_cell G_88 (by omega) (by omega)) lk_X3_30 rfl (at_of tX3_addNumber 1 2 rfl) rfl (by decide) rfl (Nat.le_of_ble_eq_true rfl) rfl (by first | decide | exact ⟨Nat.zero_le _, Nat.zero_le _⟩) ?_
        refine go_istore (at_of tX3_addNumber 1 3 rfl) rfl rfl ?_
        refine go_iload (at_of tX3_addNumber 1 4 rfl) rfl rfl ?_
        rw [hr]
        refine go_lookup (tgt := 72) (at_of tX3_addNumber 1 5 rfl) (by decide) rfl (by decide) ?_
        refine go_aload_n (at_of tX3_addNumber 1 10 rfl) rfl ?_
        refine go_iload_n (at_of tX3_addNumber 1 11 rfl) rfl ?_
        refine go_cV (con_addRoman hS hn h) lk_X3_77 rfl G_87 (at_of tX3_addNumber 1 12 rfl) rfl (by decide) rfl (Nat.le_of_ble_eq_true rfl) rfl (by first | decide | exact ⟨Nat.zero_le _, Nat.zero_le _⟩) ?_
        refine go_goto (tgt := 85) (at_of tX3_addNumber 1 13 rfl) (by decide) ?_
        exact go_retv (at_of tX3_addNumber 2 1 rfl) rfl
      · rw [if_neg hr]
        have hlk : Op.lookupswitch.offset [(97, 26), (114, 34)] 42 (σ.1 88 (l * 3 + v).toNat) = 42 := by
          unfold Op.lookupswitch.offset
          rw [if_neg (fun q => ha q.symm)]
          unfold Op.lookupswitch.offset
          rw [if_neg (fun q => hr q.symm)]
          rfl
        refine con_of_go mfX3_addNumber.1 trivial (Nat.le_of_ble_eq_true rfl) rfl (by decide) ?_
        show Go _ _ _ _ 0 [vA _, vI _, vI _, vI _, vT 9 0] [] _ _
        refine go_iload_n (at_of tX3_addNumber 0 0 rfl) rfl ?_
        refine go_iconst (at_of tX3_addNumber 0 1 rfl) (by unfold in32; omega) ?_
        refine go_cN (con_isWithin) lk_X3_38 rfl (at_of tX3_addNumber 0 2 rfl) rfl (by decide) rfl (Nat.le_of_ble_eq_true rfl) rfl (by first | decide | exact ⟨Nat.zero_le _, Nat.zero_le _⟩) ?_
        refine go_if_eq (tgt := 22) (at_of tX3_addNumber 0 3 rfl) (by decide) (fun h5 => ?_) (fun h5 => ?_)
        · exfalso; exact bI_0.mp h5 (by omega)
        refine go_aload_n (at_of tX3_addNumber 0 4 rfl) rfl ?_
        refine go_getr (q := 89) fl_X3_15 rfl G_87 ((hS _ _ rfl).trans rfl) (at_of tX3_addNumber 0 5 rfl) ?_
        refine go_iload_n (at_of tX3_addNumber 0 6 rfl) rfl ?_
        refine go_bald G_89 (by omega) (by omega) (at_of tX3_addNumber 0 7 rfl) ?_
        refine go_if_eq (tgt := 22) (at_of tX3_addNumber 0 8 rfl) (by decide) (fun h14 => ?_) (fun h14 => ?_)
        rotate_left
        · exfalso; omega
        refine go_aload_n (at_of tX3_addNumber 0 11 rfl) rfl ?_
        refine go_getr (q := 88) fl_X3_9 rfl G_87 ((hS _ _ rfl).trans rfl) (at_of tX3_addNumber 0 12 rfl) ?_
        refine go_iload_n (at_of tX3_addNumber 0 13 rfl) rfl ?_
        refine go_iconst (at_of tX3_addNumber 0 14 rfl) (by unfold in32; omega) ?_
        refine go_imul (at_of tX3_addNumber 0 15 rfl) (by unfold in32; omega) ?_
        refine go_iload_n (at_of tX3_addNumber 1 0 rfl) rfl ?_
        refine go_iadd (at_of tX3_addNumber 1 1 rfl) (by unfold in32; omega) ?_
        refine go_cN (con_cell G_88 (by omega) (by omega)) lk_X3_30 rfl (at_of tX3_addNumber 1 2 rfl) rfl (by decide) rfl (Nat.le_of_ble_eq_true rfl) rfl (by first | decide | exact ⟨Nat.zero_le _, Nat.zero_le _⟩) ?_
        refine go_istore (at_of tX3_addNumber 1 3 rfl) rfl rfl ?_
        refine go_iload (at_of tX3_addNumber 1 4 rfl) rfl rfl ?_
        refine go_lookup (tgt := 80) (at_of tX3_addNumber 1 5 rfl) (by decide) hlk (by decide) ?_
        refine go_aload_n (at_of tX3_addNumber 1 14 rfl) rfl ?_
        refine go_iload_n (at_of tX3_addNumber 1 15 rfl) rfl ?_
        refine go_cV (con_addDigits hS (by omega) (by omega)) lk_X3_80 rfl G_87 (at_of tX3_addNumber 2 0 rfl) rfl (by decide) rfl (Nat.le_of_ble_eq_true rfl) rfl (by first | decide | exact ⟨Nat.zero_le _, Nat.zero_le _⟩) ?_
        exact go_retv (at_of tX3_addNumber 2 1 rfl) rfl
/-- the numbers of a paragraph, as they are written -/
def linF (kd c : Int → Int) : Nat → Int → List Int
  | 0, _ => []
  | m + 1, v => (if 0 < v then [46] else []) ++ (numC (kd v) (if 1 < c v then c v else 1) ++ linF kd c m (v + 1))
theorem linF_len {kd c : Int → Int} (hc : ∀ j, 0 ≤ c j ∧ c j ≤ 400) : ∀ (m : Nat) (v : Int), (linF kd c m v).length ≤ 17 * m := by
  intro m
  induction m with
  | zero => intro v; exact Nat.le_refl _
  | succ m ih =>
    intro v
    rw [linF, List.length_append, List.length_append]
    have h1 := ih (v + 1)
    have h2 := numC_len (kd := kd v) (n := if 1 < c v then c v else 1) (by have := hc v; split <;> omega)
    have h3 : (if 0 < v then [(46 : Int)] else []).length ≤ 1 := by split <;> decide
    omega
def kdF (σ : St) (l : Int) : Int → Int := fun v => if σ.1 89 l.toNat ≠ 0 then 100 else σ.1 88 (l * 3 + v).toNat
def lineC (σ : St) (R : RowD) (e : Int) : List Int := linF (kdF σ (R.1 7 e)) (ctF R e) (R.1 8 e + 1).toNat 0
theorem con_writeLine (hS : Str σ.2.1) (hk : k < 8) (hR : RepR σ k R) (hE : EndW R) {e : Int} (he : 0 ≤ e ∧ e ≤ R.2.1) (h0 : R.1 0 e = 47) (h7 : R.1 7 e ≠ -1) : Con 5 mX3_writeLine 0 0 [vA 87, vA (4 + 10 * k), vI e] σ (vI (lineC σ R e).length, putL (P1 (ctS σ (ctF R e)) 87 4 0) (lineC σ R e)) := by
  obtain ⟨g1, g2, g3, g4, g5, g6, g7, g8, g9, g10⟩ := gamk k hk
  obtain ⟨p1, p2, p3, p4, p5, p6, p7, p8, p9⟩ := strk hS k hk
  have hn := hR.1
  obtain ⟨hw1, hw2, hw3⟩ := hR.2.2.2
  obtain ⟨w1, w2, w3, w4, w5, w6⟩ := hE e he.1 he.2 h0
  have hcl := ctF_le hE he hw2
  have key : ∀ (m : Nat) (b : Nat × Nat) (v : Int) (σ1 : St), Str σ1.2.1 → 0 ≤ v → v + m = R.1 8 e + 1 → 0 ≤ σ1.1 87 4 → σ1.1 87 4 + 17 * m ≤ 128 → (∀ j, 0 ≤ j → j < 3 → σ1.1 90 j.toNat = ctF R e j) → kdF σ1 (R.1 7 e) = kdF σ (R.1 7 e) → Go (fun _ => 0) 5 mX3_writeLine b 31 [vA 87, vA (4 + 10 * k), vI e, vI (R.1 7 e), vI (R.1 8 e), vI v] [] σ1 (vI ((putL σ1 (linF (kdF σ (R.1 7 e)) (ctF R e) m v)).1 87 4), putL σ1 (linF (kdF σ (R.1 7 e)) (ctF R e) m v)) := by
    intro m
    induction m with
    | zero =>
      intro b v σ1 hS1 q0 q1 q2 q3 q4 q5
      refine go_iload (at_of tX3_writeLine 1 3 rfl) rfl rfl ?_
      refine go_iload (at_of tX3_writeLine 1 4 rfl) rfl rfl ?_
      refine go_icmp_gt (tgt := 79) (at_of tX3_writeLine 1 5 rfl) (by decide) (fun h35 => ?_) (fun h35 => ?_)
      rotate_left
      · exfalso; omega
      refine go_aload_n (at_of tX3_writeLine 2 10 rfl) rfl ?_
      refine go_getf fl_X3_26 rfl G_87 (at_of tX3_writeLine 2 11 rfl) ?_
      exact go_reti (at_of tX3_writeLine 2 12 rfl) rfl
    | succ m ih =>
      intro b v σ1 hS1 q0 q1 q2 q3 q4 q5
      have q6 := q4 v q0 (by omega)
      have q7 := hcl v
      have q8 : (if σ1.1 89 (R.1 7 e).toNat ≠ 0 then 100 else σ1.1 88 (R.1 7 e * 3 + v).toNat) = kdF σ (R.1 7 e) v := by rw [← q5]; rfl
      have n16 := numC_len (kd := kdF σ (R.1 7 e) v) (n := if 1 < ctF R e v then ctF R e v else 1) (by split <;> omega)
      rw [linF, putL_app, putL_app]
      by_cases hv : 0 < v
      · rw [if_pos hv]
        have e1 := @putS_n σ1 46
        have e6 : (putS σ1 46).1 90 v.toNat = ctF R e v := by unfold putS; rw [P1_ne (by omega), M1_ne (by omega)]; exact q6
        have cn := con_addNumber (σ := putS σ1 46) hS1 (l := R.1 7 e) (v := v) (n := if 1 < ctF R e v then ctF R e v else 1) (by omega) (by omega) (by split <;> omega) (by omega)
        have e8 : (if (putS σ1 46).1 89 (R.1 7 e).toNat ≠ 0 then 100 else (putS σ1 46).1 88 (R.1 7 e * 3 + v).toNat) = kdF σ (R.1 7 e) v := q8
        rw [e8] at cn
        have n2 := @putL_n (numC (kdF σ (R.1 7 e) v) (if 1 < ctF R e v then ctF R e v else 1)) (putS σ1 46)
        refine go_iload (at_of tX3_writeLine 1 3 rfl) rfl rfl ?_
        refine go_iload (at_of tX3_writeLine 1 4 rfl) rfl rfl ?_
        refine go_icmp_gt (tgt := 79) (at_of tX3_writeLine 1 5 rfl) (by decide) (fun h35 => ?_) (fun h35 => ?_)
        · exfalso; omega
        refine go_iload (at_of tX3_writeLine 1 6 rfl) rfl rfl ?_
        refine go_iconst (at_of tX3_writeLine 1 7 rfl) (by unfold in32; omega) ?_
        refine go_icmp_ge (tgt := 79) (at_of tX3_writeLine 1 8 rfl) (by decide) (fun h41 => ?_) (fun h41 => ?_)
        · exfalso; omega
        refine go_iload (at_of tX3_writeLine 1 9 rfl) rfl rfl ?_
        refine go_if_le (tgt := 55) (at_of tX3_writeLine 1 10 rfl) (by decide) (fun h46 => ?_) (fun h46 => ?_)
        · exfalso; omega
        refine go_aload_n (at_of tX3_writeLine 1 11 rfl) rfl ?_
        refine go_bipush (at_of tX3_writeLine 1 12 rfl) (by decide) ?_
        refine go_cV (con_addSign3 hS1 (by omega) (by omega)) lk_X3_60 rfl G_87 (at_of tX3_writeLine 1 13 rfl) rfl (by decide) rfl (Nat.le_of_ble_eq_true rfl) rfl (by first | decide | exact ⟨Nat.zero_le _, Nat.zero_le _⟩) ?_
        refine go_aload_n (at_of tX3_writeLine 1 14 rfl) rfl ?_
        refine go_iload_n (at_of tX3_writeLine 1 15 rfl) rfl ?_
        refine go_iload (at_of tX3_writeLine 2 0 rfl) rfl rfl ?_
        refine go_iconst (at_of tX3_writeLine 2 1 rfl) (by unfold in32; omega) ?_
        refine go_aload_n (at_of tX3_writeLine 2 2 rfl) rfl ?_
        refine go_getr (q := 90) fl_X3_19 rfl G_87 ((hS1 _ _ rfl).trans rfl) (at_of tX3_writeLine 2 3 rfl) ?_
        refine go_iload (at_of tX3_writeLine 2 4 rfl) rfl rfl ?_
        refine go_iald G_90 (by omega) (by omega) (at_of tX3_writeLine 2 5 rfl) ?_
        rw [e6]
        refine go_max (inL 1294 (by decide +kernel) (by decide +kernel)) (at_of tX3_writeLine 2 6 rfl) (Nat.le_of_ble_eq_true rfl) ?_
        refine go_cV (cn) lk_X3_69 rfl G_87 (at_of tX3_writeLine 2 7 rfl) rfl (by decide) rfl (Nat.le_of_ble_eq_true rfl) rfl (by first | decide | exact ⟨Nat.zero_le _, Nat.zero_le _⟩) ?_
        refine go_iinc (at_of tX3_writeLine 2 8 rfl) rfl (by unfold in32; omega) rfl rfl ?_
        refine go_goto (tgt := 31) (at_of tX3_writeLine 2 9 rfl) (by decide) ?_
        exact ih _ _ (putL (putS σ1 46) _) (by rw [putL_2]; exact hS1) (by omega) (by omega) (by omega) (by omega) (fun j j0 j3 => by rw [putL_ne (by omega) (by omega)]; unfold putS; rw [P1_ne (by omega), M1_ne (by omega)]; exact q4 j j0 j3) (by rw [← q5]; unfold kdF; funext w; rw [putL_ne (by omega) (by omega), putL_ne (by omega) (by omega)]; rfl)
      · rw [if_neg hv]
        have cn := con_addNumber (σ := σ1) hS1 (l := R.1 7 e) (v := v) (n := if 1 < ctF R e v then ctF R e v else 1) (by omega) (by omega) (by split <;> omega) (by omega)
        rw [q8] at cn
        have n2 := @putL_n (numC (kdF σ (R.1 7 e) v) (if 1 < ctF R e v then ctF R e v else 1)) σ1
        refine go_iload (at_of tX3_writeLine 1 3 rfl) rfl rfl ?_
        refine go_iload (at_of tX3_writeLine 1 4 rfl) rfl rfl ?_
        refine go_icmp_gt (tgt := 79) (at_of tX3_writeLine 1 5 rfl) (by decide) (fun h35 => ?_) (fun h35 => ?_)
        · exfalso; omega
        refine go_iload (at_of tX3_writeLine 1 6 rfl) rfl rfl ?_
        refine go_iconst (at_of tX3_writeLine 1 7 rfl) (by unfold in32; omega) ?_
        refine go_icmp_ge (tgt := 79) (at_of tX3_writeLine 1 8 rfl) (by decide) (fun h41 => ?_) (fun h41 => ?_)
        · exfalso; omega
        refine go_iload (at_of tX3_writeLine 1 9 rfl) rfl rfl ?_
        refine go_if_le (tgt := 55) (at_of tX3_writeLine 1 10 rfl) (by decide) (fun h46 => ?_) (fun h46 => ?_)
        rotate_left
        · exfalso; omega
        refine go_aload_n (at_of tX3_writeLine 1 14 rfl) rfl ?_
        refine go_iload_n (at_of tX3_writeLine 1 15 rfl) rfl ?_
        refine go_iload (at_of tX3_writeLine 2 0 rfl) rfl rfl ?_
        refine go_iconst (at_of tX3_writeLine 2 1 rfl) (by unfold in32; omega) ?_
        refine go_aload_n (at_of tX3_writeLine 2 2 rfl) rfl ?_
        refine go_getr (q := 90) fl_X3_19 rfl G_87 ((hS1 _ _ rfl).trans rfl) (at_of tX3_writeLine 2 3 rfl) ?_
        refine go_iload (at_of tX3_writeLine 2 4 rfl) rfl rfl ?_
        refine go_iald G_90 (by omega) (by omega) (at_of tX3_writeLine 2 5 rfl) ?_
        rw [q6]
        refine go_max (inL 1294 (by decide +kernel) (by decide +kernel)) (at_of tX3_writeLine 2 6 rfl) (Nat.le_of_ble_eq_true rfl) ?_
        refine go_cV (cn) lk_X3_69 rfl G_87 (at_of tX3_writeLine 2 7 rfl) rfl (by decide) rfl (Nat.le_of_ble_eq_true rfl) rfl (by first | decide | exact ⟨Nat.zero_le _, Nat.zero_le _⟩) ?_
        refine go_iinc (at_of tX3_writeLine 2 8 rfl) rfl (by unfold in32; omega) rfl rfl ?_
        refine go_goto (tgt := 31) (at_of tX3_writeLine 2 9 rfl) (by decide) ?_
        exact ih _ _ (putL σ1 _) (by rw [putL_2]; exact hS1) (by omega) (by omega) (by omega) (by omega) (fun j j0 j3 => by rw [putL_ne (by omega) (by omega)]; exact q4 j j0 j3) (by rw [← q5]; unfold kdF; funext w; rw [putL_ne (by omega) (by omega), putL_ne (by omega) (by omega)])
  have hln := linF_len (kd := kdF σ (R.1 7 e)) (c := ctF R e) (fun j => by have := hcl j; omega) (R.1 8 e + 1).toNat 0
  have hlen := @putL_n (lineC σ R e) (P1 (ctS σ (ctF R e)) 87 4 0)
  rw [P1_eq, Int.zero_add] at hlen
  rw [← hlen]
  refine con_of_go mfX3_writeLine.1 trivial (Nat.le_of_ble_eq_true rfl) rfl (by decide) ?_
  show Go _ _ _ _ 0 [vA _, vA _, vI _, vT 9 0, vT 9 0, vT 9 0] [] _ _
  refine go_aload_n (at_of tX3_writeLine 0 0 rfl) rfl ?_
  refine go_aload_n (at_of tX3_writeLine 0 1 rfl) rfl ?_
  refine go_iload_n (at_of tX3_writeLine 0 2 rfl) rfl ?_
  refine go_cV (con_countTo hS hk hR hE he) lk_X3_48 rfl G_87 (at_of tX3_writeLine 0 3 rfl) rfl (by decide) rfl (Nat.le_of_ble_eq_true rfl) rfl (by first | decide | exact ⟨Nat.zero_le _, Nat.zero_le _⟩) ?_
  refine go_aload_n (at_of tX3_writeLine 0 4 rfl) rfl ?_
  refine go_bipush (at_of tX3_writeLine 0 5 rfl) (by decide) ?_
  refine go_iload_n (at_of tX3_writeLine 0 6 rfl) rfl ?_
  refine go_cV (r_fact (by exact hS) hk (hR.frm ctS_frm (by omega)) (by omega) (by omega)) lk_X3_44 rfl g2 (at_of tX3_writeLine 0 7 rfl) rfl (by decide) rfl (Nat.le_of_ble_eq_true rfl) rfl (by first | decide | exact ⟨Nat.zero_le _, Nat.zero_le _⟩) ?_
  refine go_istore_n (at_of tX3_writeLine 0 8 rfl) rfl rfl ?_
  refine go_aload_n (at_of tX3_writeLine 0 9 rfl) rfl ?_
  refine go_bipush (at_of tX3_writeLine 0 10 rfl) (by decide) ?_
  refine go_iload_n (at_of tX3_writeLine 0 11 rfl) rfl ?_
  refine go_cV (r_fact (by exact hS) hk (hR.frm ctS_frm (by omega)) (by omega) (by omega)) lk_X3_44 rfl g2 (at_of tX3_writeLine 0 12 rfl) rfl (by decide) rfl (Nat.le_of_ble_eq_true rfl) rfl (by first | decide | exact ⟨Nat.zero_le _, Nat.zero_le _⟩) ?_
  refine go_istore (at_of tX3_writeLine 0 13 rfl) rfl rfl ?_
  refine go_aload_n (at_of tX3_writeLine 0 14 rfl) rfl ?_
  refine go_iconst (at_of tX3_writeLine 0 15 rfl) (by unfold in32; omega) ?_
  refine go_put1 fp_X3_26 rfl (Or.inl rfl) G_87 (Or.inl rfl) (at_of tX3_writeLine 1 0 rfl) ?_
  refine go_iconst (at_of tX3_writeLine 1 1 rfl) (by unfold in32; omega) ?_
  refine go_istore (at_of tX3_writeLine 1 2 rfl) rfl rfl ?_
  exact key (R.1 8 e + 1).toNat _ 0 _ hS (by omega) (by omega) (by rw [P1_eq]; omega) (by rw [P1_eq]; omega) (fun j j0 j3 => by rw [P1_ne (by omega)]; exact ctS_at ⟨j0, j3⟩) (by unfold kdF; funext w; rw [P1_ne (by omega), P1_ne (by omega), ctS_ne (by omega), ctS_ne (by omega)])
theorem con_swapKind (hS : Str σ.2.1) {l v z : Int} (hl : 0 ≤ l ∧ l < 3) (hv : 0 ≤ v ∧ v < 3) : Con 1 mX3_swapKind 0 0 [vA 87, vI l, vI v, vI z] σ (vI (σ.1 88 (l * 3 + v).toNat % 65536), M1 σ 88 (l * 3 + v) z) := by
  refine con_of_go mfX3_swapKind.1 ⟨by omega, by omega⟩ (Nat.le_of_ble_eq_true rfl) rfl (by decide) ?_
  show Go _ _ _ _ 0 [vA _, vI _, vI _, vI _, vT 9 0] [] _ _
  refine go_aload_n (at_of tX3_swapKind 0 0 rfl) rfl ?_
  refine go_getr (q := 88) fl_X3_9 rfl G_87 ((hS _ _ rfl).trans rfl) (at_of tX3_swapKind 0 1 rfl) ?_
  refine go_iload_n (at_of tX3_swapKind 0 2 rfl) rfl ?_
  refine go_iconst (at_of tX3_swapKind 0 3 rfl) (by unfold in32; omega) ?_
  refine go_imul (at_of tX3_swapKind 0 4 rfl) (by unfold in32; omega) ?_
  refine go_iload_n (at_of tX3_swapKind 0 5 rfl) rfl ?_
  refine go_iadd (at_of tX3_swapKind 0 6 rfl) (by unfold in32; omega) ?_
  refine go_cN (con_cell G_88 (by omega) (by omega)) lk_X3_30 rfl (at_of tX3_swapKind 0 7 rfl) rfl (by decide) rfl (Nat.le_of_ble_eq_true rfl) rfl (by first | decide | exact ⟨Nat.zero_le _, Nat.zero_le _⟩) ?_
  refine go_i2c (at_of tX3_swapKind 0 8 rfl) ?_
  refine go_istore (at_of tX3_swapKind 0 9 rfl) rfl rfl ?_
  refine go_aload_n (at_of tX3_swapKind 0 10 rfl) rfl ?_
  refine go_getr (q := 88) fl_X3_9 rfl G_87 ((hS _ _ rfl).trans rfl) (at_of tX3_swapKind 0 11 rfl) ?_
  refine go_iload_n (at_of tX3_swapKind 0 12 rfl) rfl ?_
  refine go_iconst (at_of tX3_swapKind 0 13 rfl) (by unfold in32; omega) ?_
  refine go_imul (at_of tX3_swapKind 0 14 rfl) (by unfold in32; omega) ?_
  refine go_iload_n (at_of tX3_swapKind 0 15 rfl) rfl ?_
  refine go_iadd (at_of tX3_swapKind 1 0 rfl) (by unfold in32; omega) ?_
  refine go_iload_n (at_of tX3_swapKind 1 1 rfl) rfl ?_
  refine go_cN (con_setCell G_88 (by omega) (by omega)) lk_X3_34 rfl (at_of tX3_swapKind 1 2 rfl) rfl (by decide) rfl (Nat.le_of_ble_eq_true rfl) rfl (by first | decide | exact ⟨Nat.zero_le _, Nat.zero_le _⟩) ?_
  refine go_iload (at_of tX3_swapKind 1 3 rfl) rfl rfl ?_
  first | exact go_reti (at_of tX3_swapKind 1 4 rfl) rfl | exact go_reti (at_of tX3_swapKind 1 4 rfl) (le_i (by omega)) | exact go_reti (at_of tX3_swapKind 1 4 rfl) (le_i (by first | exact bI_t (by omega) | exact bI_f (by omega)))
theorem con_swapLegal (hS : Str σ.2.1) {l z : Int} (hl : 0 ≤ l ∧ l < 3) (hz : z = 0 ∨ z = 1) (h01 : σ.1 89 l.toNat = 0 ∨ σ.1 89 l.toNat = 1) : Con 1 mX3_swapLegal 0 0 [vA 87, vI l, vI z] σ (vI (σ.1 89 l.toNat), M1 σ 89 l z) := by
  refine con_of_go mfX3_swapLegal.1 h01 (Nat.le_of_ble_eq_true rfl) rfl (by decide) ?_
  show Go _ _ _ _ 0 [vA _, vI _, vI _, vT 9 0] [] _ _
  refine go_iload_n (at_of tX3_swapLegal 0 0 rfl) rfl ?_
  refine go_iconst (at_of tX3_swapLegal 0 1 rfl) (by unfold in32; omega) ?_
  refine go_cN (con_isWithin) lk_X3_38 rfl (at_of tX3_swapLegal 0 2 rfl) rfl (by decide) rfl (Nat.le_of_ble_eq_true rfl) rfl (by first | decide | exact ⟨Nat.zero_le _, Nat.zero_le _⟩) ?_
  refine go_if_ne (tgt := 10) (at_of tX3_swapLegal 0 3 rfl) (by decide) (fun h5 => ?_) (fun h5 => ?_)
  rotate_left
  · exfalso; exact absurd h5 (by rw [bI_t (by omega)]; decide)
  refine go_aload_n (at_of tX3_swapLegal 0 6 rfl) rfl ?_
  refine go_getr (q := 89) fl_X3_15 rfl G_87 ((hS _ _ rfl).trans rfl) (at_of tX3_swapLegal 0 7 rfl) ?_
  refine go_iload_n (at_of tX3_swapLegal 0 8 rfl) rfl ?_
  refine go_bald G_89 (by omega) (by omega) (at_of tX3_swapLegal 0 9 rfl) ?_
  refine go_istore_n (at_of tX3_swapLegal 0 10 rfl) rfl rfl ?_
  refine go_aload_n (at_of tX3_swapLegal 0 11 rfl) rfl ?_
  refine go_getr (q := 89) fl_X3_15 rfl G_87 ((hS _ _ rfl).trans rfl) (at_of tX3_swapLegal 0 12 rfl) ?_
  refine go_iload_n (at_of tX3_swapLegal 0 13 rfl) rfl ?_
  refine go_iload_n (at_of tX3_swapLegal 0 14 rfl) rfl ?_
  refine go_bast1 G_89 (by omega) (by omega) (by omega) (at_of tX3_swapLegal 0 15 rfl) ?_
  refine go_iload_n (at_of tX3_swapLegal 1 0 rfl) rfl ?_
  first | exact go_reti (at_of tX3_swapLegal 1 1 rfl) rfl | exact go_reti (at_of tX3_swapLegal 1 1 rfl) (le_i (by omega)) | exact go_reti (at_of tX3_swapLegal 1 1 rfl) (le_i (by first | exact bI_t (by omega) | exact bI_f (by omega)))
theorem con_lineLength (hS : Str σ.2.1) : Con 0 mX3_lineLength 0 0 [vA 87] σ (vI (σ.1 87 4), σ) := by
  refine con_of_go mfX3_lineLength.1 trivial (Nat.le_of_ble_eq_true rfl) rfl (by decide) ?_
  show Go _ _ _ _ 0 [vA _] [] _ _
  refine go_aload_n (at_of tX3_lineLength 0 0 rfl) rfl ?_
  refine go_getf fl_X3_26 rfl G_87 (at_of tX3_lineLength 0 1 rfl) ?_
  first | exact go_reti (at_of tX3_lineLength 0 2 rfl) rfl | exact go_reti (at_of tX3_lineLength 0 2 rfl) (le_i (by omega)) | exact go_reti (at_of tX3_lineLength 0 2 rfl) (le_i (by first | exact bI_t (by omega) | exact bI_f (by omega)))
theorem con_lineSign (hS : Str σ.2.1) {i : Int} (hi : 0 ≤ i ∧ i < 128) (hc : 0 ≤ σ.1 91 i.toNat ∧ σ.1 91 i.toNat < 65536) : Con 1 mX3_lineSign 0 0 [vA 87, vI i] σ (vI (σ.1 91 i.toNat), σ) := by
  refine con_of_go mfX3_lineSign.1 hc (Nat.le_of_ble_eq_true rfl) rfl (by decide) ?_
  show Go _ _ _ _ 0 [vA _, vI _] [] _ _
  refine go_iload_n (at_of tX3_lineSign 0 0 rfl) rfl ?_
  refine go_sipush (at_of tX3_lineSign 0 1 rfl) (by decide) ?_
  refine go_cN (con_isWithin) lk_X3_38 rfl (at_of tX3_lineSign 0 2 rfl) rfl (by decide) rfl (Nat.le_of_ble_eq_true rfl) rfl (by first | decide | exact ⟨Nat.zero_le _, Nat.zero_le _⟩) ?_
  refine go_if_eq (tgt := 19) (at_of tX3_lineSign 0 3 rfl) (by decide) (fun h7 => ?_) (fun h7 => ?_)
  · exfalso; exact bI_0.mp h7 (by omega)
  refine go_aload_n (at_of tX3_lineSign 0 4 rfl) rfl ?_
  refine go_getr (q := 91) fl_X3_22 rfl G_87 ((hS _ _ rfl).trans rfl) (at_of tX3_lineSign 0 5 rfl) ?_
  refine go_iload_n (at_of tX3_lineSign 0 6 rfl) rfl ?_
  refine go_cald G_91 (by omega) (by omega) (at_of tX3_lineSign 0 7 rfl) ?_
  refine go_goto (tgt := 21) (at_of tX3_lineSign 0 8 rfl) (by decide) ?_
  first | exact go_reti (at_of tX3_lineSign 0 10 rfl) rfl | exact go_reti (at_of tX3_lineSign 0 10 rfl) (le_i (by omega)) | exact go_reti (at_of tX3_lineSign 0 10 rfl) (le_i (by first | exact bI_t (by omega) | exact bI_f (by omega)))
end Line
