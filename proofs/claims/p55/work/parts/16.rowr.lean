section RowR
variable {σ : St} {k : Nat} {R : RowD}
theorem RepR.congr {R' : RowD} (h : RepR σ k R) (hn : R'.2.1 = R.2.1) (hf : ∀ w i, 0 ≤ w → w ≤ 10 → 0 ≤ i → i ≤ R.2.1 → R'.1 w i = R.1 w i) (hb : ∀ b, 0 ≤ b → b < 6 → R'.2.2.1 b = R.2.2.1 b ∧ R'.2.2.2 b = R.2.2.2 b) : RepR σ k R' := by
  obtain ⟨h1, h2, h3, h4, h5, h6⟩ := h
  refine ⟨h1.trans hn.symm, fun w i a b c d => ?_, fun b h0 h6' => ?_, by rw [hn]; exact h4, by rw [hn]; exact h5, fun b h0 h6' => ?_⟩
  · rw [hn] at d; rw [h2 w i a b c d, hf w i a b c d]
  · rw [(hb b h0 h6').1, (hb b h0 h6').2]; exact h3 b h0 h6'
  · rw [(hb b h0 h6').1, (hb b h0 h6').2, hn]; exact h6 b h0 h6'
theorem RepR.frm {σ' : St} (h : RepR σ k R) {lo hi : Nat} (hF : Frm σ σ' lo hi) (hd : 7 + 10 * k < lo ∨ hi < 4 + 10 * k) : RepR σ' k R := by
  obtain ⟨h1, h2, h3, h4⟩ := h
  refine ⟨(hF.2 _ (by omega) _).trans h1, fun w i a b c d => (hF.2 _ (by omega) _).trans (h2 w i a b c d), fun b h0 h6 => ⟨(hF.2 _ (by omega) _).trans (h3 b h0 h6).1, (hF.2 _ (by omega) _).trans (h3 b h0 h6).2⟩, h4⟩
/-- a fact set -/
def setR (R : RowD) (w i z : Int) : RowD := (fun w' j => if w' = w ∧ j = i then z else R.1 w' j, R.2)
theorem fA_set {f : Nat} {w i z w' j : Int} (h1 : 0 ≤ w ∧ w ≤ 10) (h2 : 0 ≤ i ∧ i ≤ 200) (h3 : 0 ≤ w' ∧ w' ≤ 10) (h4 : 0 ≤ j ∧ j ≤ 200) : fA (M1 σ f (w * 201 + i) z) f w' j = if w' = w ∧ j = i then z else fA σ f w' j := by
  unfold fA
  by_cases h : w' = w ∧ j = i
  · obtain ⟨rfl, rfl⟩ := h
    rw [if_pos ⟨rfl, rfl⟩, M1_eq rfl]
  · rw [if_neg h, M1_nj (by omega)]
theorem rep_set (h : RepR σ k R) {w i z : Int} (hw : 0 ≤ w ∧ w ≤ 10) (hi : 0 ≤ i ∧ i ≤ R.2.1) : RepR (M1 σ (5 + 10 * k) (w * 201 + i) z) k (setR R w i z) := by
  obtain ⟨h1, h2, h3, h4, h5, h6⟩ := h
  refine ⟨(M1_ne (by omega)).trans h1, fun w' j a b c d => ?_, fun b h0 h6 => ⟨(M1_ne (by omega)).trans (h3 b h0 h6).1, (M1_ne (by omega)).trans (h3 b h0 h6).2⟩, h4, h5, h6⟩
  have d : j ≤ R.2.1 := d
  rw [fA_set hw (by omega) ⟨a, b⟩ (by omega), h2 w' j a b c d]
  rfl
theorem M1_frm {a lo hi : Nat} {j z : Int} (h : lo ≤ a ∧ a ≤ hi) : Frm σ (M1 σ a j z) lo hi := ⟨rfl, fun a' h' j' => M1_ne (by omega)⟩
theorem P1_frm {a lo hi j : Nat} {z : Int} (h : lo ≤ a ∧ a ≤ hi) : Frm σ (P1 σ a j z) lo hi := ⟨rfl, fun a' h' j' => P1_ne (by omega)⟩
theorem C1_frm {a a0 lo hi : Nat} {sp dp n : Int} (h : lo ≤ a ∧ a ≤ hi) : Frm σ (C1 σ a0 sp a dp n) lo hi := ⟨rfl, fun a' h' j' => C1_ne (by omega)⟩
/-- room made at i -/
def rmR (R : RowD) (i : Int) : RowD := (fun w j => if j ≤ i then R.1 w j else R.1 w (j - 1), R.2.1 + 1, fun b => if i ≤ R.2.2.1 b then R.2.2.1 b + 1 else R.2.2.1 b, fun b => if i ≤ R.2.2.2 b then R.2.2.2 b + 1 else R.2.2.2 b)
/-- the unit at i dropped -/
def drpR (R : RowD) (i : Int) : RowD := (fun w j => if j < i then R.1 w j else R.1 w (j + 1), R.2.1 - 1, fun b => if i < R.2.2.1 b then R.2.2.1 b - 1 else R.2.2.1 b, fun b => if i < R.2.2.2 b then R.2.2.2 b - 1 else R.2.2.2 b)
theorem rep_rm (h : RepR σ k R) {i : Int} (hi : 0 ≤ i ∧ i ≤ R.2.1) (hn : R.2.1 < 200) : RepR (rmS σ k i) k (rmR R i) := by
  obtain ⟨h1, h2, h3, h4, h5, h6⟩ := h
  unfold rmS
  refine ⟨?_, fun w j a b c d => ?_, fun b h0 h6 => ?_, ?_, ?_, fun b h0 h6' => ?_⟩
  · rw [bmU_ne (by omega) (by omega), P1_eq, h1]; rfl
  · have d : j ≤ R.2.1 + 1 := d
    unfold fA
    rw [bmU_ne (by omega) (by omega), P1_ne (by omega)]
    unfold shU
    dsimp only [rmR]
    rw [h1]
    by_cases hj : j ≤ i
    · rw [if_neg (by omega), if_pos hj]; exact h2 w j a b c (by omega)
    · rw [if_pos ⟨rfl, by omega, by omega, by omega⟩, if_neg hj, ← h2 w (j - 1) a b (by omega) (by omega)]
      unfold fA
      exact congrArg _ (by omega)
  · unfold bmU
    dsimp only [rmR]
    rw [P1_ne (by omega), P1_ne (by omega), shU_ne (by omega), shU_ne (by omega), (h3 b h0 h6).1, (h3 b h0 h6).2]
    constructor
    · by_cases hg : i ≤ R.2.2.1 b
      · rw [if_pos ⟨Or.inl rfl, by omega, hg⟩, if_pos hg]
      · rw [if_neg (fun q => hg q.2.2), if_neg hg]
    · by_cases hg : i ≤ R.2.2.2 b
      · rw [if_pos ⟨Or.inr rfl, by omega, hg⟩, if_pos hg]
      · rw [if_neg (fun q => hg q.2.2), if_neg hg]
  · show 0 ≤ R.2.1 + 1; omega
  · show R.2.1 + 1 ≤ 200; omega
  · have q := h6 b h0 h6'
    dsimp only [rmR]
    split <;> split <;> omega
theorem rm_frm {i : Int} : Frm σ (rmS σ k i) (4 + 10 * k) (7 + 10 * k) := ⟨rfl, fun a h j => by unfold rmS; rw [bmU_ne (by omega) (by omega), P1_ne (by omega), shU_ne (by omega)]⟩
theorem rep_dr (h : RepR σ k R) {i : Int} (hi : 0 ≤ i ∧ i < R.2.1) : RepR (drS σ k i) k (drpR R i) := by
  obtain ⟨h1, h2, h3, h4, h5, h6⟩ := h
  unfold drS
  refine ⟨?_, fun w j a b c d => ?_, fun b h0 h6 => ?_, ?_, ?_, fun b h0 h6' => ?_⟩
  · rw [bmD_ne (by omega) (by omega), P1_eq, h1]; rfl
  · have d : j ≤ R.2.1 - 1 := d
    unfold fA
    rw [bmD_ne (by omega) (by omega), P1_ne (by omega)]
    unfold shD
    dsimp only [drpR]
    rw [h1]
    by_cases hj : j < i
    · rw [if_neg (by omega), if_pos hj]; exact h2 w j a b c (by omega)
    · rw [if_pos ⟨rfl, by omega, by omega, by omega⟩, if_neg hj, ← h2 w (j + 1) a b (by omega) (by omega)]
      unfold fA
      exact congrArg _ (by omega)
  · unfold bmD
    dsimp only [drpR]
    rw [P1_ne (by omega), P1_ne (by omega), shD_ne (by omega), shD_ne (by omega), (h3 b h0 h6).1, (h3 b h0 h6).2]
    constructor
    · by_cases hg : i < R.2.2.1 b
      · rw [if_pos ⟨Or.inl rfl, by omega, hg⟩, if_pos hg]
      · rw [if_neg (fun q => hg q.2.2), if_neg hg]
    · by_cases hg : i < R.2.2.2 b
      · rw [if_pos ⟨Or.inr rfl, by omega, hg⟩, if_pos hg]
      · rw [if_neg (fun q => hg q.2.2), if_neg hg]
  · show 0 ≤ R.2.1 - 1; omega
  · show R.2.1 - 1 ≤ 200; omega
  · have q := h6 b h0 h6'
    dsimp only [drpR]
    split <;> split <;> omega
theorem dr_frm {i : Int} : Frm σ (drS σ k i) (4 + 10 * k) (7 + 10 * k) := ⟨rfl, fun a h j => by unfold drS; rw [bmD_ne (by omega) (by omega), P1_ne (by omega), shD_ne (by omega)]⟩
theorem RepR.bm (h : RepR σ k R) : ∀ b : Int, 0 ≤ b → b < 6 → -1 ≤ σ.1 (6 + 10 * k) b.toNat ∧ σ.1 (6 + 10 * k) b.toNat ≤ 200 ∧ -1 ≤ σ.1 (7 + 10 * k) b.toNat ∧ σ.1 (7 + 10 * k) b.toNat ≤ 200 := by
  intro b h0 h6
  obtain ⟨h1, h2, h3, h4, h5, h7⟩ := h
  have q := h7 b h0 h6
  rw [(h3 b h0 h6).1, (h3 b h0 h6).2]
  omega
theorem con_drop (hS : Str σ.2.1) (hk : k < 8) (hR : RepR σ k R) {i : Int} (hi : 0 ≤ i ∧ i < R.2.1) : Con 0 mX7_drop 0 0 [vA (4 + 10 * k), vI i] σ (vT 8 0, drS σ k i) := by
  have hn := hR.1
  obtain ⟨hw1, hw2, hw3⟩ := hR.2.2.2
  exact con_drop0 hS hk (by omega) (by omega) hR.bm
/-- a unit put at i -/
def putR (R : RowD) (i l fd c : Int) : RowD := (fun w j => if j < i then R.1 w j else if j = i then (if w = 0 then l else if w = 1 then fd else if w = 2 then c else if w = 3 then -1 else if w = 4 then -1 else if w = 6 then 0 else if w = 9 then 0 else R.1 w (endFr R.1 R.2.1 i)) else R.1 w (j - 1), (rmR R i).2)
theorem RowW.rm (hW : RowW R) {i : Int} (hi : 0 ≤ i ∧ i ≤ R.2.1) (hn : R.2.1 < 200) : RowW (rmR R i) := by
  obtain ⟨h4, h5, h6⟩ := hW
  refine ⟨by show 0 ≤ R.2.1 + 1; omega, by show R.2.1 + 1 ≤ 200; omega, fun b h0 h6' => ?_⟩
  have q := h6 b h0 h6'
  dsimp only [rmR]
  split <;> split <;> omega
theorem fstF_congr {p q : Int → Bool} {z : Int} : ∀ (n : Nat) (i : Int), (∀ j, i ≤ j → j < i + n → p j = q j) → fstF p z n i = fstF q z n i := by
  intro n
  induction n with
  | zero => intro i _; rfl
  | succ n ih =>
    intro i h
    rw [fstF, fstF, h i (by omega) (by omega), ih (i + 1) (fun j a b => h j (by omega) (by omega))]
theorem cntF_congr {p q : Int → Bool} : ∀ (n : Nat) (i : Int), (∀ j, i ≤ j → j < i + n → p j = q j) → cntF p n i = cntF q n i := by
  intro n
  induction n with
  | zero => intro i _; rfl
  | succ n ih =>
    intro i h
    rw [cntF, cntF, h i (by omega) (by omega), ih (i + 1) (fun j a b => h j (by omega) (by omega))]
theorem scan_congr {p q : Int → Bool} : ∀ (n : Nat) (i k : Int), (∀ j, i ≤ j → j < i + n → p j = q j) → scan p n i k = scan q n i k := by
  intro n
  induction n with
  | zero => intro i k _; rfl
  | succ n ih =>
    intro i k h
    rw [scan, scan, h i (by omega) (by omega), ih (i + 1) k (fun j a b => h j (by omega) (by omega)), ih (i + 1) (k - 1) (fun j a b => h j (by omega) (by omega))]
theorem anyF_congr {p q : Int → Bool} : ∀ (n : Nat) (i : Int), (∀ j, i ≤ j → j < i + n → p j = q j) → anyF p n i = anyF q n i := by
  intro n
  induction n with
  | zero => intro i _; rfl
  | succ n ih =>
    intro i h
    rw [anyF, anyF, h i (by omega) (by omega), ih (i + 1) (fun j a b => h j (by omega) (by omega))]
/-- two facts' functions that agree on a row -/
def EqF (F F' : Int → Int → Int) (n : Int) : Prop := ∀ w i, 0 ≤ w → w ≤ 4 → 0 ≤ i → i ≤ n → F w i = F' w i
theorem EqF.seen {F F' : Int → Int → Int} {n : Int} (h : EqF F F' n) (i : Int) : seenB F n i = seenB F' n i := by
  unfold seenB
  by_cases q : 0 ≤ i ∧ i ≤ n
  · rw [h 3 i (by omega) (by omega) q.1 q.2]
  · rw [decide_eq_false (fun x => q ⟨x.1, x.2.1⟩), decide_eq_false (fun x => q ⟨x.1, x.2.1⟩)]
theorem EqF.old {F F' : Int → Int → Int} {n : Int} (h : EqF F F' n) (i : Int) : oldB F n i = oldB F' n i := by
  unfold oldB
  by_cases q : 0 ≤ i ∧ i < n
  · rw [h 2 i (by omega) (by omega) q.1 (by omega)]
  · rw [decide_eq_false (fun x => q ⟨x.1, x.2.1⟩), decide_eq_false (fun x => q ⟨x.1, x.2.1⟩)]
theorem EqF.send {F F' : Int → Int → Int} {n : Int} (h : EqF F F' n) (i : Int) : sendB F n i = sendB F' n i := by
  unfold sendB
  by_cases q : 0 ≤ i ∧ i ≤ n
  · rw [h 3 i (by omega) (by omega) q.1 q.2, h 0 i (by omega) (by omega) q.1 q.2]
  · rw [decide_eq_false (fun x => q ⟨x.1, x.2.1⟩), decide_eq_false (fun x => q ⟨x.1, x.2.1⟩)]
theorem EqF.ixOf {F F' : Int → Int → Int} {n : Int} (h : EqF F F' n) (i : Int) : ixOf F n i = ixOf F' n i := scan_congr _ _ _ (fun j _ _ => h.seen j)
theorem EqF.ixOld {F F' : Int → Int → Int} {n : Int} (h : EqF F F' n) (i : Int) : ixOld F n i = ixOld F' n i := scan_congr _ _ _ (fun j _ _ => h.old j)
theorem EqF.plOf {F F' : Int → Int → Int} {n : Int} (h : EqF F F' n) (i : Int) : plOf F n i = plOf F' n i := cntF_congr _ _ (fun j _ _ => by unfold leftB; rw [h 3 j (by omega) (by omega) (by omega) (by omega)])
theorem EqF.endsA {F F' : Int → Int → Int} {n : Int} (h : EqF F F' n) (i : Int) : endsA F n i = endsA F' n i := cntF_congr _ _ (fun j _ _ => h.send j)
theorem EqF.oldN {F F' : Int → Int → Int} {n : Int} (h : EqF F F' n) : oldN F n = oldN F' n := cntF_congr _ _ (fun j _ _ => h.old j)
theorem EqF.waitN {F F' : Int → Int → Int} {n : Int} (h : EqF F F' n) : waitN F n = waitN F' n := cntF_congr _ _ (fun j _ _ => by unfold waitB; rw [h 3 j (by omega) (by omega) (by omega) (by omega), h 2 j (by omega) (by omega) (by omega) (by omega)])
theorem EqF.concN {F F' : Int → Int → Int} {n : Int} (h : EqF F F' n) (c : Int) : concN F n c = concN F' n c := cntF_congr _ _ (fun j _ _ => by unfold concB; rw [h 3 j (by omega) (by omega) (by omega) (by omega), h 2 j (by omega) (by omega) (by omega) (by omega), h 4 j (by omega) (by omega) (by omega) (by omega)])
theorem EqF.endFr {F F' : Int → Int → Int} {n : Int} (h : EqF F F' n) (i : Int) : endFr F n i = endFr F' n i := fstF_congr _ _ (fun j _ _ => h.send j)
theorem RepR.eqF (h : RepR σ k R) : EqF (fA σ (5 + 10 * k)) R.1 R.2.1 := fun w i a b c d => h.2.1 w i a (by omega) c d
theorem endFr_le {F : Int → Int → Int} {n i : Int} (hi : 0 ≤ i ∧ i ≤ n) : i ≤ endFr F n i ∧ endFr F n i ≤ n := by
  unfold endFr
  rcases fstF_le (sendB F n) n (n - i).toNat i with h | h <;> omega
/-- a fact taken from the end -/
def cpF (σ : St) (k : Nat) (w i e : Int) : St := M1 σ (5 + 10 * k) (w * 201 + i) (fA σ (5 + 10 * k) w (e + 1))
theorem rep_cp (h : RepR σ k R) {w i e : Int} (hw : 0 ≤ w ∧ w ≤ 10) (hi : 0 ≤ i ∧ i ≤ R.2.1) (he : 0 ≤ e + 1 ∧ e + 1 ≤ R.2.1) : RepR (cpF σ k w i e) k (setR R w i (R.1 w (e + 1))) := by
  rw [← h.2.1 w (e + 1) hw.1 hw.2 he.1 he.2]
  exact rep_set h hw hi
def pS7 (σ : St) (k : Nat) (i l fd c : Int) : St := M1 (M1 (M1 (M1 (M1 (M1 (M1 (rmS σ k i) (5 + 10 * k) (0 * 201 + i) l) (5 + 10 * k) (1 * 201 + i) fd) (5 + 10 * k) (2 * 201 + i) c) (5 + 10 * k) (3 * 201 + i) (-1)) (5 + 10 * k) (4 * 201 + i) (-1)) (5 + 10 * k) (6 * 201 + i) 0) (5 + 10 * k) (9 * 201 + i) 0
def pS (σ : St) (k : Nat) (i l fd c : Int) : St := cpF (cpF (cpF (cpF (pS7 σ k i l fd c) k 5 i (endFr (fA σ (5 + 10 * k)) (σ.1 (4 + 10 * k) 3) i)) k 7 i (endFr (fA σ (5 + 10 * k)) (σ.1 (4 + 10 * k) 3) i)) k 8 i (endFr (fA σ (5 + 10 * k)) (σ.1 (4 + 10 * k) 3) i)) k 10 i (endFr (fA σ (5 + 10 * k)) (σ.1 (4 + 10 * k) 3) i)
theorem con_putUnit (hS : Str σ.2.1) (hk : k < 8) (hR : RepR σ k R) {i l fd c : Int} (hi : 0 ≤ i ∧ i ≤ R.2.1) (hlt : R.2.1 < 200) : Con 3 mX7_putUnit 0 0 [vA (4 + 10 * k), vI i, vI l, vI fd, vI c] σ (vT 8 0, pS σ k i l fd c) ∧ RepR (pS σ k i l fd c) k (putR R i l fd c) ∧ Frm σ (pS σ k i l fd c) (4 + 10 * k) (7 + 10 * k) := by
  obtain ⟨g1, g2, g3, g4, g5, g6, g7, g8, g9, g10⟩ := gamk k hk
  obtain ⟨p1, p2, p3, p4, p5, p6, p7, p8, p9⟩ := strk hS k hk
  have hn := hR.1
  obtain ⟨hw1, hw2, hw3⟩ := hR.2.2.2
  have he := @endFr_le (fA σ (5 + 10 * k)) (σ.1 (4 + 10 * k) 3) i (by omega)
  refine ⟨?_, ?_⟩
  · skip
    refine con_of_go mfX7_putUnit.1 trivial (Nat.le_of_ble_eq_true rfl) rfl (by decide) ?_
    show Go _ _ _ _ 0 [vA _, vI _, vI _, vI _, vI _, vT 9 0] [] _ _
    refine go_aload_n (at_of tX7_putUnit 0 0 rfl) rfl ?_
    refine go_getf fl_X7_21 rfl (by first | rfl | assumption) (at_of tX7_putUnit 0 1 rfl) ?_
    refine go_sipush (at_of tX7_putUnit 0 2 rfl) (by decide) ?_
    refine go_icmp_ge (tgt := 22) (at_of tX7_putUnit 0 3 rfl) (by decide) (fun h7 => ?_) (fun h7 => ?_)
    · exfalso; omega
    refine go_iload_n (at_of tX7_putUnit 0 4 rfl) rfl ?_
    refine go_if_lt (tgt := 22) (at_of tX7_putUnit 0 5 rfl) (by decide) (fun h11 => ?_) (fun h11 => ?_)
    · exfalso; omega
    refine go_iload_n (at_of tX7_putUnit 0 6 rfl) rfl ?_
    refine go_aload_n (at_of tX7_putUnit 0 7 rfl) rfl ?_
    refine go_getf fl_X7_21 rfl (by first | rfl | assumption) (at_of tX7_putUnit 0 8 rfl) ?_
    refine go_icmp_le (tgt := 23) (at_of tX7_putUnit 0 9 rfl) (by decide) (fun h19 => ?_) (fun h19 => ?_)
    rotate_left
    · exfalso; omega
    refine go_aload_n (at_of tX7_putUnit 0 11 rfl) rfl ?_
    refine go_iload_n (at_of tX7_putUnit 0 12 rfl) rfl ?_
    refine go_cV (con_endFrom (rowP hS hk) hR.u (by omega)) lk_X7_55 rfl (by first | rfl | assumption) (at_of tX7_putUnit 0 13 rfl) rfl (by decide) rfl (Nat.le_of_ble_eq_true rfl) rfl (by first | decide | exact ⟨Nat.zero_le _, Nat.zero_le _⟩) ?_
    refine go_iconst (at_of tX7_putUnit 0 14 rfl) (by unfold in32; omega) ?_
    refine go_iadd (at_of tX7_putUnit 0 15 rfl) (by unfold in32; omega) ?_
    refine go_istore (at_of tX7_putUnit 1 0 rfl) rfl rfl ?_
    refine go_aload_n (at_of tX7_putUnit 1 1 rfl) rfl ?_
    refine go_iload_n (at_of tX7_putUnit 1 2 rfl) rfl ?_
    refine go_cV (con_makeRoom hS hk (by omega) (by omega) hR.bm) lk_X7_58 rfl (by first | rfl | assumption) (at_of tX7_putUnit 1 3 rfl) rfl (by decide) rfl (Nat.le_of_ble_eq_true rfl) rfl (by first | decide | exact ⟨Nat.zero_le _, Nat.zero_le _⟩) ?_
    refine go_aload_n (at_of tX7_putUnit 1 4 rfl) rfl ?_
    refine go_iconst (at_of tX7_putUnit 1 5 rfl) (by unfold in32; omega) ?_
    refine go_iload_n (at_of tX7_putUnit 1 6 rfl) rfl ?_
    refine go_iload_n (at_of tX7_putUnit 1 7 rfl) rfl ?_
    refine go_cV (con_setFact (rowP (by exact hS) hk) (by omega) (by omega)) lk_X7_62 rfl (by first | rfl | assumption) (at_of tX7_putUnit 1 8 rfl) rfl (by decide) rfl (Nat.le_of_ble_eq_true rfl) rfl (by first | decide | exact ⟨Nat.zero_le _, Nat.zero_le _⟩) ?_
    refine go_aload_n (at_of tX7_putUnit 1 9 rfl) rfl ?_
    refine go_iconst (at_of tX7_putUnit 1 10 rfl) (by unfold in32; omega) ?_
    refine go_iload_n (at_of tX7_putUnit 1 11 rfl) rfl ?_
    refine go_iload_n (at_of tX7_putUnit 1 12 rfl) rfl ?_
    refine go_cV (con_setFact (rowP (by exact hS) hk) (by omega) (by omega)) lk_X7_62 rfl (by first | rfl | assumption) (at_of tX7_putUnit 1 13 rfl) rfl (by decide) rfl (Nat.le_of_ble_eq_true rfl) rfl (by first | decide | exact ⟨Nat.zero_le _, Nat.zero_le _⟩) ?_
    refine go_aload_n (at_of tX7_putUnit 1 14 rfl) rfl ?_
    refine go_iconst (at_of tX7_putUnit 1 15 rfl) (by unfold in32; omega) ?_
    refine go_iload_n (at_of tX7_putUnit 2 0 rfl) rfl ?_
    refine go_iload (at_of tX7_putUnit 2 1 rfl) rfl rfl ?_
    refine go_cV (con_setFact (rowP (by exact hS) hk) (by omega) (by omega)) lk_X7_62 rfl (by first | rfl | assumption) (at_of tX7_putUnit 2 2 rfl) rfl (by decide) rfl (Nat.le_of_ble_eq_true rfl) rfl (by first | decide | exact ⟨Nat.zero_le _, Nat.zero_le _⟩) ?_
    refine go_aload_n (at_of tX7_putUnit 2 3 rfl) rfl ?_
    refine go_iconst (at_of tX7_putUnit 2 4 rfl) (by unfold in32; omega) ?_
    refine go_iload_n (at_of tX7_putUnit 2 5 rfl) rfl ?_
    refine go_iconst (at_of tX7_putUnit 2 6 rfl) (by unfold in32; omega) ?_
    refine go_cV (con_setFact (rowP (by exact hS) hk) (by omega) (by omega)) lk_X7_62 rfl (by first | rfl | assumption) (at_of tX7_putUnit 2 7 rfl) rfl (by decide) rfl (Nat.le_of_ble_eq_true rfl) rfl (by first | decide | exact ⟨Nat.zero_le _, Nat.zero_le _⟩) ?_
    refine go_aload_n (at_of tX7_putUnit 2 8 rfl) rfl ?_
    refine go_iconst (at_of tX7_putUnit 2 9 rfl) (by unfold in32; omega) ?_
    refine go_iload_n (at_of tX7_putUnit 2 10 rfl) rfl ?_
    refine go_iconst (at_of tX7_putUnit 2 11 rfl) (by unfold in32; omega) ?_
    refine go_cV (con_setFact (rowP (by exact hS) hk) (by omega) (by omega)) lk_X7_62 rfl (by first | rfl | assumption) (at_of tX7_putUnit 2 12 rfl) rfl (by decide) rfl (Nat.le_of_ble_eq_true rfl) rfl (by first | decide | exact ⟨Nat.zero_le _, Nat.zero_le _⟩) ?_
    refine go_aload_n (at_of tX7_putUnit 2 13 rfl) rfl ?_
    refine go_bipush (at_of tX7_putUnit 2 14 rfl) (by decide) ?_
    refine go_iload_n (at_of tX7_putUnit 2 15 rfl) rfl ?_
    refine go_iconst (at_of tX7_putUnit 3 0 rfl) (by unfold in32; omega) ?_
    refine go_cV (con_setFact (rowP (by exact hS) hk) (by omega) (by omega)) lk_X7_62 rfl (by first | rfl | assumption) (at_of tX7_putUnit 3 1 rfl) rfl (by decide) rfl (Nat.le_of_ble_eq_true rfl) rfl (by first | decide | exact ⟨Nat.zero_le _, Nat.zero_le _⟩) ?_
    refine go_aload_n (at_of tX7_putUnit 3 2 rfl) rfl ?_
    refine go_bipush (at_of tX7_putUnit 3 3 rfl) (by decide) ?_
    refine go_iload_n (at_of tX7_putUnit 3 4 rfl) rfl ?_
    refine go_iconst (at_of tX7_putUnit 3 5 rfl) (by unfold in32; omega) ?_
    refine go_cV (con_setFact (rowP (by exact hS) hk) (by omega) (by omega)) lk_X7_62 rfl (by first | rfl | assumption) (at_of tX7_putUnit 3 6 rfl) rfl (by decide) rfl (Nat.le_of_ble_eq_true rfl) rfl (by first | decide | exact ⟨Nat.zero_le _, Nat.zero_le _⟩) ?_
    refine go_aload_n (at_of tX7_putUnit 3 7 rfl) rfl ?_
    refine go_iconst (at_of tX7_putUnit 3 8 rfl) (by unfold in32; omega) ?_
    refine go_iload_n (at_of tX7_putUnit 3 9 rfl) rfl ?_
    refine go_aload_n (at_of tX7_putUnit 3 10 rfl) rfl ?_
    refine go_iconst (at_of tX7_putUnit 3 11 rfl) (by unfold in32; omega) ?_
    refine go_iload (at_of tX7_putUnit 3 12 rfl) rfl rfl ?_
    refine go_cV (con_fact (rowP (by exact hS) hk) (by omega) (by omega)) lk_X7_31 rfl (by first | rfl | assumption) (at_of tX7_putUnit 3 13 rfl) rfl (by decide) rfl (Nat.le_of_ble_eq_true rfl) rfl (by first | decide | exact ⟨Nat.zero_le _, Nat.zero_le _⟩) ?_
    refine go_cV (con_setFact (rowP (by exact hS) hk) (by omega) (by omega)) lk_X7_62 rfl (by first | rfl | assumption) (at_of tX7_putUnit 3 14 rfl) rfl (by decide) rfl (Nat.le_of_ble_eq_true rfl) rfl (by first | decide | exact ⟨Nat.zero_le _, Nat.zero_le _⟩) ?_
    refine go_aload_n (at_of tX7_putUnit 3 15 rfl) rfl ?_
    refine go_bipush (at_of tX7_putUnit 4 0 rfl) (by decide) ?_
    refine go_iload_n (at_of tX7_putUnit 4 1 rfl) rfl ?_
    refine go_aload_n (at_of tX7_putUnit 4 2 rfl) rfl ?_
    refine go_bipush (at_of tX7_putUnit 4 3 rfl) (by decide) ?_
    refine go_iload (at_of tX7_putUnit 4 4 rfl) rfl rfl ?_
    refine go_cV (con_fact (rowP (by exact hS) hk) (by omega) (by omega)) lk_X7_31 rfl (by first | rfl | assumption) (at_of tX7_putUnit 4 5 rfl) rfl (by decide) rfl (Nat.le_of_ble_eq_true rfl) rfl (by first | decide | exact ⟨Nat.zero_le _, Nat.zero_le _⟩) ?_
    refine go_cV (con_setFact (rowP (by exact hS) hk) (by omega) (by omega)) lk_X7_62 rfl (by first | rfl | assumption) (at_of tX7_putUnit 4 6 rfl) rfl (by decide) rfl (Nat.le_of_ble_eq_true rfl) rfl (by first | decide | exact ⟨Nat.zero_le _, Nat.zero_le _⟩) ?_
    refine go_aload_n (at_of tX7_putUnit 4 7 rfl) rfl ?_
    refine go_bipush (at_of tX7_putUnit 4 8 rfl) (by decide) ?_
    refine go_iload_n (at_of tX7_putUnit 4 9 rfl) rfl ?_
    refine go_aload_n (at_of tX7_putUnit 4 10 rfl) rfl ?_
    refine go_bipush (at_of tX7_putUnit 4 11 rfl) (by decide) ?_
    refine go_iload (at_of tX7_putUnit 4 12 rfl) rfl rfl ?_
    refine go_cV (con_fact (rowP (by exact hS) hk) (by omega) (by omega)) lk_X7_31 rfl (by first | rfl | assumption) (at_of tX7_putUnit 4 13 rfl) rfl (by decide) rfl (Nat.le_of_ble_eq_true rfl) rfl (by first | decide | exact ⟨Nat.zero_le _, Nat.zero_le _⟩) ?_
    refine go_cV (con_setFact (rowP (by exact hS) hk) (by omega) (by omega)) lk_X7_62 rfl (by first | rfl | assumption) (at_of tX7_putUnit 4 14 rfl) rfl (by decide) rfl (Nat.le_of_ble_eq_true rfl) rfl (by first | decide | exact ⟨Nat.zero_le _, Nat.zero_le _⟩) ?_
    refine go_aload_n (at_of tX7_putUnit 4 15 rfl) rfl ?_
    refine go_bipush (at_of tX7_putUnit 5 0 rfl) (by decide) ?_
    refine go_iload_n (at_of tX7_putUnit 5 1 rfl) rfl ?_
    refine go_aload_n (at_of tX7_putUnit 5 2 rfl) rfl ?_
    refine go_bipush (at_of tX7_putUnit 5 3 rfl) (by decide) ?_
    refine go_iload (at_of tX7_putUnit 5 4 rfl) rfl rfl ?_
    refine go_cV (con_fact (rowP (by exact hS) hk) (by omega) (by omega)) lk_X7_31 rfl (by first | rfl | assumption) (at_of tX7_putUnit 5 5 rfl) rfl (by decide) rfl (Nat.le_of_ble_eq_true rfl) rfl (by first | decide | exact ⟨Nat.zero_le _, Nat.zero_le _⟩) ?_
    refine go_cV (con_setFact (rowP (by exact hS) hk) (by omega) (by omega)) lk_X7_62 rfl (by first | rfl | assumption) (at_of tX7_putUnit 5 6 rfl) rfl (by decide) rfl (Nat.le_of_ble_eq_true rfl) rfl (by first | decide | exact ⟨Nat.zero_le _, Nat.zero_le _⟩) ?_
    exact go_retv (at_of tX7_putUnit 5 7 rfl) rfl
  · have e9 : endFr (fA σ (5 + 10 * k)) (σ.1 (4 + 10 * k) 3) i = endFr R.1 R.2.1 i := by rw [hn]; exact hR.eqF.endFr i
    have hi' : 0 ≤ i ∧ i ≤ (rmR R i).2.1 := ⟨hi.1, by show i ≤ R.2.1 + 1; omega⟩
    have he' : 0 ≤ endFr (fA σ (5 + 10 * k)) (σ.1 (4 + 10 * k) 3) i + 1 ∧ endFr (fA σ (5 + 10 * k)) (σ.1 (4 + 10 * k) 3) i + 1 ≤ (rmR R i).2.1 := ⟨by omega, by show _ ≤ R.2.1 + 1; omega⟩
    have q0 := rep_rm hR hi hlt
    have q1 := rep_set (w := 0) (z := l) q0 (by omega) hi'
    have q2 := rep_set (w := 1) (z := fd) q1 (by omega) hi'
    have q3 := rep_set (w := 2) (z := c) q2 (by omega) hi'
    have q4 := rep_set (w := 3) (z := -1) q3 (by omega) hi'
    have q5 := rep_set (w := 4) (z := -1) q4 (by omega) hi'
    have q6 := rep_set (w := 6) (z := 0) q5 (by omega) hi'
    have q7 := rep_set (w := 9) (z := 0) q6 (by omega) hi'
    have q8 := rep_cp (w := 5) q7 (by omega) hi' he'
    have q9 := rep_cp (w := 7) q8 (by omega) hi' he'
    have q10 := rep_cp (w := 8) q9 (by omega) hi' he'
    have q11 := rep_cp (w := 10) q10 (by omega) hi' he'
    refine ⟨RepR.congr q11 rfl (fun w j a b cc d => ?_) (fun b _ _ => ⟨rfl, rfl⟩), ?_⟩
    · have d : j ≤ R.2.1 + 1 := d
      rw [e9] at he ⊢
      have hne : ¬ (endFr R.1 R.2.1 i + 1 = i) := by omega
      have hle : ¬ (endFr R.1 R.2.1 i + 1 ≤ i) := by omega
      simp only [setR, putR, rmR, hne, hle, and_false, if_false, if_true, Int.add_sub_cancel]
      by_cases h1 : j < i
      · have h2 : ¬ j = i := by omega
        have h3 : j ≤ i := by omega
        simp [h1, h2, h3]
      · by_cases h2 : j = i
        · subst h2
          obtain rfl | rfl | rfl | rfl | rfl | rfl | rfl | rfl | rfl | rfl | rfl : w = 0 ∨ w = 1 ∨ w = 2 ∨ w = 3 ∨ w = 4 ∨ w = 5 ∨ w = 6 ∨ w = 7 ∨ w = 8 ∨ w = 9 ∨ w = 10 := by omega
          all_goals simp
        · have h3 : ¬ j ≤ i := by omega
          simp [h1, h2, h3]
    · have fr : ∀ (σ : St) (j z : Int), Frm σ (M1 σ (5 + 10 * k) j z) (4 + 10 * k) (7 + 10 * k) := fun σ j z => M1_frm (by omega)
      exact ((((((((((rm_frm.trans (fr _ _ _)).trans (fr _ _ _)).trans (fr _ _ _)).trans (fr _ _ _)).trans (fr _ _ _)).trans (fr _ _ _)).trans (fr _ _ _)).trans (fr _ _ _)).trans (fr _ _ _)).trans (fr _ _ _)).trans (fr _ _ _)
end RowR
