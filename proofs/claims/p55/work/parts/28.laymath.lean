/-! What is laid out: signs, lines, pages; the numbers of it. -/
section LayMath
def sumF (f : Int → Int) : Nat → Int
  | 0 => 0
  | n + 1 => sumF f n + f n
theorem sumF_s {f : Int → Int} {i : Int} (h : 0 ≤ i) : sumF f (i + 1).toNat = sumF f i.toNat + f i := by
  rw [show (i + 1).toNat = i.toNat + 1 by omega, sumF, show ((i.toNat : Nat) : Int) = i by omega]
theorem sumF_nn {f : Int → Int} (hf : ∀ i, 0 ≤ f i) : ∀ n, 0 ≤ sumF f n := by
  intro n
  induction n with
  | zero => exact Int.le_refl _
  | succ n ih => have := hf n; rw [sumF]; omega
theorem sumF_mono {f : Int → Int} (hf : ∀ i, 0 ≤ f i) : ∀ (d m : Nat), sumF f m ≤ sumF f (m + d) := by
  intro d
  induction d with
  | zero => intro m; exact Int.le_refl _
  | succ d ih => intro m; have h1 := ih m; have h2 := hf ((m + d : Nat) : Int); rw [show m + (d + 1) = (m + d) + 1 by omega, sumF]; omega
theorem sumF_le {f : Int → Int} (hf : ∀ i, 0 ≤ f i) {i j : Int} (h : i ≤ j) : sumF f i.toNat ≤ sumF f j.toNat := by
  have := sumF_mono hf (j.toNat - i.toNat) i.toNat
  rw [show i.toNat + (j.toNat - i.toNat) = j.toNat by omega] at this
  exact this
theorem sumF_ub {f : Int → Int} (hf : ∀ i, f i ≤ 1) : ∀ n : Nat, sumF f n ≤ n := by
  intro n
  induction n with
  | zero => exact Int.le_refl _
  | succ n ih => have := hf n; rw [sumF]; omega
theorem sumF_congr {f g : Int → Int} : ∀ (n : Nat), (∀ i : Int, 0 ≤ i → i < n → f i = g i) → sumF f n = sumF g n := by
  intro n
  induction n with
  | zero => intro _; rfl
  | succ n ih => intro h; rw [sumF, sumF, ih (fun i a b => h i a (by omega)), h n (by omega) (by omega)]
def ind (p : Int → Bool) (j : Int) : Int := if p j = true then 1 else 0
theorem ind_nn {p : Int → Bool} : ∀ j, 0 ≤ ind p j := by intro j; unfold ind; split <;> decide
theorem ind_ub {p : Int → Bool} : ∀ j, ind p j ≤ 1 := by intro j; unfold ind; split <;> decide
theorem ind_t {p : Int → Bool} {j : Int} (h : p j = true) : ind p j = 1 := if_pos h
theorem ind_f {p : Int → Bool} {j : Int} (h : ¬ p j = true) : ind p j = 0 := if_neg h
theorem cntF_end (p : Int → Bool) : ∀ (n : Nat) (i : Int), cntF p (n + 1) i = cntF p n i + ind p (i + n) := by
  intro n
  induction n with
  | zero => intro i; rw [cntF, cntF, cntF]; show _ + 0 = 0 + ind p (i + ((0 : Nat) : Int)); unfold ind; rw [show i + ((0 : Nat) : Int) = i by omega]; omega
  | succ n ih => intro i; rw [cntF, ih (i + 1), cntF, show i + 1 + (n : Int) = i + ((n + 1 : Nat) : Int) by omega]; omega
theorem cntF_sum (p : Int → Bool) : ∀ n : Nat, cntF p n 0 = sumF (ind p) n := by
  intro n
  induction n with
  | zero => rfl
  | succ n ih => rw [cntF_end, ih, sumF, Int.zero_add]
/-- signs of a number; of a unit -/
def dgF : Nat → Int → Int
  | 0, _ => 0
  | m + 1, r => if r ≤ 0 then 0 else 1 + dgF m (r / 10)
theorem dgF_nn : ∀ (m : Nat) (r : Int), 0 ≤ dgF m r := by
  intro m
  induction m with
  | zero => intro r; exact Int.le_refl _
  | succ m ih => intro r; rw [dgF]; have := ih (r / 10); split <;> omega
def sgn (R : RowD) (Q : Int → Int) (i : Int) : Int := if R.1 3 i ≠ -1 ∨ R.1 0 i = 47 then 0 else if R.1 1 i = -1 then 1 else 1 + dgF 10 (Q (R.1 1 i) / 10)
theorem sgn_nn {R : RowD} {Q : Int → Int} : ∀ i, 0 ≤ sgn R Q i := by
  intro i; unfold sgn; have := dgF_nn 10 (Q (R.1 1 i) / 10)
  split
  · exact Int.le_refl _
  · split <;> omega
def sgS (R : RowD) (Q : Int → Int) (i : Int) : Int := sumF (sgn R Q) i.toNat
def enN (R : RowD) (i : Int) : Int := sumF (ind (sendB R.1 R.2.1)) i.toNat
def plN (R : RowD) (i : Int) : Int := sumF (ind (leftB R.1)) i.toNat
def stN (R : RowD) : Nat → Int
  | 0 => 0
  | i + 1 => if sendB R.1 R.2.1 i = true then (i : Int) + 1 else stN R i
def stI (R : RowD) (i : Int) : Int := stN R i.toNat
theorem stI_s {R : RowD} {i : Int} (h : 0 ≤ i) : stI R (i + 1) = if sendB R.1 R.2.1 i = true then i + 1 else stI R i := by
  unfold stI; rw [show (i + 1).toNat = i.toNat + 1 by omega, stN, show ((i.toNat : Nat) : Int) = i by omega]
def blU (R : RowD) (i : Int) : Int := bI (R.1 0 i = 32 ∧ R.1 1 i = -1)
theorem sgS_s {R : RowD} {Q : Int → Int} {i : Int} (h : 0 ≤ i) : sgS R Q (i + 1) = sgS R Q i + sgn R Q i := sumF_s h
theorem enN_s {R : RowD} {i : Int} (h : 0 ≤ i) : enN R (i + 1) = enN R i + ind (sendB R.1 R.2.1) i := sumF_s h
theorem plN_s {R : RowD} {i : Int} (h : 0 ≤ i) : plN R (i + 1) = plN R i + ind (leftB R.1) i := sumF_s h
theorem sgS_le {R : RowD} {Q : Int → Int} {i j : Int} (h : i ≤ j) : sgS R Q i ≤ sgS R Q j := sumF_le sgn_nn h
theorem enN_le {R : RowD} {i j : Int} (h : i ≤ j) : enN R i ≤ enN R j := sumF_le ind_nn h
theorem plN_le {R : RowD} {i j : Int} (h : i ≤ j) : plN R i ≤ plN R j := sumF_le ind_nn h
theorem sgS_nn {R : RowD} {Q : Int → Int} {i : Int} : 0 ≤ sgS R Q i := sumF_nn sgn_nn _
theorem enN_nn {R : RowD} {i : Int} : 0 ≤ enN R i := sumF_nn ind_nn _
theorem plN_nn {R : RowD} {i : Int} : 0 ≤ plN R i := sumF_nn ind_nn _
theorem enN_ub {R : RowD} {i : Int} (h : 0 ≤ i) : enN R i ≤ i := by have := sumF_ub (ind_ub (p := sendB R.1 R.2.1)) i.toNat; unfold enN; omega
theorem plN_ub {R : RowD} {i : Int} (h : 0 ≤ i) : plN R i ≤ i := by have := sumF_ub (ind_ub (p := leftB R.1)) i.toNat; unfold plN; omega
/-- where a line ends: behind its last blank, if it has one -/
def lbF (B : Int → Bool) (d : Int) : Nat → Int → Int
  | 0, _ => d
  | m + 1, s => if B s = true then s + 1 else lbF B d m (s - 1)
def lnE (B : Int → Bool) (w a t : Int) : Int := if t - a ≤ w then t else lbF B (a + w) w.toNat (a + w - 1)
theorem lbF_b {B : Int → Bool} {d : Int} : ∀ (m : Nat) (s : Int), lbF B d m s = d ∨ (s - m + 1 < lbF B d m s ∧ lbF B d m s ≤ s + 1) := by
  intro m
  induction m with
  | zero => intro s; exact Or.inl rfl
  | succ m ih =>
    intro s
    rw [lbF]
    split
    · exact Or.inr ⟨by omega, by omega⟩
    · rcases ih (s - 1) with h | h
      · exact Or.inl h
      · exact Or.inr ⟨by omega, by omega⟩
theorem lnE_b {B : Int → Bool} {w a t : Int} (hw : 1 ≤ w) (h : a < t) : a < lnE B w a t ∧ lnE B w a t ≤ t := by
  unfold lnE
  split
  · omega
  · rcases lbF_b (B := B) (d := a + w) w.toNat (a + w - 1) with h1 | h1 <;> omega
theorem lnE_e {B : Int → Bool} {w a : Int} (hw : 1 ≤ w) : lnE B w a a = a := if_pos (by omega)
/-- how many lines from here to the end; in which of them a sign is -/
def lnC (B : Int → Bool) (w t : Int) : Nat → Int → Int
  | 0, _ => 0
  | m + 1, a => if t ≤ lnE B w a t then 1 else 1 + lnC B w t m (lnE B w a t)
def lnO (B : Int → Bool) (w t s : Int) : Nat → Int → Int
  | 0, _ => 0
  | m + 1, a => if s < lnE B w a t then 0 else 1 + lnO B w t s m (lnE B w a t)
theorem lnC_b {B : Int → Bool} {w t : Int} (hw : 1 ≤ w) : ∀ (m : Nat) (a : Int), a ≤ t → 0 ≤ lnC B w t m a ∧ lnC B w t m a ≤ 1 + (t - a) ∧ (1 ≤ m → 1 ≤ lnC B w t m a) := by
  intro m
  induction m with
  | zero => intro a h; exact ⟨Int.le_refl _, by rw [lnC]; omega, fun q => absurd q (by omega)⟩
  | succ m ih =>
    intro a h
    rw [lnC]
    split
    · omega
    · rename_i h1
      have h2 : a < t := by
        rcases Int.lt_or_eq_of_le h with q | q
        · exact q
        · exact absurd (by rw [← q, lnE_e hw]; exact Int.le_refl _) h1
      have h3 := lnE_b (B := B) hw h2
      have h4 := ih (lnE B w a t) h3.2
      omega
theorem lnO_b {B : Int → Bool} {w t s : Int} (hw : 1 ≤ w) : ∀ (m : Nat) (a : Int), a ≤ s → s < t → t - a < m → 0 ≤ lnO B w t s m a ∧ lnO B w t s m a < lnC B w t m a := by
  intro m
  induction m with
  | zero => intro a h1 h2 h3; exfalso; omega
  | succ m ih =>
    intro a h1 h2 h3
    rw [lnO, lnC]
    have h4 := lnE_b (B := B) (w := w) (a := a) (t := t) hw (by omega)
    split
    · split
      · omega
      · have := (lnC_b (B := B) hw m (lnE B w a t) h4.2).1; omega
    · split
      · omega
      · have := ih (lnE B w a t) (by omega) h2 (by omega); omega
theorem lbF_congr {B B' : Int → Bool} {d : Int} : ∀ (m : Nat) (s : Int), (∀ x, s - m < x → x ≤ s → B x = B' x) → lbF B d m s = lbF B' d m s := by
  intro m
  induction m with
  | zero => intro s _; rfl
  | succ m ih => intro s h; rw [lbF, lbF, h s (by omega) (by omega), ih (s - 1) (fun x a b => h x (by omega) (by omega))]
theorem lnE_congr {B B' : Int → Bool} {w a t : Int} (h : ∀ x, a ≤ x → x < t → B x = B' x) : lnE B w a t = lnE B' w a t := by
  unfold lnE
  split
  · rfl
  · exact lbF_congr _ _ (fun x p q => h x (by omega) (by omega))
theorem lnC_congr {B B' : Int → Bool} {w t : Int} (hw : 1 ≤ w) : ∀ (m : Nat) (a : Int), a ≤ t → (∀ x, a ≤ x → x < t → B x = B' x) → lnC B w t m a = lnC B' w t m a := by
  intro m
  induction m with
  | zero => intro a _ _; rfl
  | succ m ih =>
    intro a h0 h
    rw [lnC, lnC, ← lnE_congr h]
    split
    · rfl
    · rename_i h1
      have h2 : a < t := by
        rcases Int.lt_or_eq_of_le h0 with q | q
        · exact q
        · exact absurd (by rw [← q, lnE_e hw]; exact Int.le_refl _) h1
      have h3 := lnE_b (B := B) hw h2
      rw [ih _ h3.2 (fun x p q => h x (by omega) q)]
theorem lnO_congr {B B' : Int → Bool} {w t s : Int} (hw : 1 ≤ w) : ∀ (m : Nat) (a : Int), a ≤ s → s < t → (∀ x, a ≤ x → x < t → B x = B' x) → lnO B w t s m a = lnO B' w t s m a := by
  intro m
  induction m with
  | zero => intro a _ _ _; rfl
  | succ m ih =>
    intro a h1 h2 h
    rw [lnO, lnO, ← lnE_congr h]
    split
    · rfl
    · have h3 := lnE_b (B := B) (w := w) (a := a) (t := t) hw (by omega)
      rw [ih _ (by omega) h2 (fun x p q => h x (by omega) q)]
/-- pages: where what is kept together begins -/
def mvP (h p t : Int) : Int := if h < p % h + t ∧ t ≤ h then p / h * h + h else p
def tgF (kp : Int → Int) : Nat → Int → Int
  | 0, q => q
  | m + 1, q => if kp q = 1 then tgF kp m (q + 1) else q
def togF (ls kp : Int → Int) (E q : Int) : Int := ls (tgF kp (E - q).toNat q) - ls q + (if tgF kp (E - q).toNat q < E then 1 else 0)
def pgF (ls kp : Int → Int) (E h p q : Int) : Int := if kp q = 1 ∧ ¬ (0 < q ∧ kp (q - 1) = 1) then mvP h p (togF ls kp E q) else p
def psF (ls kp : Int → Int) (E h : Int) : Nat → Int
  | 0 => 0
  | q + 1 => pgF ls kp E h (psF ls kp E h q) q + (ls (q + 1) - ls q)
theorem tgF_b {kp : Int → Int} : ∀ (m : Nat) (q : Int), q ≤ tgF kp m q ∧ tgF kp m q ≤ q + m := by
  intro m
  induction m with
  | zero => intro q; rw [tgF]; omega
  | succ m ih => intro q; rw [tgF]; have := ih (q + 1); split <;> omega
theorem pu_div {g h u : Int} (h0 : 0 ≤ u) (h1 : u < h) : (g * h + u) / h = g ∧ (g * h + u) % h = u := by
  have e : g * h + u = u + h * g := by rw [Int.mul_comm]; omega
  rw [e]
  exact ⟨by rw [Int.add_mul_ediv_left _ _ (by omega), Int.ediv_eq_zero_of_lt h0 h1]; omega, by rw [Int.add_mul_emod_self_left, Int.emod_eq_of_lt h0 h1]⟩
theorem pu_full {g h : Int} (h1 : 0 < h) : (g * h + h) / h = g + 1 ∧ (g * h + h) % h = 0 := by
  have := pu_div (g := g + 1) (h := h) (u := 0) (by omega) h1
  rw [Int.add_zero, Int.add_mul, Int.one_mul] at this
  exact this
end LayMath
