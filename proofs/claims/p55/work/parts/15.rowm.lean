section RowM
variable {σ : St} {k : Nat}
/-- a row: its facts, how many units, where its bookmarks begin and stop -/
abbrev RowD : Type := (Int → Int → Int) × Int × (Int → Int) × (Int → Int)
def RowW (R : RowD) : Prop := 0 ≤ R.2.1 ∧ R.2.1 ≤ 200 ∧ ∀ b, 0 ≤ b → b < 6 → -1 ≤ R.2.2.1 b ∧ R.2.2.1 b ≤ R.2.1 ∧ -1 ≤ R.2.2.2 b ∧ R.2.2.2 b ≤ R.2.1
def RepR (σ : St) (k : Nat) (R : RowD) : Prop := σ.1 (4 + 10 * k) 3 = R.2.1 ∧ (∀ w i, 0 ≤ w → w ≤ 10 → 0 ≤ i → i ≤ R.2.1 → fA σ (5 + 10 * k) w i = R.1 w i) ∧ (∀ b, 0 ≤ b → b < 6 → σ.1 (6 + 10 * k) b.toNat = R.2.2.1 b ∧ σ.1 (7 + 10 * k) b.toNat = R.2.2.2 b) ∧ RowW R
/-- all else is as it was -/
def Frm (σ σ' : St) (lo hi : Nat) : Prop := σ'.2 = σ.2 ∧ ∀ a, (a < lo ∨ hi < a) → ∀ j, σ'.1 a j = σ.1 a j
theorem Frm.refl {σ : St} {lo hi : Nat} : Frm σ σ lo hi := ⟨rfl, fun _ _ _ => rfl⟩
theorem Frm.trans {σ σ' σ'' : St} {lo hi : Nat} (h : Frm σ σ' lo hi) (h' : Frm σ' σ'' lo hi) : Frm σ σ'' lo hi := ⟨h'.1.trans h.1, fun a ha j => (h'.2 a ha j).trans (h.2 a ha j)⟩
theorem Frm.mono {σ σ' : St} {lo hi lo' hi' : Nat} (h : Frm σ σ' lo hi) (h1 : lo' ≤ lo) (h2 : hi ≤ hi') : Frm σ σ' lo' hi' := ⟨h.1, fun a ha j => h.2 a (by omega) j⟩
theorem RepR.u {R : RowD} (h : RepR σ k R) : RowU σ (4 + 10 * k) := by
  obtain ⟨h1, -, -, h2, h3, -⟩ := h; unfold RowU; omega
def shU (σ : St) (f : Nat) (i n : Int) (K : Nat) : St := (fun a j => if a = f ∧ j < K * 201 ∧ i.toNat < j % 201 ∧ j % 201 ≤ n.toNat + 1 then σ.1 f (j - 1) else σ.1 a j, σ.2.1, σ.2.2)
theorem shU_0 {f : Nat} {i n : Int} : shU σ f i n 0 = σ := by
  unfold shU
  refine Prod.ext (funext fun a => funext fun j => ?_) rfl
  show (if _ then _ else _) = _
  rw [if_neg (by omega)]
theorem shU_ne {f a j : Nat} {i n : Int} {K : Nat} (h : a ≠ f) : (shU σ f i n K).1 a j = σ.1 a j := if_neg (fun q => h q.1)
theorem shU_s {f : Nat} {i n t : Int} (hi : 0 ≤ i) (hn : i ≤ n) (hn2 : n < 200) (ht : 0 ≤ t ∧ t < 11) : C1 (shU σ f i n t.toNat) f (t * 201 + i) f (t * 201 + i + 1) (n - i + 1) = shU σ f i n (t + 1).toNat := by
  obtain ⟨K, rfl⟩ := Int.eq_ofNat_of_zero_le ht.1
  obtain ⟨i, rfl⟩ := Int.eq_ofNat_of_zero_le hi
  obtain ⟨n, rfl⟩ := Int.eq_ofNat_of_zero_le (by omega : 0 ≤ n)
  unfold C1 cpM shU
  refine Prod.ext (funext fun a => funext fun j => ?_) rfl
  dsimp only
  have e1 : ((K : Int) * 201 + i).toNat = K * 201 + i := by omega
  have e2 : ((K : Int) * 201 + i + 1).toNat = K * 201 + i + 1 := by omega
  have e3 : ((n : Int) - i + 1).toNat = n - i + 1 := by omega
  have e4 : ((K : Int) + 1).toNat = K + 1 := by omega
  have e5 : ((K : Int)).toNat = K := by omega
  have e6 : ((i : Int)).toNat = i := by omega
  have e7 : ((n : Int)).toNat = n := by omega
  rw [e1, e2, e3, e4, e5, e6, e7]
  by_cases ha : a = f
  · subst ha
    by_cases h1 : K * 201 + i + 1 ≤ j ∧ j < K * 201 + i + 1 + (n - i + 1)
    · rw [if_pos ⟨rfl, h1⟩, if_neg (by omega), if_pos ⟨rfl, by omega, by omega, by omega⟩]
      exact congrArg _ (by omega)
    · rw [if_neg (fun q => h1 q.2)]
      by_cases h2 : j < K * 201 ∧ i < j % 201 ∧ j % 201 ≤ n + 1
      · rw [if_pos ⟨rfl, h2⟩, if_pos ⟨rfl, by omega, h2.2⟩]
      · rw [if_neg (fun q => h2 q.2), if_neg (by rintro ⟨-, q1, q2, q3⟩; omega)]
  · rw [if_neg (fun q => ha q.1), if_neg (fun q => ha q.1), if_neg (fun q => ha q.1)]
def shD (σ : St) (f : Nat) (i n : Int) (K : Nat) : St := (fun a j => if a = f ∧ j < K * 201 ∧ i.toNat ≤ j % 201 ∧ j % 201 < n.toNat then σ.1 f (j + 1) else σ.1 a j, σ.2.1, σ.2.2)
theorem shD_0 {f : Nat} {i n : Int} : shD σ f i n 0 = σ := by
  unfold shD
  refine Prod.ext (funext fun a => funext fun j => ?_) rfl
  show (if _ then _ else _) = _
  rw [if_neg (by omega)]
theorem shD_ne {f a j : Nat} {i n : Int} {K : Nat} (h : a ≠ f) : (shD σ f i n K).1 a j = σ.1 a j := if_neg (fun q => h q.1)
theorem shD_s {f : Nat} {i n t : Int} (hi : 0 ≤ i) (hn : i < n) (hn2 : n ≤ 200) (ht : 0 ≤ t ∧ t < 11) : C1 (shD σ f i n t.toNat) f (t * 201 + i + 1) f (t * 201 + i) (n - i) = shD σ f i n (t + 1).toNat := by
  obtain ⟨K, rfl⟩ := Int.eq_ofNat_of_zero_le ht.1
  obtain ⟨i, rfl⟩ := Int.eq_ofNat_of_zero_le hi
  obtain ⟨n, rfl⟩ := Int.eq_ofNat_of_zero_le (by omega : 0 ≤ n)
  unfold C1 cpM shD
  refine Prod.ext (funext fun a => funext fun j => ?_) rfl
  dsimp only
  have e1 : ((K : Int) * 201 + i).toNat = K * 201 + i := by omega
  have e2 : ((K : Int) * 201 + i + 1).toNat = K * 201 + i + 1 := by omega
  have e3 : ((n : Int) - i).toNat = n - i := by omega
  have e4 : ((K : Int) + 1).toNat = K + 1 := by omega
  have e5 : ((K : Int)).toNat = K := by omega
  have e6 : ((i : Int)).toNat = i := by omega
  have e7 : ((n : Int)).toNat = n := by omega
  rw [e1, e2, e3, e4, e5, e6, e7]
  by_cases ha : a = f
  · subst ha
    by_cases h1 : K * 201 + i ≤ j ∧ j < K * 201 + i + (n - i)
    · rw [if_pos ⟨rfl, h1⟩, if_neg (by omega), if_pos ⟨rfl, by omega, by omega, by omega⟩]
      exact congrArg _ (by omega)
    · rw [if_neg (fun q => h1 q.2)]
      by_cases h2 : j < K * 201 ∧ i ≤ j % 201 ∧ j % 201 < n
      · rw [if_pos ⟨rfl, h2⟩, if_pos ⟨rfl, by omega, h2.2⟩]
      · rw [if_neg (fun q => h2 q.2), if_neg (by rintro ⟨-, q1, q2, q3⟩; omega)]
  · rw [if_neg (fun q => ha q.1), if_neg (fun q => ha q.1), if_neg (fun q => ha q.1)]
/-- bookmarks behind a new unit, behind a dropped one -/
def bmU (σ : St) (g s : Nat) (i : Int) (B : Nat) : St := (fun a j => if (a = g ∨ a = s) ∧ j < B ∧ i ≤ σ.1 a j then σ.1 a j + 1 else σ.1 a j, σ.2.1, σ.2.2)
def bmD (σ : St) (g s : Nat) (i : Int) (B : Nat) : St := (fun a j => if (a = g ∨ a = s) ∧ j < B ∧ i < σ.1 a j then σ.1 a j - 1 else σ.1 a j, σ.2.1, σ.2.2)
theorem bmU_0 {g s : Nat} {i : Int} : bmU σ g s i 0 = σ := by
  unfold bmU
  refine Prod.ext (funext fun a => funext fun j => ?_) rfl
  show (if _ then _ else _) = _
  rw [if_neg (by omega)]
theorem bmU_ne {g s a j : Nat} {i : Int} {B : Nat} (h1 : a ≠ g) (h2 : a ≠ s) : (bmU σ g s i B).1 a j = σ.1 a j := if_neg (by rintro ⟨q, -⟩; omega)
theorem bmU_at {g s a : Nat} {i : Int} {B : Nat} : (bmU σ g s i B).1 a B = σ.1 a B := if_neg (by rintro ⟨-, q, -⟩; omega)
theorem bmU_s {g s : Nat} {i t v v' : Int} (hgs : g ≠ s) (ht : 0 ≤ t) (hv : v = if i ≤ σ.1 g t.toNat then σ.1 g t.toNat + 1 else σ.1 g t.toNat) (hv' : v' = if i ≤ σ.1 s t.toNat then σ.1 s t.toNat + 1 else σ.1 s t.toNat) : M1 (M1 (bmU σ g s i t.toNat) g t v) s t v' = bmU σ g s i (t + 1).toNat := by
  have e4 : (t + 1).toNat = t.toNat + 1 := by omega
  rw [e4]
  subst hv hv'
  refine Prod.ext (funext fun a => funext fun j => ?_) rfl
  by_cases h1 : a = s ∧ j = t.toNat
  · obtain ⟨rfl, rfl⟩ := h1
    rw [M1_eq rfl]
    unfold bmU
    dsimp only
    split
    · rename_i h; rw [if_pos ⟨Or.inr rfl, by omega, h⟩]
    · rename_i h; rw [if_neg (fun q => h q.2.2)]
  · by_cases h2 : a = g ∧ j = t.toNat
    · obtain ⟨rfl, rfl⟩ := h2
      rw [M1_ne hgs, M1_eq rfl]
      unfold bmU
      dsimp only
      split
      · rename_i h; rw [if_pos ⟨Or.inl rfl, by omega, h⟩]
      · rename_i h; rw [if_neg (fun q => h q.2.2)]
    · have x1 : (M1 (M1 (bmU σ g s i t.toNat) g t (if i ≤ σ.1 g t.toNat then σ.1 g t.toNat + 1 else σ.1 g t.toNat)) s t (if i ≤ σ.1 s t.toNat then σ.1 s t.toNat + 1 else σ.1 s t.toNat)).1 a j = (bmU σ g s i t.toNat).1 a j := (if_neg h1).trans (if_neg h2)
      rw [x1]
      unfold bmU
      dsimp only
      by_cases h3 : (a = g ∨ a = s) ∧ j < t.toNat ∧ i ≤ σ.1 a j
      · rw [if_pos h3, if_pos ⟨h3.1, by omega, h3.2.2⟩]
      · rw [if_neg h3, if_neg (by rintro ⟨q1, q2, q3⟩; exact h3 ⟨q1, by omega, q3⟩)]
theorem bmD_0 {g s : Nat} {i : Int} : bmD σ g s i 0 = σ := by
  unfold bmD
  refine Prod.ext (funext fun a => funext fun j => ?_) rfl
  show (if _ then _ else _) = _
  rw [if_neg (by omega)]
theorem bmD_ne {g s a j : Nat} {i : Int} {B : Nat} (h1 : a ≠ g) (h2 : a ≠ s) : (bmD σ g s i B).1 a j = σ.1 a j := if_neg (by rintro ⟨q, -⟩; omega)
theorem bmD_at {g s a : Nat} {i : Int} {B : Nat} : (bmD σ g s i B).1 a B = σ.1 a B := if_neg (by rintro ⟨-, q, -⟩; omega)
theorem bmD_s {g s : Nat} {i t v v' : Int} (hgs : g ≠ s) (ht : 0 ≤ t) (hv : v = if i < σ.1 g t.toNat then σ.1 g t.toNat - 1 else σ.1 g t.toNat) (hv' : v' = if i < σ.1 s t.toNat then σ.1 s t.toNat - 1 else σ.1 s t.toNat) : M1 (M1 (bmD σ g s i t.toNat) g t v) s t v' = bmD σ g s i (t + 1).toNat := by
  have e4 : (t + 1).toNat = t.toNat + 1 := by omega
  rw [e4]
  subst hv hv'
  refine Prod.ext (funext fun a => funext fun j => ?_) rfl
  by_cases h1 : a = s ∧ j = t.toNat
  · obtain ⟨rfl, rfl⟩ := h1
    rw [M1_eq rfl]
    unfold bmD
    dsimp only
    split
    · rename_i h; rw [if_pos ⟨Or.inr rfl, by omega, h⟩]
    · rename_i h; rw [if_neg (fun q => h q.2.2)]
  · by_cases h2 : a = g ∧ j = t.toNat
    · obtain ⟨rfl, rfl⟩ := h2
      rw [M1_ne hgs, M1_eq rfl]
      unfold bmD
      dsimp only
      split
      · rename_i h; rw [if_pos ⟨Or.inl rfl, by omega, h⟩]
      · rename_i h; rw [if_neg (fun q => h q.2.2)]
    · have x1 : (M1 (M1 (bmD σ g s i t.toNat) g t (if i < σ.1 g t.toNat then σ.1 g t.toNat - 1 else σ.1 g t.toNat)) s t (if i < σ.1 s t.toNat then σ.1 s t.toNat - 1 else σ.1 s t.toNat)).1 a j = (bmD σ g s i t.toNat).1 a j := (if_neg h1).trans (if_neg h2)
      rw [x1]
      unfold bmD
      dsimp only
      by_cases h3 : (a = g ∨ a = s) ∧ j < t.toNat ∧ i < σ.1 a j
      · rw [if_pos h3, if_pos ⟨h3.1, by omega, h3.2.2⟩]
      · rw [if_neg h3, if_neg (by rintro ⟨q1, q2, q3⟩; exact h3 ⟨q1, by omega, q3⟩)]
theorem lp1_makeRoom (hS : Str σ.2.1) (hk : k < 8) {i : Int} (hi : 0 ≤ i ∧ i ≤ σ.1 (4 + 10 * k) 3) (hn : 0 ≤ σ.1 (4 + 10 * k) 3 ∧ σ.1 (4 + 10 * k) 3 < 200) {out : MV × St} (K : ∀ b v3, Go (fun _ => 0) 0 mX7_makeRoom b 45 [vA (4 + 10 * k), vI i, vI 11, v3] [] (shU σ (5 + 10 * k) i (σ.1 (4 + 10 * k) 3) 11) out) : ∀ (m : Nat) (b : Nat × Nat) (t : Int) (v3 : MV), 0 ≤ t → t + m = 11 → Go (fun _ => 0) 0 mX7_makeRoom b 2 [vA (4 + 10 * k), vI i, vI t, v3] [] (shU σ (5 + 10 * k) i (σ.1 (4 + 10 * k) 3) t.toNat) out := by
  obtain ⟨g1, g2, g3, g4, g5, g6, g7, g8, g9, g10⟩ := gamk k hk
  obtain ⟨p1, p2, p3, p4, p5, p6, p7, p8, p9⟩ := strk hS k hk
  intro m
  induction m with
  | zero =>
    intro b t v3 h0 h1
    refine go_iload_n (at_of tX7_makeRoom 0 2 rfl) rfl ?_
    refine go_bipush (at_of tX7_makeRoom 0 3 rfl) (by decide) ?_
    refine go_icmp_ge (tgt := 45) (at_of tX7_makeRoom 0 4 rfl) (by decide) (fun h5 => ?_) (fun h5 => ?_)
    rotate_left
    · exfalso; omega
    obtain rfl : t = 11 := by omega
    exact K _ _
  | succ m ih =>
    intro b t v3 h0 h1
    refine go_iload_n (at_of tX7_makeRoom 0 2 rfl) rfl ?_
    refine go_bipush (at_of tX7_makeRoom 0 3 rfl) (by decide) ?_
    refine go_icmp_ge (tgt := 45) (at_of tX7_makeRoom 0 4 rfl) (by decide) (fun h5 => ?_) (fun h5 => ?_)
    · exfalso; omega
    refine go_iload_n (at_of tX7_makeRoom 0 5 rfl) rfl ?_
    refine go_sipush (at_of tX7_makeRoom 0 6 rfl) (by decide) ?_
    refine go_imul (at_of tX7_makeRoom 0 7 rfl) (by unfold in32; omega) ?_
    refine go_iload_n (at_of tX7_makeRoom 0 8 rfl) rfl ?_
    refine go_iadd (at_of tX7_makeRoom 0 9 rfl) (by unfold in32; omega) ?_
    refine go_istore_n (at_of tX7_makeRoom 0 10 rfl) rfl rfl ?_
    refine go_aload_n (at_of tX7_makeRoom 0 11 rfl) rfl ?_
    refine go_getr fl_X7_11 rfl (by first | rfl | assumption) (by first | assumption | exact p4 | exact p5 | exact p6) (at_of tX7_makeRoom 0 12 rfl) ?_
    refine go_iload_n (at_of tX7_makeRoom 0 13 rfl) rfl ?_
    refine go_aload_n (at_of tX7_makeRoom 0 14 rfl) rfl ?_
    refine go_getr fl_X7_11 rfl (by first | rfl | assumption) (by first | assumption | exact p4 | exact p5 | exact p6) (at_of tX7_makeRoom 0 15 rfl) ?_
    refine go_iload_n (at_of tX7_makeRoom 1 0 rfl) rfl ?_
    refine go_iconst (at_of tX7_makeRoom 1 1 rfl) (by unfold in32; omega) ?_
    refine go_iadd (at_of tX7_makeRoom 1 2 rfl) (by unfold in32; omega) ?_
    refine go_aload_n (at_of tX7_makeRoom 1 3 rfl) rfl ?_
    refine go_getf fl_X7_21 rfl (by first | rfl | assumption) (at_of tX7_makeRoom 1 4 rfl) ?_
    rw [shU_ne (by omega)]
    refine go_iload_n (at_of tX7_makeRoom 1 5 rfl) rfl ?_
    refine go_isub (at_of tX7_makeRoom 1 6 rfl) (by unfold in32; omega) ?_
    refine go_iconst (at_of tX7_makeRoom 1 7 rfl) (by unfold in32; omega) ?_
    refine go_iadd (at_of tX7_makeRoom 1 8 rfl) (by unfold in32; omega) ?_
    refine go_copy1 (inL 675 (by decide +kernel) (by decide +kernel)) (at_of tX7_makeRoom 1 9 rfl) (by first | rfl | assumption) (by first | rfl | assumption) (by omega) (by omega) (by omega) (by omega) (by omega) (Nat.le_of_ble_eq_true rfl) ?_
    rw [shU_s hi.1 hi.2 hn.2 (by omega)]
    refine go_iinc (at_of tX7_makeRoom 1 10 rfl) rfl (by unfold in32; omega) rfl rfl ?_
    refine go_goto (tgt := 2) (at_of tX7_makeRoom 1 11 rfl) (by decide) ?_
    exact ih _ _ _ (by omega) (by omega)
theorem lp2_makeRoom (hS : Str σ.2.1) (hk : k < 8) {i : Int} (hbm : ∀ b : Int, 0 ≤ b → b < 6 → -1 ≤ σ.1 (6 + 10 * k) b.toNat ∧ σ.1 (6 + 10 * k) b.toNat ≤ 200 ∧ -1 ≤ σ.1 (7 + 10 * k) b.toNat ∧ σ.1 (7 + 10 * k) b.toNat ≤ 200) {v3 : MV} {out : MV × St} (K : ∀ b, Go (fun _ => 0) 0 mX7_makeRoom b 117 [vA (4 + 10 * k), vI i, vI 6, v3] [] (bmU σ (6 + 10 * k) (7 + 10 * k) i 6) out) : ∀ (m : Nat) (b : Nat × Nat) (t : Int), 0 ≤ t → t + m = 6 → Go (fun _ => 0) 0 mX7_makeRoom b 57 [vA (4 + 10 * k), vI i, vI t, v3] [] (bmU σ (6 + 10 * k) (7 + 10 * k) i t.toNat) out := by
  obtain ⟨g1, g2, g3, g4, g5, g6, g7, g8, g9, g10⟩ := gamk k hk
  obtain ⟨p1, p2, p3, p4, p5, p6, p7, p8, p9⟩ := strk hS k hk
  intro m
  induction m with
  | zero =>
    intro b t h0 h1
    refine go_iload_n (at_of tX7_makeRoom 2 4 rfl) rfl ?_
    refine go_bipush (at_of tX7_makeRoom 2 5 rfl) (by decide) ?_
    refine go_icmp_ge (tgt := 117) (at_of tX7_makeRoom 2 6 rfl) (by decide) (fun h60 => ?_) (fun h60 => ?_)
    rotate_left
    · exfalso; omega
    obtain rfl : t = 6 := by omega
    exact K _
  | succ m ih =>
    intro b t h0 h1
    have q := hbm t h0 (by omega)
    refine go_iload_n (at_of tX7_makeRoom 2 4 rfl) rfl ?_
    refine go_bipush (at_of tX7_makeRoom 2 5 rfl) (by decide) ?_
    refine go_icmp_ge (tgt := 117) (at_of tX7_makeRoom 2 6 rfl) (by decide) (fun h60 => ?_) (fun h60 => ?_)
    · exfalso; omega
    refine go_aload_n (at_of tX7_makeRoom 2 7 rfl) rfl ?_
    refine go_getr fl_X7_15 rfl (by first | rfl | assumption) (by first | assumption | exact p4 | exact p5 | exact p6) (at_of tX7_makeRoom 2 8 rfl) ?_
    refine go_iload_n (at_of tX7_makeRoom 2 9 rfl) rfl ?_
    refine go_dup2 (at_of tX7_makeRoom 2 10 rfl) rfl rfl ?_
    refine go_iald (by first | rfl | assumption) (by omega) (by omega) (at_of tX7_makeRoom 2 11 rfl) ?_
    rw [bmU_at]
    refine go_aload_n (at_of tX7_makeRoom 2 12 rfl) rfl ?_
    refine go_getr fl_X7_15 rfl (by first | rfl | assumption) (by first | assumption | exact p4 | exact p5 | exact p6) (at_of tX7_makeRoom 2 13 rfl) ?_
    refine go_iload_n (at_of tX7_makeRoom 2 14 rfl) rfl ?_
    refine go_iald (by first | rfl | assumption) (by omega) (by omega) (at_of tX7_makeRoom 2 15 rfl) ?_
    rw [bmU_at]
    refine go_iload_n (at_of tX7_makeRoom 3 0 rfl) rfl ?_
    refine go_icmp_lt (tgt := 84) (at_of tX7_makeRoom 3 1 rfl) (by decide) (fun h77 => ?_) (fun h77 => ?_)
    · refine go_iconst (at_of tX7_makeRoom 3 4 rfl) (by unfold in32; omega) ?_
      refine go_iadd (at_of tX7_makeRoom 3 5 rfl) (by unfold in32; omega) ?_
      refine go_iast1 (by first | rfl | assumption) (by omega) (by omega) (at_of tX7_makeRoom 3 6 rfl) ?_
      refine go_aload_n (at_of tX7_makeRoom 3 7 rfl) rfl ?_
      refine go_getr fl_X7_18 rfl (by first | rfl | assumption) (by first | assumption | exact p4 | exact p5 | exact p6) (at_of tX7_makeRoom 3 8 rfl) ?_
      refine go_iload_n (at_of tX7_makeRoom 3 9 rfl) rfl ?_
      refine go_dup2 (at_of tX7_makeRoom 3 10 rfl) rfl rfl ?_
      refine go_iald (by first | rfl | assumption) (by omega) (by omega) (at_of tX7_makeRoom 3 11 rfl) ?_
      rw [M1_ne (by omega), bmU_at]
      refine go_aload_n (at_of tX7_makeRoom 3 12 rfl) rfl ?_
      refine go_getr fl_X7_18 rfl (by first | rfl | assumption) (by first | assumption | exact p4 | exact p5 | exact p6) (at_of tX7_makeRoom 3 13 rfl) ?_
      refine go_iload_n (at_of tX7_makeRoom 3 14 rfl) rfl ?_
      refine go_iald (by first | rfl | assumption) (by omega) (by omega) (at_of tX7_makeRoom 3 15 rfl) ?_
      rw [M1_ne (by omega), bmU_at]
      refine go_iload_n (at_of tX7_makeRoom 4 0 rfl) rfl ?_
      refine go_icmp_lt (tgt := 108) (at_of tX7_makeRoom 4 1 rfl) (by decide) (fun h101 => ?_) (fun h101 => ?_)
      · refine go_iconst (at_of tX7_makeRoom 4 4 rfl) (by unfold in32; omega) ?_
        refine go_iadd (at_of tX7_makeRoom 4 5 rfl) (by unfold in32; omega) ?_
        refine go_iast1 (by first | rfl | assumption) (by omega) (by omega) (at_of tX7_makeRoom 4 6 rfl) ?_
        refine go_iinc (at_of tX7_makeRoom 4 7 rfl) rfl (by unfold in32; omega) rfl rfl ?_
        refine go_goto (tgt := 57) (at_of tX7_makeRoom 4 8 rfl) (by decide) ?_
        rw [bmU_s (by omega) h0 (by split <;> omega) (by split <;> omega)]
        exact ih _ _ (by omega) (by omega)
      · refine go_iconst (at_of tX7_makeRoom 4 2 rfl) (by unfold in32; omega) ?_
        refine go_goto (tgt := 109) (at_of tX7_makeRoom 4 3 rfl) (by decide) ?_
        refine go_iadd (at_of tX7_makeRoom 4 5 rfl) (by unfold in32; omega) ?_
        refine go_iast1 (by first | rfl | assumption) (by omega) (by omega) (at_of tX7_makeRoom 4 6 rfl) ?_
        refine go_iinc (at_of tX7_makeRoom 4 7 rfl) rfl (by unfold in32; omega) rfl rfl ?_
        refine go_goto (tgt := 57) (at_of tX7_makeRoom 4 8 rfl) (by decide) ?_
        rw [bmU_s (by omega) h0 (by split <;> omega) (by split <;> omega)]
        exact ih _ _ (by omega) (by omega)
    · refine go_iconst (at_of tX7_makeRoom 3 2 rfl) (by unfold in32; omega) ?_
      refine go_goto (tgt := 85) (at_of tX7_makeRoom 3 3 rfl) (by decide) ?_
      refine go_iadd (at_of tX7_makeRoom 3 5 rfl) (by unfold in32; omega) ?_
      refine go_iast1 (by first | rfl | assumption) (by omega) (by omega) (at_of tX7_makeRoom 3 6 rfl) ?_
      refine go_aload_n (at_of tX7_makeRoom 3 7 rfl) rfl ?_
      refine go_getr fl_X7_18 rfl (by first | rfl | assumption) (by first | assumption | exact p4 | exact p5 | exact p6) (at_of tX7_makeRoom 3 8 rfl) ?_
      refine go_iload_n (at_of tX7_makeRoom 3 9 rfl) rfl ?_
      refine go_dup2 (at_of tX7_makeRoom 3 10 rfl) rfl rfl ?_
      refine go_iald (by first | rfl | assumption) (by omega) (by omega) (at_of tX7_makeRoom 3 11 rfl) ?_
      rw [M1_ne (by omega), bmU_at]
      refine go_aload_n (at_of tX7_makeRoom 3 12 rfl) rfl ?_
      refine go_getr fl_X7_18 rfl (by first | rfl | assumption) (by first | assumption | exact p4 | exact p5 | exact p6) (at_of tX7_makeRoom 3 13 rfl) ?_
      refine go_iload_n (at_of tX7_makeRoom 3 14 rfl) rfl ?_
      refine go_iald (by first | rfl | assumption) (by omega) (by omega) (at_of tX7_makeRoom 3 15 rfl) ?_
      rw [M1_ne (by omega), bmU_at]
      refine go_iload_n (at_of tX7_makeRoom 4 0 rfl) rfl ?_
      refine go_icmp_lt (tgt := 108) (at_of tX7_makeRoom 4 1 rfl) (by decide) (fun h101 => ?_) (fun h101 => ?_)
      · refine go_iconst (at_of tX7_makeRoom 4 4 rfl) (by unfold in32; omega) ?_
        refine go_iadd (at_of tX7_makeRoom 4 5 rfl) (by unfold in32; omega) ?_
        refine go_iast1 (by first | rfl | assumption) (by omega) (by omega) (at_of tX7_makeRoom 4 6 rfl) ?_
        refine go_iinc (at_of tX7_makeRoom 4 7 rfl) rfl (by unfold in32; omega) rfl rfl ?_
        refine go_goto (tgt := 57) (at_of tX7_makeRoom 4 8 rfl) (by decide) ?_
        rw [bmU_s (by omega) h0 (by split <;> omega) (by split <;> omega)]
        exact ih _ _ (by omega) (by omega)
      · refine go_iconst (at_of tX7_makeRoom 4 2 rfl) (by unfold in32; omega) ?_
        refine go_goto (tgt := 109) (at_of tX7_makeRoom 4 3 rfl) (by decide) ?_
        refine go_iadd (at_of tX7_makeRoom 4 5 rfl) (by unfold in32; omega) ?_
        refine go_iast1 (by first | rfl | assumption) (by omega) (by omega) (at_of tX7_makeRoom 4 6 rfl) ?_
        refine go_iinc (at_of tX7_makeRoom 4 7 rfl) rfl (by unfold in32; omega) rfl rfl ?_
        refine go_goto (tgt := 57) (at_of tX7_makeRoom 4 8 rfl) (by decide) ?_
        rw [bmU_s (by omega) h0 (by split <;> omega) (by split <;> omega)]
        exact ih _ _ (by omega) (by omega)
def rmS (σ : St) (k : Nat) (i : Int) : St := bmU (P1 (shU σ (5 + 10 * k) i (σ.1 (4 + 10 * k) 3) 11) (4 + 10 * k) 3 (σ.1 (4 + 10 * k) 3 + 1)) (6 + 10 * k) (7 + 10 * k) i 6
theorem con_makeRoom (hS : Str σ.2.1) (hk : k < 8) {i : Int} (hi : 0 ≤ i ∧ i ≤ σ.1 (4 + 10 * k) 3) (hn : 0 ≤ σ.1 (4 + 10 * k) 3 ∧ σ.1 (4 + 10 * k) 3 < 200) (hbm : ∀ b : Int, 0 ≤ b → b < 6 → -1 ≤ σ.1 (6 + 10 * k) b.toNat ∧ σ.1 (6 + 10 * k) b.toNat ≤ 200 ∧ -1 ≤ σ.1 (7 + 10 * k) b.toNat ∧ σ.1 (7 + 10 * k) b.toNat ≤ 200) : Con 0 mX7_makeRoom 0 0 [vA (4 + 10 * k), vI i] σ (vT 8 0, rmS σ k i) := by
  obtain ⟨g1, g2, g3, g4, g5, g6, g7, g8, g9, g10⟩ := gamk k hk
  obtain ⟨p1, p2, p3, p4, p5, p6, p7, p8, p9⟩ := strk hS k hk
  refine con_of_go mfX7_makeRoom.1 trivial (Nat.le_of_ble_eq_true rfl) rfl (by decide) ?_
  show Go _ _ _ _ 0 [vA _, vI _, vT 9 0, vT 9 0] [] _ _
  refine go_iconst (at_of tX7_makeRoom 0 0 rfl) (by unfold in32; omega) ?_
  refine go_istore_n (at_of tX7_makeRoom 0 1 rfl) rfl rfl ?_
  have q := lp1_makeRoom hS hk hi hn (out := (vT 8 0, rmS σ k i)) (fun b v3 => ?_) 11 (0, 0) 0 (vT 9 0) (by omega) (by omega)
  · rw [show (0 : Int).toNat = 0 from rfl, shU_0] at q
    exact q
  · skip
    refine go_aload_n (at_of tX7_makeRoom 1 12 rfl) rfl ?_
    refine go_dup (at_of tX7_makeRoom 1 13 rfl) rfl ?_
    refine go_getf fl_X7_21 rfl (by first | rfl | assumption) (at_of tX7_makeRoom 1 14 rfl) ?_
    rw [shU_ne (by omega)]
    refine go_iconst (at_of tX7_makeRoom 1 15 rfl) (by unfold in32; omega) ?_
    refine go_iadd (at_of tX7_makeRoom 2 0 rfl) (by unfold in32; omega) ?_
    refine go_put1 fp_X7_21 rfl (Or.inl rfl) (by first | rfl | assumption) (Or.inl rfl) (at_of tX7_makeRoom 2 1 rfl) ?_
    refine go_iconst (at_of tX7_makeRoom 2 2 rfl) (by unfold in32; omega) ?_
    refine go_istore_n (at_of tX7_makeRoom 2 3 rfl) rfl rfl ?_
    have q := lp2_makeRoom (σ := P1 (shU σ (5 + 10 * k) i (σ.1 (4 + 10 * k) 3) 11) (4 + 10 * k) 3 (σ.1 (4 + 10 * k) 3 + 1)) hS hk (i := i) (v3 := v3) (out := (vT 8 0, rmS σ k i)) (fun b hb0 hb6 => by rw [P1_ne (by omega), P1_ne (by omega), shU_ne (by omega), shU_ne (by omega)]; exact hbm b hb0 hb6) (fun b => go_retv (at_of tX7_makeRoom 4 9 rfl) rfl) 6 b 0 (by omega) (by omega)
    rw [show (0 : Int).toNat = 0 from rfl, bmU_0] at q
    exact q
theorem lp1_drop (hS : Str σ.2.1) (hk : k < 8) {i : Int} (hi : 0 ≤ i ∧ i < σ.1 (4 + 10 * k) 3) (hn : 0 ≤ σ.1 (4 + 10 * k) 3 ∧ σ.1 (4 + 10 * k) 3 ≤ 200) {out : MV × St} (K : ∀ b v3, Go (fun _ => 0) 0 mX7_drop b 56 [vA (4 + 10 * k), vI i, vI 11, v3] [] (shD σ (5 + 10 * k) i (σ.1 (4 + 10 * k) 3) 11) out) : ∀ (m : Nat) (b : Nat × Nat) (t : Int) (v3 : MV), 0 ≤ t → t + m = 11 → Go (fun _ => 0) 0 mX7_drop b 15 [vA (4 + 10 * k), vI i, vI t, v3] [] (shD σ (5 + 10 * k) i (σ.1 (4 + 10 * k) 3) t.toNat) out := by
  obtain ⟨g1, g2, g3, g4, g5, g6, g7, g8, g9, g10⟩ := gamk k hk
  obtain ⟨p1, p2, p3, p4, p5, p6, p7, p8, p9⟩ := strk hS k hk
  intro m
  induction m with
  | zero =>
    intro b t v3 h0 h1
    refine go_iload_n (at_of tX7_drop 0 9 rfl) rfl ?_
    refine go_bipush (at_of tX7_drop 0 10 rfl) (by decide) ?_
    refine go_icmp_ge (tgt := 56) (at_of tX7_drop 0 11 rfl) (by decide) (fun h18 => ?_) (fun h18 => ?_)
    rotate_left
    · exfalso; omega
    obtain rfl : t = 11 := by omega
    exact K _ _
  | succ m ih =>
    intro b t v3 h0 h1
    refine go_iload_n (at_of tX7_drop 0 9 rfl) rfl ?_
    refine go_bipush (at_of tX7_drop 0 10 rfl) (by decide) ?_
    refine go_icmp_ge (tgt := 56) (at_of tX7_drop 0 11 rfl) (by decide) (fun h18 => ?_) (fun h18 => ?_)
    · exfalso; omega
    refine go_iload_n (at_of tX7_drop 0 12 rfl) rfl ?_
    refine go_sipush (at_of tX7_drop 0 13 rfl) (by decide) ?_
    refine go_imul (at_of tX7_drop 0 14 rfl) (by unfold in32; omega) ?_
    refine go_iload_n (at_of tX7_drop 0 15 rfl) rfl ?_
    refine go_iadd (at_of tX7_drop 1 0 rfl) (by unfold in32; omega) ?_
    refine go_istore_n (at_of tX7_drop 1 1 rfl) rfl rfl ?_
    refine go_aload_n (at_of tX7_drop 1 2 rfl) rfl ?_
    refine go_getr fl_X7_11 rfl (by first | rfl | assumption) (by first | assumption | exact p4 | exact p5 | exact p6) (at_of tX7_drop 1 3 rfl) ?_
    refine go_iload_n (at_of tX7_drop 1 4 rfl) rfl ?_
    refine go_iconst (at_of tX7_drop 1 5 rfl) (by unfold in32; omega) ?_
    refine go_iadd (at_of tX7_drop 1 6 rfl) (by unfold in32; omega) ?_
    refine go_aload_n (at_of tX7_drop 1 7 rfl) rfl ?_
    refine go_getr fl_X7_11 rfl (by first | rfl | assumption) (by first | assumption | exact p4 | exact p5 | exact p6) (at_of tX7_drop 1 8 rfl) ?_
    refine go_iload_n (at_of tX7_drop 1 9 rfl) rfl ?_
    refine go_aload_n (at_of tX7_drop 1 10 rfl) rfl ?_
    refine go_getf fl_X7_21 rfl (by first | rfl | assumption) (at_of tX7_drop 1 11 rfl) ?_
    rw [shD_ne (by omega)]
    refine go_iload_n (at_of tX7_drop 1 12 rfl) rfl ?_
    refine go_isub (at_of tX7_drop 1 13 rfl) (by unfold in32; omega) ?_
    refine go_copy1 (inL 675 (by decide +kernel) (by decide +kernel)) (at_of tX7_drop 1 14 rfl) (by first | rfl | assumption) (by first | rfl | assumption) (by omega) (by omega) (by omega) (by omega) (by omega) (Nat.le_of_ble_eq_true rfl) ?_
    rw [shD_s hi.1 hi.2 hn.2 (by omega)]
    refine go_iinc (at_of tX7_drop 1 15 rfl) rfl (by unfold in32; omega) rfl rfl ?_
    refine go_goto (tgt := 15) (at_of tX7_drop 2 0 rfl) (by decide) ?_
    exact ih _ _ _ (by omega) (by omega)
theorem lp2_drop (hS : Str σ.2.1) (hk : k < 8) {i : Int} (hbm : ∀ b : Int, 0 ≤ b → b < 6 → -1 ≤ σ.1 (6 + 10 * k) b.toNat ∧ σ.1 (6 + 10 * k) b.toNat ≤ 200 ∧ -1 ≤ σ.1 (7 + 10 * k) b.toNat ∧ σ.1 (7 + 10 * k) b.toNat ≤ 200) {v3 : MV} {out : MV × St} (K : ∀ b, Go (fun _ => 0) 0 mX7_drop b 128 [vA (4 + 10 * k), vI i, vI 6, v3] [] (bmD σ (6 + 10 * k) (7 + 10 * k) i 6) out) : ∀ (m : Nat) (b : Nat × Nat) (t : Int), 0 ≤ t → t + m = 6 → Go (fun _ => 0) 0 mX7_drop b 68 [vA (4 + 10 * k), vI i, vI t, v3] [] (bmD σ (6 + 10 * k) (7 + 10 * k) i t.toNat) out := by
  obtain ⟨g1, g2, g3, g4, g5, g6, g7, g8, g9, g10⟩ := gamk k hk
  obtain ⟨p1, p2, p3, p4, p5, p6, p7, p8, p9⟩ := strk hS k hk
  intro m
  induction m with
  | zero =>
    intro b t h0 h1
    refine go_iload_n (at_of tX7_drop 2 9 rfl) rfl ?_
    refine go_bipush (at_of tX7_drop 2 10 rfl) (by decide) ?_
    refine go_icmp_ge (tgt := 128) (at_of tX7_drop 2 11 rfl) (by decide) (fun h71 => ?_) (fun h71 => ?_)
    rotate_left
    · exfalso; omega
    obtain rfl : t = 6 := by omega
    exact K _
  | succ m ih =>
    intro b t h0 h1
    have q := hbm t h0 (by omega)
    refine go_iload_n (at_of tX7_drop 2 9 rfl) rfl ?_
    refine go_bipush (at_of tX7_drop 2 10 rfl) (by decide) ?_
    refine go_icmp_ge (tgt := 128) (at_of tX7_drop 2 11 rfl) (by decide) (fun h71 => ?_) (fun h71 => ?_)
    · exfalso; omega
    refine go_aload_n (at_of tX7_drop 2 12 rfl) rfl ?_
    refine go_getr fl_X7_15 rfl (by first | rfl | assumption) (by first | assumption | exact p4 | exact p5 | exact p6) (at_of tX7_drop 2 13 rfl) ?_
    refine go_iload_n (at_of tX7_drop 2 14 rfl) rfl ?_
    refine go_dup2 (at_of tX7_drop 2 15 rfl) rfl rfl ?_
    refine go_iald (by first | rfl | assumption) (by omega) (by omega) (at_of tX7_drop 3 0 rfl) ?_
    rw [bmD_at]
    refine go_aload_n (at_of tX7_drop 3 1 rfl) rfl ?_
    refine go_getr fl_X7_15 rfl (by first | rfl | assumption) (by first | assumption | exact p4 | exact p5 | exact p6) (at_of tX7_drop 3 2 rfl) ?_
    refine go_iload_n (at_of tX7_drop 3 3 rfl) rfl ?_
    refine go_iald (by first | rfl | assumption) (by omega) (by omega) (at_of tX7_drop 3 4 rfl) ?_
    rw [bmD_at]
    refine go_iload_n (at_of tX7_drop 3 5 rfl) rfl ?_
    refine go_icmp_le (tgt := 95) (at_of tX7_drop 3 6 rfl) (by decide) (fun h88 => ?_) (fun h88 => ?_)
    · refine go_iconst (at_of tX7_drop 3 9 rfl) (by unfold in32; omega) ?_
      refine go_isub (at_of tX7_drop 3 10 rfl) (by unfold in32; omega) ?_
      refine go_iast1 (by first | rfl | assumption) (by omega) (by omega) (at_of tX7_drop 3 11 rfl) ?_
      refine go_aload_n (at_of tX7_drop 3 12 rfl) rfl ?_
      refine go_getr fl_X7_18 rfl (by first | rfl | assumption) (by first | assumption | exact p4 | exact p5 | exact p6) (at_of tX7_drop 3 13 rfl) ?_
      refine go_iload_n (at_of tX7_drop 3 14 rfl) rfl ?_
      refine go_dup2 (at_of tX7_drop 3 15 rfl) rfl rfl ?_
      refine go_iald (by first | rfl | assumption) (by omega) (by omega) (at_of tX7_drop 4 0 rfl) ?_
      rw [M1_ne (by omega), bmD_at]
      refine go_aload_n (at_of tX7_drop 4 1 rfl) rfl ?_
      refine go_getr fl_X7_18 rfl (by first | rfl | assumption) (by first | assumption | exact p4 | exact p5 | exact p6) (at_of tX7_drop 4 2 rfl) ?_
      refine go_iload_n (at_of tX7_drop 4 3 rfl) rfl ?_
      refine go_iald (by first | rfl | assumption) (by omega) (by omega) (at_of tX7_drop 4 4 rfl) ?_
      rw [M1_ne (by omega), bmD_at]
      refine go_iload_n (at_of tX7_drop 4 5 rfl) rfl ?_
      refine go_icmp_le (tgt := 119) (at_of tX7_drop 4 6 rfl) (by decide) (fun h112 => ?_) (fun h112 => ?_)
      · refine go_iconst (at_of tX7_drop 4 9 rfl) (by unfold in32; omega) ?_
        refine go_isub (at_of tX7_drop 4 10 rfl) (by unfold in32; omega) ?_
        refine go_iast1 (by first | rfl | assumption) (by omega) (by omega) (at_of tX7_drop 4 11 rfl) ?_
        refine go_iinc (at_of tX7_drop 4 12 rfl) rfl (by unfold in32; omega) rfl rfl ?_
        refine go_goto (tgt := 68) (at_of tX7_drop 4 13 rfl) (by decide) ?_
        rw [bmD_s (by omega) h0 (by split <;> omega) (by split <;> omega)]
        exact ih _ _ (by omega) (by omega)
      · refine go_iconst (at_of tX7_drop 4 7 rfl) (by unfold in32; omega) ?_
        refine go_goto (tgt := 120) (at_of tX7_drop 4 8 rfl) (by decide) ?_
        refine go_isub (at_of tX7_drop 4 10 rfl) (by unfold in32; omega) ?_
        refine go_iast1 (by first | rfl | assumption) (by omega) (by omega) (at_of tX7_drop 4 11 rfl) ?_
        refine go_iinc (at_of tX7_drop 4 12 rfl) rfl (by unfold in32; omega) rfl rfl ?_
        refine go_goto (tgt := 68) (at_of tX7_drop 4 13 rfl) (by decide) ?_
        rw [bmD_s (by omega) h0 (by split <;> omega) (by split <;> omega)]
        exact ih _ _ (by omega) (by omega)
    · refine go_iconst (at_of tX7_drop 3 7 rfl) (by unfold in32; omega) ?_
      refine go_goto (tgt := 96) (at_of tX7_drop 3 8 rfl) (by decide) ?_
      refine go_isub (at_of tX7_drop 3 10 rfl) (by unfold in32; omega) ?_
      refine go_iast1 (by first | rfl | assumption) (by omega) (by omega) (at_of tX7_drop 3 11 rfl) ?_
      refine go_aload_n (at_of tX7_drop 3 12 rfl) rfl ?_
      refine go_getr fl_X7_18 rfl (by first | rfl | assumption) (by first | assumption | exact p4 | exact p5 | exact p6) (at_of tX7_drop 3 13 rfl) ?_
      refine go_iload_n (at_of tX7_drop 3 14 rfl) rfl ?_
      refine go_dup2 (at_of tX7_drop 3 15 rfl) rfl rfl ?_
      refine go_iald (by first | rfl | assumption) (by omega) (by omega) (at_of tX7_drop 4 0 rfl) ?_
      rw [M1_ne (by omega), bmD_at]
      refine go_aload_n (at_of tX7_drop 4 1 rfl) rfl ?_
      refine go_getr fl_X7_18 rfl (by first | rfl | assumption) (by first | assumption | exact p4 | exact p5 | exact p6) (at_of tX7_drop 4 2 rfl) ?_
      refine go_iload_n (at_of tX7_drop 4 3 rfl) rfl ?_
      refine go_iald (by first | rfl | assumption) (by omega) (by omega) (at_of tX7_drop 4 4 rfl) ?_
      rw [M1_ne (by omega), bmD_at]
      refine go_iload_n (at_of tX7_drop 4 5 rfl) rfl ?_
      refine go_icmp_le (tgt := 119) (at_of tX7_drop 4 6 rfl) (by decide) (fun h112 => ?_) (fun h112 => ?_)
      · refine go_iconst (at_of tX7_drop 4 9 rfl) (by unfold in32; omega) ?_
        refine go_isub (at_of tX7_drop 4 10 rfl) (by unfold in32; omega) ?_
        refine go_iast1 (by first | rfl | assumption) (by omega) (by omega) (at_of tX7_drop 4 11 rfl) ?_
        refine go_iinc (at_of tX7_drop 4 12 rfl) rfl (by unfold in32; omega) rfl rfl ?_
        refine go_goto (tgt := 68) (at_of tX7_drop 4 13 rfl) (by decide) ?_
        rw [bmD_s (by omega) h0 (by split <;> omega) (by split <;> omega)]
        exact ih _ _ (by omega) (by omega)
      · refine go_iconst (at_of tX7_drop 4 7 rfl) (by unfold in32; omega) ?_
        refine go_goto (tgt := 120) (at_of tX7_drop 4 8 rfl) (by decide) ?_
        refine go_isub (at_of tX7_drop 4 10 rfl) (by unfold in32; omega) ?_
        refine go_iast1 (by first | rfl | assumption) (by omega) (by omega) (at_of tX7_drop 4 11 rfl) ?_
        refine go_iinc (at_of tX7_drop 4 12 rfl) rfl (by unfold in32; omega) rfl rfl ?_
        refine go_goto (tgt := 68) (at_of tX7_drop 4 13 rfl) (by decide) ?_
        rw [bmD_s (by omega) h0 (by split <;> omega) (by split <;> omega)]
        exact ih _ _ (by omega) (by omega)
def drS (σ : St) (k : Nat) (i : Int) : St := bmD (P1 (shD σ (5 + 10 * k) i (σ.1 (4 + 10 * k) 3) 11) (4 + 10 * k) 3 (σ.1 (4 + 10 * k) 3 - 1)) (6 + 10 * k) (7 + 10 * k) i 6
theorem con_drop0 (hS : Str σ.2.1) (hk : k < 8) {i : Int} (hi : 0 ≤ i ∧ i < σ.1 (4 + 10 * k) 3) (hn : 0 ≤ σ.1 (4 + 10 * k) 3 ∧ σ.1 (4 + 10 * k) 3 ≤ 200) (hbm : ∀ b : Int, 0 ≤ b → b < 6 → -1 ≤ σ.1 (6 + 10 * k) b.toNat ∧ σ.1 (6 + 10 * k) b.toNat ≤ 200 ∧ -1 ≤ σ.1 (7 + 10 * k) b.toNat ∧ σ.1 (7 + 10 * k) b.toNat ≤ 200) : Con 0 mX7_drop 0 0 [vA (4 + 10 * k), vI i] σ (vT 8 0, drS σ k i) := by
  obtain ⟨g1, g2, g3, g4, g5, g6, g7, g8, g9, g10⟩ := gamk k hk
  obtain ⟨p1, p2, p3, p4, p5, p6, p7, p8, p9⟩ := strk hS k hk
  refine con_of_go mfX7_drop.1 trivial (Nat.le_of_ble_eq_true rfl) rfl (by decide) ?_
  show Go _ _ _ _ 0 [vA _, vI _, vT 9 0, vT 9 0] [] _ _
  refine go_iload_n (at_of tX7_drop 0 0 rfl) rfl ?_
  refine go_if_lt (tgt := 12) (at_of tX7_drop 0 1 rfl) (by decide) (fun h1 => ?_) (fun h1 => ?_)
  · exfalso; omega
  refine go_iload_n (at_of tX7_drop 0 2 rfl) rfl ?_
  refine go_aload_n (at_of tX7_drop 0 3 rfl) rfl ?_
  refine go_getf fl_X7_21 rfl (by first | rfl | assumption) (at_of tX7_drop 0 4 rfl) ?_
  refine go_icmp_lt (tgt := 13) (at_of tX7_drop 0 5 rfl) (by decide) (fun h9 => ?_) (fun h9 => ?_)
  rotate_left
  · exfalso; omega
  refine go_iconst (at_of tX7_drop 0 7 rfl) (by unfold in32; omega) ?_
  refine go_istore_n (at_of tX7_drop 0 8 rfl) rfl rfl ?_
  have q := lp1_drop hS hk hi hn (out := (vT 8 0, drS σ k i)) (fun b v3 => ?_) 11 (0, 0) 0 (vT 9 0) (by omega) (by omega)
  · rw [show (0 : Int).toNat = 0 from rfl, shD_0] at q
    exact q
  · skip
    refine go_aload_n (at_of tX7_drop 2 1 rfl) rfl ?_
    refine go_dup (at_of tX7_drop 2 2 rfl) rfl ?_
    refine go_getf fl_X7_21 rfl (by first | rfl | assumption) (at_of tX7_drop 2 3 rfl) ?_
    rw [shD_ne (by omega)]
    refine go_iconst (at_of tX7_drop 2 4 rfl) (by unfold in32; omega) ?_
    refine go_isub (at_of tX7_drop 2 5 rfl) (by unfold in32; omega) ?_
    refine go_put1 fp_X7_21 rfl (Or.inl rfl) (by first | rfl | assumption) (Or.inl rfl) (at_of tX7_drop 2 6 rfl) ?_
    refine go_iconst (at_of tX7_drop 2 7 rfl) (by unfold in32; omega) ?_
    refine go_istore_n (at_of tX7_drop 2 8 rfl) rfl rfl ?_
    have q := lp2_drop (σ := P1 (shD σ (5 + 10 * k) i (σ.1 (4 + 10 * k) 3) 11) (4 + 10 * k) 3 (σ.1 (4 + 10 * k) 3 - 1)) hS hk (i := i) (v3 := v3) (out := (vT 8 0, drS σ k i)) (fun b hb0 hb6 => by rw [P1_ne (by omega), P1_ne (by omega), shD_ne (by omega), shD_ne (by omega)]; exact hbm b hb0 hb6) (fun b => go_retv (at_of tX7_drop 4 14 rfl) rfl) 6 b 0 (by omega) (by omega)
    rw [show (0 : Int).toNat = 0 from rfl, bmD_0] at q
    exact q
end RowM
