section Begin
variable {σ : St}
/-- the first t papers moved ahead by one -/
def roP (P : Nat → Nat → Option Nat) (t : Nat) : Nat → Nat → Option Nat := fun a j => if a = 2 ∧ j < t then P 2 (j + 1) else P a j
theorem roP_s {P : Nat → Nat → Option Nat} {t q : Nat} (h : P 2 (t + 1) = some q) : updP (roP P t) 2 t (some q) = roP P (t + 1) := by
  funext a j
  unfold updP roP
  by_cases h1 : a = 2 ∧ j = t
  · obtain ⟨rfl, rfl⟩ := h1
    rw [if_pos ⟨rfl, rfl⟩, if_pos ⟨rfl, by omega⟩, h]
  · rw [if_neg h1]
    by_cases h2 : a = 2 ∧ j < t
    · rw [if_pos h2, if_pos ⟨h2.1, by omega⟩]
    · rw [if_neg h2, if_neg (by rintro ⟨q1, q2⟩; exact h2 ⟨q1, by omega⟩)]
def roF (P : Nat → Nat → Option Nat) : Nat → Nat → Option Nat := updP (roP P 6) 2 6 (P 2 0)
def pi1 (pi : Nat → Nat) : Nat → Nat := fun j => if j < 6 then pi (j + 1) else pi 0
theorem pap_ro {P : Nat → Nat → Option Nat} {pi : Nat → Nat} (h : Pap P pi) : Pap (roF P) (pi1 pi) := by
  refine ⟨fun j hj => ?_, fun i j hi hj e => ?_⟩
  · unfold roF updP roP pi1
    by_cases h6 : j = 6
    · subst h6
      rw [if_pos ⟨rfl, rfl⟩, if_neg (by omega)]
      exact h.1 0 (by omega)
    · rw [if_neg (fun q => h6 q.2), if_pos ⟨rfl, by omega⟩, if_pos (by omega)]
      exact h.1 (j + 1) (by omega)
  · unfold pi1 at e
    by_cases h1 : i < 6
    · by_cases h2 : j < 6
      · rw [if_pos h1, if_pos h2] at e
        have := h.2 _ _ (by omega) (by omega) e; omega
      · rw [if_pos h1, if_neg h2] at e
        have := h.2 _ _ (by omega) (by omega) e; omega
    · by_cases h2 : j < 6
      · rw [if_neg h1, if_pos h2] at e
        have := h.2 _ _ (by omega) (by omega) e; omega
      · omega
theorem str_ro {P : Nat → Nat → Option Nat} (h : Str P) : Str (roF P) := by
  intro a j hs
  have h2 : a ≠ 2 := by
    intro e
    subst e
    have h9 : ∀ j, strF 2 j = none := by
      intro j
      unfold strF
      have : strL.find? (fun e => e.1 == 2 && e.2.1 == j) = none := by
        rw [List.find?_eq_none]
        intro e he
        have q : ∀ e ∈ strL, (e.1 == 2) = false := by decide +kernel
        rw [q e he]; simp
      rw [this]; rfl
    rw [h9] at hs
    cases hs
  unfold roF updP roP
  rw [if_neg (fun q => h2 q.1), if_neg (fun q => h2 q.1)]
  exact h a j hs
theorem con_forgetFirst (hS : Str σ.2.1) {pi : Nat → Nat} (hp : Pap σ.2.1 pi) {dn : Int} (hd : σ.1 1 1 = dn) (hdn : 0 ≤ dn ∧ dn < 1000) : Con 0 mX5_forgetFirst 0 0 [vA 1] σ (vT 8 0, P1 (σ.1, roF σ.2.1, σ.2.2) 1 1 (dn - 1)) := by
  have hp0 : σ.2.1 1 0 = some 2 := (hS 1 0 rfl).trans rfl
  have h0 := (hp.1 0 (by omega)).1
  have hg : ∀ j, j < 7 → Gam (3 + 10 * pi j) = (14, 0) := fun j hj => (gamk _ (by have := (hp.1 j hj).2; omega)).1
  have lp : ∀ (m : Nat) (b : Nat × Nat) (t : Int), 0 ≤ t → t + m = 6 → Go (fun _ => 0) 0 mX5_forgetFirst b 9 [vA 1, vA (3 + 10 * pi 0), vI t] [] (σ.1, roP σ.2.1 t.toNat, σ.2.2) (vT 8 0, P1 (σ.1, roF σ.2.1, σ.2.2) 1 1 (dn - 1)) := by
    intro m
    induction m with
    | zero =>
      intro b t ht0 ht
      obtain rfl : t = 6 := by omega
      have hp0' : (roP σ.2.1 6) 1 0 = some 2 := (if_neg (by omega)).trans hp0
      refine go_iload_n (at_of tX5_forgetFirst 0 7 rfl) rfl ?_
      refine go_bipush (at_of tX5_forgetFirst 0 8 rfl) (by decide) ?_
      refine go_icmp_ge (tgt := 35) (at_of tX5_forgetFirst 0 9 rfl) (by decide) (fun h12 => ?_) (fun h12 => ?_)
      rotate_left
      · exfalso; omega
      refine go_aload_n (at_of tX5_forgetFirst 1 6 rfl) rfl ?_
      refine go_getr fl_X5_11 rfl g1_ hp0' (at_of tX5_forgetFirst 1 7 rfl) ?_
      refine go_bipush (at_of tX5_forgetFirst 1 8 rfl) (by decide) ?_
      refine go_aload_n (at_of tX5_forgetFirst 1 9 rfl) rfl ?_
      refine go_aast (ci := 0) g2_ (by omega) (by omega) (hg 0 (by omega)) (at_of tX5_forgetFirst 1 10 rfl) ?_
      refine go_aload_n (at_of tX5_forgetFirst 1 11 rfl) rfl ?_
      refine go_dup (at_of tX5_forgetFirst 1 12 rfl) rfl ?_
      refine go_getf fl_X5_17 rfl g1_ (at_of tX5_forgetFirst 1 13 rfl) ?_
      refine go_iconst (at_of tX5_forgetFirst 1 14 rfl) (by unfold in32; omega) ?_
      rw [hd]
      refine go_isub (at_of tX5_forgetFirst 1 15 rfl) (by unfold in32; omega) ?_
      refine go_put1 fp_X5_17 rfl (Or.inl rfl) g1_ (Or.inl rfl) (at_of tX5_forgetFirst 2 0 rfl) ?_
      exact go_retv (at_of tX5_forgetFirst 2 1 rfl) (by unfold roF; rw [h0]; rfl)
    | succ m ih =>
      intro b t ht0 ht
      have hp0' : (roP σ.2.1 t.toNat) 1 0 = some 2 := (if_neg (by omega)).trans hp0
      have hq := (hp.1 (t + 1).toNat (by omega)).1
      have hq' : (roP σ.2.1 t.toNat) 2 (t + 1).toNat = some (3 + 10 * pi (t + 1).toNat) := (if_neg (by omega)).trans hq
      have e9 : (t + 1).toNat = t.toNat + 1 := by omega
      refine go_iload_n (at_of tX5_forgetFirst 0 7 rfl) rfl ?_
      refine go_bipush (at_of tX5_forgetFirst 0 8 rfl) (by decide) ?_
      refine go_icmp_ge (tgt := 35) (at_of tX5_forgetFirst 0 9 rfl) (by decide) (fun h12 => ?_) (fun h12 => ?_)
      · exfalso; omega
      refine go_aload_n (at_of tX5_forgetFirst 0 10 rfl) rfl ?_
      refine go_getr fl_X5_11 rfl g1_ hp0' (at_of tX5_forgetFirst 0 11 rfl) ?_
      refine go_iload_n (at_of tX5_forgetFirst 0 12 rfl) rfl ?_
      refine go_aload_n (at_of tX5_forgetFirst 0 13 rfl) rfl ?_
      refine go_getr fl_X5_11 rfl g1_ hp0' (at_of tX5_forgetFirst 0 14 rfl) ?_
      refine go_iload_n (at_of tX5_forgetFirst 0 15 rfl) rfl ?_
      refine go_iconst (at_of tX5_forgetFirst 1 0 rfl) (by unfold in32; omega) ?_
      refine go_iadd (at_of tX5_forgetFirst 1 1 rfl) (by unfold in32; omega) ?_
      refine go_aald g2_ (by omega) (by omega) hq' (at_of tX5_forgetFirst 1 2 rfl) ?_
      refine go_aast (ci := 0) g2_ (by omega) (by omega) (hg _ (by omega)) (at_of tX5_forgetFirst 1 3 rfl) ?_
      rw [show (σ.1, updP (roP σ.2.1 t.toNat) 2 t.toNat (some (3 + 10 * pi (t + 1).toNat)), σ.2.2) = ((σ.1, roP σ.2.1 (t + 1).toNat, σ.2.2) : St) from by rw [e9] at hq ⊢; rw [roP_s hq]]
      refine go_iinc (at_of tX5_forgetFirst 1 4 rfl) rfl (by unfold in32; omega) rfl rfl ?_
      refine go_goto (tgt := 9) (at_of tX5_forgetFirst 1 5 rfl) (by decide) ?_
      exact ih _ _ (by omega) (by omega)
  refine con_of_go mfX5_forgetFirst.1 trivial (Nat.le_of_ble_eq_true rfl) rfl (by decide) ?_
  show Go _ _ _ _ 0 [vA _, vT 9 0, vT 9 0] [] _ _
  refine go_aload_n (at_of tX5_forgetFirst 0 0 rfl) rfl ?_
  refine go_getr fl_X5_11 rfl g1_ hp0 (at_of tX5_forgetFirst 0 1 rfl) ?_
  refine go_iconst (at_of tX5_forgetFirst 0 2 rfl) (by unfold in32; omega) ?_
  refine go_aald g2_ (by omega) (by omega) h0 (at_of tX5_forgetFirst 0 3 rfl) ?_
  refine go_astore_n (at_of tX5_forgetFirst 0 4 rfl) rfl rfl ?_
  refine go_iconst (at_of tX5_forgetFirst 0 5 rfl) (by unfold in32; omega) ?_
  refine go_istore_n (at_of tX5_forgetFirst 0 6 rfl) rfl rfl ?_
  have q := lp 6 (0, 0) 0 (by omega) (by omega)
  rw [show roP σ.2.1 (0 : Int).toNat = σ.2.1 from by funext a j; exact if_neg (by omega)] at q
  exact q
/-- what begin does to the papers -/
def begA (A : PastD) : PastD := if A.2.1 = 6 then (fun j => if j < 6 then A.1 (j + 1) else A.1 6, 6, 0) else (fun j => if j = A.2.1 + 1 then A.1 A.2.1 else A.1 j, A.2.1 + 1, 0)
def edA (A : PastD) (D : PapD) : PastD := (fun j => if j = A.2.1 then D else A.1 j, A.2)
theorem past_edit {σ' : St} {pi : Nat → Nat} {A : PastD} {D : PapD} (h : PastR σ pi A) (hD : RepP σ' (pi A.2.1) D) (hF : Frm σ σ' (4 + 10 * pi A.2.1) (12 + 10 * pi A.2.1)) : PastR σ' pi (edA A D) := by
  obtain ⟨hp, hd, hu, hle, hrep⟩ := h
  refine ⟨by rw [hF.1]; exact hp, by rw [hF.2 1 (by omega)]; exact hd, by rw [hF.2 1 (by omega)]; exact hu, hle, fun j hj => ?_⟩
  have hj : j ≤ A.2.1 + A.2.2 := hj
  show RepP σ' (pi j) (if j = A.2.1 then D else A.1 j)
  by_cases e : j = A.2.1
  · rw [if_pos e, e]; exact hD
  · rw [if_neg e]
    have hne : pi j ≠ pi A.2.1 := fun q => e (hp.2 j A.2.1 (by omega) (by omega) q)
    exact (hrep j hj).frm hF (by omega)
theorem past_frm {σ' : St} {pi : Nat → Nat} {A : PastD} (h : PastR σ pi A) {lo hi : Nat} (hF : Frm σ σ' lo hi) (hl : 72 < lo) : PastR σ' pi A := by
  obtain ⟨hp, hd, hu, hle, hrep⟩ := h
  refine ⟨by rw [hF.1]; exact hp, by rw [hF.2 1 (by omega)]; exact hd, by rw [hF.2 1 (by omega)]; exact hu, hle, fun j hj => (hrep j hj).frm hF ?_⟩
  have := (hp.1 j (by omega)).2
  omega
theorem con_begin (hS : Str σ.2.1) {pi : Nat → Nat} {A : PastD} (hA : PastR σ pi A) : ∃ σ' pi', Con 2 mX5_begin 0 0 [vA 1] σ (vA (3 + 10 * pi' (begA A).2.1), σ') ∧ PastR σ' pi' (begA A) ∧ Str σ'.2.1 ∧ σ'.2.2 = σ.2.2 ∧ FrM σ σ' 1 72 ∧ FrQ σ σ' := by
  obtain ⟨hp, hd, hu, hle, hrep⟩ := id hA
  have hp0 : σ.2.1 1 0 = some 2 := (hS 1 0 rfl).trans rfl
  unfold begA
  by_cases h6 : A.2.1 = 6
  · rw [if_pos h6]
    have hk1 := (hp.1 0 (by omega)).2
    have hk2 := (hp.1 6 (by omega)).2
    have hne : pi 0 ≠ pi 6 := fun q => by have := hp.2 0 6 (by omega) (by omega) q; omega
    have hS1 : Str (roF σ.2.1) := str_ro hS
    have hp1 := pap_ro hp
    have hd1 : (σ.1 1 1 : Int) = 6 := by rw [hd, h6]; rfl
    let τ : St := P1 (P1 (P1 (σ.1, roF σ.2.1, σ.2.2) 1 1 (6 - 1)) 1 1 6) 1 2 0
    have ft : FrM σ τ 1 1 := fun a h j => by show (P1 _ 1 2 0).1 a j = _; rw [P1_ne (by omega), P1_ne (by omega), P1_ne (by omega)]
    have t1 : τ.1 1 1 = 6 := by show (P1 _ 1 2 0).1 1 1 = _; rw [P1_nj (by decide), P1_eq]
    have t2 : τ.1 1 2 = 0 := P1_eq
    have hrt : ∀ j, j ≤ 6 → RepP τ (pi j) (A.1 j) := fun j hj => (hrep j (by omega)).frM ft (by omega)
    have hAt : PastR τ (pi1 pi) (fun j => A.1 (j + 1), 5, 0) → True := fun _ => trivial
    refine ⟨tkS τ (pi 0) (pi 6), pi1 pi, ?_, ⟨hp1, ?_, ?_, Nat.le_refl _, fun j hj => ?_⟩, hS1, rfl, ?_, fun a h j => (if_neg (fun q => h q.1)).trans (if_neg (fun q => h q.1))⟩
    · have hnow : Con 1 mX5_now 0 0 [vA 1] τ (vA (3 + 10 * pi 0), τ) := by
        have q := (hp1.1 6 (by omega)).1
        have e : pi1 pi 6 = pi 0 := rfl
        rw [e] at q
        have hp0' : τ.2.1 1 0 = some 2 := (hS1 1 0 rfl).trans rfl
        refine con_of_go mfX5_now.1 trivial (Nat.le_of_ble_eq_true rfl) rfl (by decide) ?_
        show Go _ _ _ _ 0 [vA _] [] _ _
        refine go_aload_n (at_of tX5_now 0 0 rfl) rfl ?_
        refine go_getr fl_X5_11 rfl g1_ hp0' (at_of tX5_now 0 1 rfl) ?_
        refine go_aload_n (at_of tX5_now 0 2 rfl) rfl ?_
        refine go_getf fl_X5_17 rfl g1_ (at_of tX5_now 0 3 rfl) ?_
        refine go_aload_n (at_of tX5_now 0 4 rfl) rfl ?_
        refine go_getr fl_X5_11 rfl g1_ hp0' (at_of tX5_now 0 5 rfl) ?_
        refine go_alen g2_ (by omega) (by omega) (at_of tX5_now 0 6 rfl) ?_
        refine go_cN (con_isWithin) lk_X5_25 rfl (at_of tX5_now 0 7 rfl) rfl (by decide) rfl (Nat.le_of_ble_eq_true rfl) rfl (by first | decide | exact ⟨Nat.zero_le _, Nat.zero_le _⟩) ?_
        refine go_if_eq (tgt := 26) (at_of tX5_now 0 8 rfl) (by decide) (fun h16 => ?_) (fun h16 => ?_)
        · exfalso; rw [t1] at h16; exact bI_0.mp h16 (by omega)
        refine go_aload_n (at_of tX5_now 0 9 rfl) rfl ?_
        refine go_getf fl_X5_17 rfl g1_ (at_of tX5_now 0 10 rfl) ?_
        refine go_goto (tgt := 27) (at_of tX5_now 0 11 rfl) (by decide) ?_
        rw [t1]
        refine go_aald g2_ (by omega) (by omega) q (at_of tX5_now 0 13 rfl) ?_
        exact go_reta (at_of tX5_now 0 14 rfl) rfl
      refine con_of_go mfX5_begin.1 trivial (Nat.le_of_ble_eq_true rfl) rfl (by decide) ?_
      show Go _ _ _ _ 0 [vA _, vT 9 0, vT 9 0] [] _ _
      refine go_aload_n (at_of tX5_begin 0 0 rfl) rfl ?_
      refine go_cV (con_now hS hA) lk_X5_29 rfl g1_ (at_of tX5_begin 0 1 rfl) rfl (by decide) rfl (Nat.le_of_ble_eq_true rfl) rfl (by first | decide | exact ⟨Nat.zero_le _, Nat.zero_le _⟩) ?_
      refine go_astore_n (at_of tX5_begin 0 2 rfl) rfl rfl ?_
      refine go_aload_n (at_of tX5_begin 0 3 rfl) rfl ?_
      refine go_getf fl_X5_17 rfl g1_ (at_of tX5_begin 0 4 rfl) ?_
      refine go_bipush (at_of tX5_begin 0 5 rfl) (by decide) ?_
      refine go_icmp_lt (tgt := 18) (at_of tX5_begin 0 6 rfl) (by decide) (fun h11 => ?_) (fun h11 => ?_)
      · exfalso; omega
      refine go_aload_n (at_of tX5_begin 0 7 rfl) rfl ?_
      refine go_cV (con_forgetFirst hS hp hd1 (by omega)) lk_X5_33 rfl g1_ (at_of tX5_begin 0 8 rfl) rfl (by decide) rfl (Nat.le_of_ble_eq_true rfl) rfl (by first | decide | exact ⟨Nat.zero_le _, Nat.zero_le _⟩) ?_
      refine go_aload_n (at_of tX5_begin 0 9 rfl) rfl ?_
      refine go_dup (at_of tX5_begin 0 10 rfl) rfl ?_
      refine go_getf fl_X5_17 rfl g1_ (at_of tX5_begin 0 11 rfl) ?_
      rw [P1_eq]
      refine go_iconst (at_of tX5_begin 0 12 rfl) (by unfold in32; omega) ?_
      refine go_iadd (at_of tX5_begin 0 13 rfl) (by unfold in32; omega) ?_
      refine go_put1 fp_X5_17 rfl (Or.inl rfl) g1_ (Or.inl rfl) (at_of tX5_begin 0 14 rfl) ?_
      refine go_aload_n (at_of tX5_begin 0 15 rfl) rfl ?_
      refine go_iconst (at_of tX5_begin 1 0 rfl) (by unfold in32; omega) ?_
      refine go_put1 fp_X5_21 rfl (Or.inl rfl) g1_ (Or.inl rfl) (at_of tX5_begin 1 1 rfl) ?_
      refine go_aload_n (at_of tX5_begin 1 2 rfl) rfl ?_
      refine go_cV (hnow) lk_X5_29 rfl g1_ (at_of tX5_begin 1 3 rfl) rfl (by decide) rfl (Nat.le_of_ble_eq_true rfl) rfl (by first | decide | exact ⟨Nat.zero_le _, Nat.zero_le _⟩) ?_
      refine go_astore_n (at_of tX5_begin 1 4 rfl) rfl rfl ?_
      refine go_aload_n (at_of tX5_begin 1 5 rfl) rfl ?_
      refine go_aload_n (at_of tX5_begin 1 6 rfl) rfl ?_
      rw [h6]
      refine go_cV (con_takeFrom (by exact hS1) (by omega) (by omega) hne) lk_X5_36 rfl (gamk (pi 0) (by omega)).1 (at_of tX5_begin 1 7 rfl) rfl (by decide) rfl (Nat.le_of_ble_eq_true rfl) rfl (by first | decide | exact ⟨Nat.zero_le _, Nat.zero_le _⟩) ?_
      refine go_aload_n (at_of tX5_begin 1 8 rfl) rfl ?_
      exact go_reta (at_of tX5_begin 1 9 rfl) rfl
    · rw [tkS_frm.2 1 (by omega)]; exact t1
    · rw [tkS_frm.2 1 (by omega)]; exact t2
    · show RepP _ (pi1 pi j) (if j < 6 then A.1 (j + 1) else A.1 6)
      have hj : j ≤ 6 := hj
      by_cases hj6 : j < 6
      · rw [if_pos hj6, show pi1 pi j = pi (j + 1) from if_pos hj6]
        have hne : pi (j + 1) ≠ pi 0 := fun q => by have := hp.2 (j + 1) 0 (by omega) (by omega) q; omega
        exact (hrt (j + 1) (by omega)).frm tkS_frm (by omega)
      · rw [if_neg hj6, show pi1 pi j = pi 0 from if_neg hj6]
        exact rep_tkS hne (hrt 6 (by omega))
    · intro a h j
      rw [tkS_frm.2 a (by omega)]
      exact ft a (by omega) j
  · rw [if_neg h6]
    have hk1 := (hp.1 (A.2.1 + 1) (by omega)).2
    have hk2 := (hp.1 A.2.1 (by omega)).2
    have hne : pi (A.2.1 + 1) ≠ pi A.2.1 := fun q => by have := hp.2 _ _ (by omega) (by omega) q; omega
    let τ : St := P1 (P1 σ 1 1 (A.2.1 + 1)) 1 2 0
    have ft : Frm σ τ 1 1 := (P1_frm (by omega)).trans (P1_frm (by omega))
    have t1 : τ.1 1 1 = A.2.1 + 1 := by show (P1 _ 1 2 0).1 1 1 = _; rw [P1_nj (by decide), P1_eq]
    have t2 : τ.1 1 2 = 0 := P1_eq
    have hrt : ∀ j, j ≤ A.2.1 → RepP τ (pi j) (A.1 j) := fun j hj => (hrep j (by omega)).frm ft (by omega)
    refine ⟨tkS τ (pi (A.2.1 + 1)) (pi A.2.1), pi, ?_, ⟨hp, ?_, ?_, by show A.2.1 + 1 + 0 ≤ 6; omega, fun j hj => ?_⟩, hS, rfl, ?_, fun a h j => rfl⟩
    · have hnow : Con 1 mX5_now 0 0 [vA 1] τ (vA (3 + 10 * pi (A.2.1 + 1)), τ) := by
        have q := (hp.1 (A.2.1 + 1) (by omega)).1
        have hp0' : τ.2.1 1 0 = some 2 := hp0
        refine con_of_go mfX5_now.1 trivial (Nat.le_of_ble_eq_true rfl) rfl (by decide) ?_
        show Go _ _ _ _ 0 [vA _] [] _ _
        refine go_aload_n (at_of tX5_now 0 0 rfl) rfl ?_
        refine go_getr fl_X5_11 rfl g1_ hp0' (at_of tX5_now 0 1 rfl) ?_
        refine go_aload_n (at_of tX5_now 0 2 rfl) rfl ?_
        refine go_getf fl_X5_17 rfl g1_ (at_of tX5_now 0 3 rfl) ?_
        refine go_aload_n (at_of tX5_now 0 4 rfl) rfl ?_
        refine go_getr fl_X5_11 rfl g1_ hp0' (at_of tX5_now 0 5 rfl) ?_
        refine go_alen g2_ (by omega) (by omega) (at_of tX5_now 0 6 rfl) ?_
        refine go_cN (con_isWithin) lk_X5_25 rfl (at_of tX5_now 0 7 rfl) rfl (by decide) rfl (Nat.le_of_ble_eq_true rfl) rfl (by first | decide | exact ⟨Nat.zero_le _, Nat.zero_le _⟩) ?_
        refine go_if_eq (tgt := 26) (at_of tX5_now 0 8 rfl) (by decide) (fun h16 => ?_) (fun h16 => ?_)
        · exfalso; rw [t1] at h16; exact bI_0.mp h16 (by omega)
        refine go_aload_n (at_of tX5_now 0 9 rfl) rfl ?_
        refine go_getf fl_X5_17 rfl g1_ (at_of tX5_now 0 10 rfl) ?_
        refine go_goto (tgt := 27) (at_of tX5_now 0 11 rfl) (by decide) ?_
        rw [t1]
        refine go_aald g2_ (by omega) (by omega) (by rw [show ((A.2.1 : Int) + 1).toNat = A.2.1 + 1 by omega]; exact q) (at_of tX5_now 0 13 rfl) ?_
        exact go_reta (at_of tX5_now 0 14 rfl) rfl
      refine con_of_go mfX5_begin.1 trivial (Nat.le_of_ble_eq_true rfl) rfl (by decide) ?_
      show Go _ _ _ _ 0 [vA _, vT 9 0, vT 9 0] [] _ _
      refine go_aload_n (at_of tX5_begin 0 0 rfl) rfl ?_
      refine go_cV (con_now hS hA) lk_X5_29 rfl g1_ (at_of tX5_begin 0 1 rfl) rfl (by decide) rfl (Nat.le_of_ble_eq_true rfl) rfl (by first | decide | exact ⟨Nat.zero_le _, Nat.zero_le _⟩) ?_
      refine go_astore_n (at_of tX5_begin 0 2 rfl) rfl rfl ?_
      refine go_aload_n (at_of tX5_begin 0 3 rfl) rfl ?_
      refine go_getf fl_X5_17 rfl g1_ (at_of tX5_begin 0 4 rfl) ?_
      refine go_bipush (at_of tX5_begin 0 5 rfl) (by decide) ?_
      refine go_icmp_lt (tgt := 18) (at_of tX5_begin 0 6 rfl) (by decide) (fun h11 => ?_) (fun h11 => ?_)
      rotate_left
      · exfalso; omega
      refine go_aload_n (at_of tX5_begin 0 9 rfl) rfl ?_
      refine go_dup (at_of tX5_begin 0 10 rfl) rfl ?_
      refine go_getf fl_X5_17 rfl g1_ (at_of tX5_begin 0 11 rfl) ?_
      rw [hd]
      refine go_iconst (at_of tX5_begin 0 12 rfl) (by unfold in32; omega) ?_
      refine go_iadd (at_of tX5_begin 0 13 rfl) (by unfold in32; omega) ?_
      refine go_put1 fp_X5_17 rfl (Or.inl rfl) g1_ (Or.inl rfl) (at_of tX5_begin 0 14 rfl) ?_
      refine go_aload_n (at_of tX5_begin 0 15 rfl) rfl ?_
      refine go_iconst (at_of tX5_begin 1 0 rfl) (by unfold in32; omega) ?_
      refine go_put1 fp_X5_21 rfl (Or.inl rfl) g1_ (Or.inl rfl) (at_of tX5_begin 1 1 rfl) ?_
      refine go_aload_n (at_of tX5_begin 1 2 rfl) rfl ?_
      refine go_cV (hnow) lk_X5_29 rfl g1_ (at_of tX5_begin 1 3 rfl) rfl (by decide) rfl (Nat.le_of_ble_eq_true rfl) rfl (by first | decide | exact ⟨Nat.zero_le _, Nat.zero_le _⟩) ?_
      refine go_astore_n (at_of tX5_begin 1 4 rfl) rfl rfl ?_
      refine go_aload_n (at_of tX5_begin 1 5 rfl) rfl ?_
      refine go_aload_n (at_of tX5_begin 1 6 rfl) rfl ?_
      refine go_cV (con_takeFrom (by exact hS) (by omega) (by omega) hne) lk_X5_36 rfl (gamk (pi (A.2.1 + 1)) (by omega)).1 (at_of tX5_begin 1 7 rfl) rfl (by decide) rfl (Nat.le_of_ble_eq_true rfl) rfl (by first | decide | exact ⟨Nat.zero_le _, Nat.zero_le _⟩) ?_
      refine go_aload_n (at_of tX5_begin 1 8 rfl) rfl ?_
      exact go_reta (at_of tX5_begin 1 9 rfl) rfl
    · rw [tkS_frm.2 1 (by omega)]; exact t1
    · rw [tkS_frm.2 1 (by omega)]; exact t2
    · show RepP _ (pi j) (if j = A.2.1 + 1 then A.1 A.2.1 else A.1 j)
      have hj : j ≤ A.2.1 + 1 + 0 := hj
      by_cases hj6 : j = A.2.1 + 1
      · rw [if_pos hj6, hj6]
        exact rep_tkS hne (hrt A.2.1 (by omega))
      · rw [if_neg hj6]
        have hne : pi j ≠ pi (A.2.1 + 1) := fun q => by have := hp.2 _ _ (by omega) (by omega) q; omega
        exact (hrt j (by omega)).frm tkS_frm (by omega)
    · intro a h j
      rw [tkS_frm.2 a (by omega)]
      exact ft.2 a (by omega) j
end Begin
