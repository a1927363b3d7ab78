section Papers
variable {σ : St} {k : Nat}
/-- a log: how many changes, kinds, authors, states; a paper: row, log, results -/
abbrev LogD : Type := Int × (Int → Int) × (Int → Int) × (Int → Int)
abbrev PapD : Type := RowD × LogD × (Int → Int)
def updZ (f : Int → Int) (i z : Int) : Int → Int := fun j => if j = i then z else f j
def LogW (L : LogD) : Prop := 0 ≤ L.1 ∧ L.1 ≤ 60 ∧ ∀ c, 0 ≤ c → c < L.1 → L.2.1 c = 105 ∨ L.2.1 c = 101 ∨ L.2.1 c = 115
def RepL (σ : St) (k : Nat) (L : LogD) : Prop := σ.1 (8 + 10 * k) 3 = L.1 ∧ (∀ c, 0 ≤ c → c < L.1 → σ.1 (9 + 10 * k) c.toNat = L.2.1 c ∧ σ.1 (10 + 10 * k) c.toNat = L.2.2.1 c ∧ σ.1 (11 + 10 * k) c.toNat = L.2.2.2 c) ∧ LogU σ k ∧ LogW L
def RepP (σ : St) (k : Nat) (D : PapD) : Prop := RepR σ k D.1 ∧ RepL σ k D.2.1 ∧ ∀ c, 0 ≤ c → c < 20 → σ.1 (12 + 10 * k) c.toNat = D.2.2 c
def enrL (L : LogD) (kd au : Int) : LogD := (L.1 + 1, updZ L.2.1 L.1 kd, updZ L.2.2.1 L.1 au, updZ L.2.2.2 L.1 119)
def sstL (L : LogD) (c z : Int) : LogD := (L.1, L.2.1, L.2.2.1, updZ L.2.2.2 c z)
theorem RepL.frm {σ' : St} {L : LogD} (h : RepL σ k L) {lo hi : Nat} (hF : Frm σ σ' lo hi) (hd : 11 + 10 * k < lo ∨ hi < 8 + 10 * k) : RepL σ' k L := by
  obtain ⟨h1, h2, ⟨u1, u2, u3, u4⟩, h4⟩ := h
  refine ⟨(hF.2 _ (by omega) _).trans h1, fun c a b => ?_, ⟨?_, ?_, fun j hj => ?_, fun j hj => ?_⟩, h4⟩
  · rw [hF.2 _ (by omega), hF.2 _ (by omega), hF.2 _ (by omega)]; exact h2 c a b
  · rw [hF.2 _ (by omega)]; exact u1
  · rw [hF.2 _ (by omega)]; exact u2
  · rw [hF.2 _ (by omega)]; exact u3 j hj
  · rw [hF.2 _ (by omega)]; exact u4 j hj
theorem rep_enr {L : LogD} (h : RepL σ k L) (hn : L.1 < 60) {kd au : Int} (hk : kd = 105 ∨ kd = 101 ∨ kd = 115) : RepL (enr σ k kd au) k (enrL L kd au) ∧ Frm σ (enr σ k kd au) (8 + 10 * k) (11 + 10 * k) := by
  obtain ⟨h1, h2, ⟨u1, u2, u3, u4⟩, w1, w2, w3⟩ := h
  have e1 : ∀ j, (enr σ k kd au).1 (9 + 10 * k) j = if j = L.1.toNat then kd else σ.1 (9 + 10 * k) j := by
    intro j
    unfold enr
    rw [P1_ne (by omega), M1_ne (by omega), M1_ne (by omega), h1]
    by_cases hj : j = L.1.toNat
    · rw [if_pos hj, M1_eq hj]
    · rw [if_neg hj, M1_nj hj]
  have e2 : ∀ j, (enr σ k kd au).1 (10 + 10 * k) j = if j = L.1.toNat then au else σ.1 (10 + 10 * k) j := by
    intro j
    unfold enr
    rw [P1_ne (by omega), M1_ne (by omega), h1]
    by_cases hj : j = L.1.toNat
    · rw [if_pos hj, M1_eq hj]
    · rw [if_neg hj, M1_nj hj, M1_ne (by omega)]
  have e3 : ∀ j, (enr σ k kd au).1 (11 + 10 * k) j = if j = L.1.toNat then 119 else σ.1 (11 + 10 * k) j := by
    intro j
    unfold enr
    rw [P1_ne (by omega), h1]
    by_cases hj : j = L.1.toNat
    · rw [if_pos hj, M1_eq hj]
    · rw [if_neg hj, M1_nj hj, M1_ne (by omega), M1_ne (by omega)]
  have e4 : (enr σ k kd au).1 (8 + 10 * k) 3 = L.1 + 1 := by unfold enr; rw [P1_eq, h1]
  refine ⟨⟨e4, fun c a b => ?_, ⟨by rw [e4]; omega, by rw [e4]; omega, fun j hj => ?_, fun j hj => ?_⟩, by show 0 ≤ L.1 + 1; omega, by show L.1 + 1 ≤ 60; omega, fun c a b => ?_⟩, rfl, fun a ha j => ?_⟩
  · have b : c < L.1 + 1 := b
    rw [e1, e2, e3]
    dsimp only [enrL, updZ]
    by_cases hc : c = L.1
    · subst hc; simp
    · have hne : ¬ (c.toNat = L.1.toNat) := by omega
      simp only [hne, hc, if_false]; exact h2 c a (by omega)
  · rw [e1]; split
    · omega
    · exact u3 j hj
  · rw [e3]; split
    · omega
    · exact u4 j hj
  · have b : c < L.1 + 1 := b
    dsimp only [enrL, updZ]
    split
    · exact hk
    · exact w3 c a (by omega)
  · unfold enr
    rw [P1_ne (by omega), M1_ne (by omega), M1_ne (by omega), M1_ne (by omega)]
theorem rep_sst {L : LogD} (h : RepL σ k L) {c z : Int} (hc : 0 ≤ c ∧ c < L.1) (hz : 0 ≤ z ∧ z < 65536) : RepL (M1 σ (11 + 10 * k) c z) k (sstL L c z) := by
  obtain ⟨h1, h2, ⟨u1, u2, u3, u4⟩, w1, w2, w3⟩ := h
  refine ⟨by rw [M1_ne (by omega)]; exact h1, fun c' a b => ?_, ⟨by rw [M1_ne (by omega)]; exact u1, by rw [M1_ne (by omega)]; exact u2, fun j hj => by rw [M1_ne (by omega)]; exact u3 j hj, fun j hj => ?_⟩, w1, w2, w3⟩
  · have b : c' < L.1 := b
    have q := h2 c' a b
    rw [M1_ne (by omega), M1_ne (by omega)]
    refine ⟨q.1, q.2.1, ?_⟩
    dsimp only [sstL, updZ]
    by_cases hcc : c' = c
    · subst hcc; rw [M1_eq rfl, if_pos rfl]
    · rw [M1_nj (by omega), if_neg hcc]; exact q.2.2
  · by_cases hcc : j = c.toNat
    · rw [M1_eq hcc]; exact hz
    · rw [M1_nj hcc]; exact u4 j hj
def waitsD (L : LogD) (c a : Int) : Bool := decide (0 ≤ c ∧ c < L.1 ∧ L.2.2.2 c = 119 ∧ L.2.2.1 c = a)
theorem RepL.waits {L : LogD} (h : RepL σ k L) {c a : Int} : waitsB σ k c a = waitsD L c a := by
  obtain ⟨h1, h2, -⟩ := h
  unfold waitsB waitsD
  rw [h1]
  by_cases q : 0 ≤ c ∧ c < L.1
  · rw [(h2 c q.1 q.2).2.1, (h2 c q.1 q.2).2.2]
  · rw [decide_eq_false (fun x => q ⟨x.1, x.2.1⟩), decide_eq_false (fun x => q ⟨x.1, x.2.1⟩)]
def chAhD (D : PapD) (a i : Int) : Int := if 0 < i ∧ waitsD D.2.1 (D.1.1 2 (i - 1)) a = true then D.1.1 2 (i - 1) else -1
def othD (D : PapD) (a i : Int) : Bool := seenB D.1.1 D.1.2.1 i && !(waitsD D.2.1 (D.1.1 2 i) a)
theorem RepP.chAhE {D : PapD} (h : RepP σ k D) {a i : Int} (hi : 0 ≤ i ∧ i ≤ D.1.2.1) : chAh σ k a i = chAhD D a i := by
  unfold chAh chAhD
  by_cases q : 0 < i
  · rw [h.1.2.1 2 (i - 1) (by omega) (by omega) (by omega) (by omega), h.2.1.waits]
  · rw [if_neg (fun x => q x.1), if_neg (fun x => q x.1)]
theorem RepP.othE {D : PapD} (h : RepP σ k D) {a i : Int} (hi : 0 ≤ i ∧ i ≤ D.1.2.1) : othB σ k a i = othD D a i := by
  unfold othB othD
  rw [h.1.2.1 2 i (by omega) (by omega) (by omega) (by omega), h.2.1.waits, h.1.1, h.1.eqF.seen i]
theorem RepP.frm {σ' : St} {D : PapD} (h : RepP σ k D) {lo hi : Nat} (hF : Frm σ σ' lo hi) (hd : 12 + 10 * k < lo ∨ hi < 4 + 10 * k) : RepP σ' k D :=
  ⟨h.1.frm hF (by omega), h.2.1.frm hF (by omega), fun c a b => by rw [hF.2 _ (by omega)]; exact h.2.2 c a b⟩
theorem RepP.row {σ' : St} {D : PapD} {R : RowD} (h : RepP σ k D) (hF : Frm σ σ' (4 + 10 * k) (7 + 10 * k)) (hR : RepR σ' k R) : RepP σ' k (R, D.2) :=
  ⟨hR, h.2.1.frm hF (by omega), fun c a b => by rw [hF.2 _ (by omega)]; exact h.2.2 c a b⟩
theorem RepP.log {σ' : St} {D : PapD} {L : LogD} (h : RepP σ k D) (hF : Frm σ σ' (8 + 10 * k) (11 + 10 * k)) (hL : RepL σ' k L) : RepP σ' k (D.1, L, D.2.2) :=
  ⟨h.1.frm hF (by omega), hL, fun c a b => by rw [hF.2 _ (by omega)]; exact h.2.2 c a b⟩
/-- one unit struck: its author's own go, the others' are marked -/
def stkF (L : LogD) (a c : Int) (R : RowD) (i : Int) : RowD := if seenB R.1 R.2.1 i = true then (if waitsD L (R.1 2 i) a = true then drpR R i else setR R 3 i c) else R
def needD (D : PapD) (a x y : Int) : Bool := anyF (othD D a) (y - x).toNat x
def stkL (D : PapD) (a x y : Int) : LogD := if needD D a x y = true then enrL D.2.1 101 a else D.2.1
def stkC (D : PapD) (a x y : Int) : Int := if needD D a x y = true then D.2.1.1 else -1
def strikeD (D : PapD) (a x y : Int) : PapD := (dnX (stkF (stkL D a x y) a (stkC D a x y)) (y - x).toNat (y - 1) D.1, stkL D a x y, D.2.2)
theorem lp_strike (hS : Str σ.2.1) (hk : k < 8) {D : PapD} (hD : RepP σ k D) {L : LogD} {a c x y : Int} (hx : 0 ≤ x) (hxy : x ≤ y) (hy : y ≤ D.1.2.1) (hc : -1 ≤ c ∧ c < 60) : ∃ σ', RepP σ' k (dnX (stkF D.2.1 a c) (y - x).toNat (y - 1) D.1, D.2) ∧ Frm σ σ' (4 + 10 * k) (7 + 10 * k) ∧ ∀ b out, (∀ b', Go (fun _ => 0) 5 mX4_strike b' 31 [vA (3 + 10 * k), vI a, vI x, vI y, vI c, vI (x - 1)] [] σ' out) → Go (fun _ => 0) 5 mX4_strike b 31 [vA (3 + 10 * k), vI a, vI x, vI y, vI c, vI (y - 1)] [] σ out := by
  have hn := hD.1.1
  obtain ⟨hw1, hw2, hw3⟩ := hD.1.2.2.2
  have key := loop_dn (Rep := fun σ' R i => RepP σ' k (R, D.2) ∧ Frm σ σ' (4 + 10 * k) (7 + 10 * k) ∧ -1 ≤ i ∧ i < R.2.1) (f := stkF D.2.1 a c) (lo := x)
    (G := fun b _ i σ out => Go (fun _ => 0) 5 mX4_strike b 31 [vA (3 + 10 * k), vI a, vI x, vI y, vI c, vI i] [] σ out) (fun σ R i h hlo => ?_) (y - x).toNat σ D.1 (y - 1) ⟨hD, Frm.refl, by omega, by omega⟩ (by omega)
  · obtain ⟨σ', ⟨q1, q2, -⟩, q3⟩ := key
    exact ⟨σ', q1, q2, q3⟩
  · obtain ⟨hP, hF, hi⟩ := h
    obtain ⟨g1, g2, g3, g4, g5, g6, g7, g8, g9, g10⟩ := gamk k hk
    have hS : Str σ.2.1 := by rw [hF.1]; exact hS
    obtain ⟨p1, p2, p3, p4, p5, p6, p7, p8, p9⟩ := strk hS k hk
    have hR := hP.1
    have hL := hP.2.1.2.2.1
    have hn := hR.1
    obtain ⟨hw1, hw2, hw3⟩ := hR.2.2.2
    dsimp only at hw1 hw2 hw3 hn
    have hv : seenB (fA σ (5 + 10 * k)) (σ.1 (4 + 10 * k) 3) i = seenB R.1 R.2.1 i := by rw [hn]; exact hR.eqF.seen i
    have hv2 := hR.2.1 2 i (by omega) (by omega) (by omega) (by show i ≤ R.2.1; omega)
    unfold stkF
    by_cases h1 : seenB R.1 R.2.1 i = true
    · rw [if_pos h1]
      by_cases h2 : waitsD D.2.1 (R.1 2 i) a = true
      · rw [if_pos h2]
        refine ⟨drS σ k i, ⟨hP.row dr_frm (rep_dr hR (by show 0 ≤ i ∧ i < R.2.1; omega)), hF.trans dr_frm, by omega, by show i - 1 < R.2.1 - 1; omega⟩, fun b out K => ?_⟩
        refine go_iload (at_of tX4_strike 1 2 rfl) rfl rfl ?_
        refine go_iload_n (at_of tX4_strike 1 3 rfl) rfl ?_
        refine go_icmp_lt (tgt := 94) (at_of tX4_strike 1 4 rfl) (by decide) (fun h34 => ?_) (fun h34 => ?_)
        · exfalso; omega
        refine go_iload (at_of tX4_strike 1 5 rfl) rfl rfl ?_
        refine go_if_lt (tgt := 94) (at_of tX4_strike 1 6 rfl) (by decide) (fun h39 => ?_) (fun h39 => ?_)
        · exfalso; omega
        refine go_aload_n (at_of tX4_strike 1 7 rfl) rfl ?_
        refine go_getr fl_X4_12 rfl (by first | rfl | assumption) (by first | assumption | exact p1 | exact p2 | exact p3 | exact p4 | exact p5 | exact p6) (at_of tX4_strike 1 8 rfl) ?_
        refine go_iload (at_of tX4_strike 1 9 rfl) rfl rfl ?_
        refine go_cV (con_isSeen (rowP (by exact hS) hk) hR.u) lk_X4_55 rfl (by first | rfl | assumption) (at_of tX4_strike 1 10 rfl) rfl (by decide) rfl (Nat.le_of_ble_eq_true rfl) rfl (by first | decide | exact ⟨Nat.zero_le _, Nat.zero_le _⟩) ?_
        refine go_if_eq (tgt := 88) (at_of tX4_strike 1 11 rfl) (by decide) (fun h51 => ?_) (fun h51 => ?_)
        · exfalso; rw [hv] at h51; exact bI_0.mp h51 h1
        refine go_aload_n (at_of tX4_strike 1 12 rfl) rfl ?_
        refine go_iload_n (at_of tX4_strike 1 13 rfl) rfl ?_
        refine go_iload (at_of tX4_strike 1 14 rfl) rfl rfl ?_
        refine go_cV (con_isOwn hS hk hL (by omega)) lk_X4_59 rfl (by first | rfl | assumption) (at_of tX4_strike 1 15 rfl) rfl (by decide) rfl (Nat.le_of_ble_eq_true rfl) rfl (by first | decide | exact ⟨Nat.zero_le _, Nat.zero_le _⟩) ?_
        refine go_if_eq (tgt := 76) (at_of tX4_strike 2 0 rfl) (by decide) (fun h61 => ?_) (fun h61 => ?_)
        · exfalso; rw [hv2, hP.2.1.waits] at h61; exact bI_0.mp h61 h2
        refine go_aload_n (at_of tX4_strike 2 1 rfl) rfl ?_
        refine go_getr fl_X4_12 rfl (by first | rfl | assumption) (by first | assumption | exact p1 | exact p2 | exact p3 | exact p4 | exact p5 | exact p6) (at_of tX4_strike 2 2 rfl) ?_
        refine go_iload (at_of tX4_strike 2 3 rfl) rfl rfl ?_
        refine go_cV (con_drop hS hk hR (by show 0 ≤ i ∧ i < R.2.1; omega)) lk_X4_70 rfl (by first | rfl | assumption) (at_of tX4_strike 2 4 rfl) rfl (by decide) rfl (Nat.le_of_ble_eq_true rfl) rfl (by first | decide | exact ⟨Nat.zero_le _, Nat.zero_le _⟩) ?_
        refine go_goto (tgt := 88) (at_of tX4_strike 2 5 rfl) (by decide) ?_
        refine go_iinc (at_of tX4_strike 2 12 rfl) rfl (by unfold in32; omega) rfl rfl ?_
        refine go_goto (tgt := 31) (at_of tX4_strike 2 13 rfl) (by decide) ?_
        exact K _
      · rw [if_neg h2]
        refine ⟨M1 σ (5 + 10 * k) (3 * 201 + i) c, ⟨hP.row (M1_frm (by omega)) (rep_set hR (by omega) (by show 0 ≤ i ∧ i ≤ R.2.1; omega)), hF.trans (M1_frm (by omega)), by omega, by show i - 1 < R.2.1; omega⟩, fun b out K => ?_⟩
        refine go_iload (at_of tX4_strike 1 2 rfl) rfl rfl ?_
        refine go_iload_n (at_of tX4_strike 1 3 rfl) rfl ?_
        refine go_icmp_lt (tgt := 94) (at_of tX4_strike 1 4 rfl) (by decide) (fun h34 => ?_) (fun h34 => ?_)
        · exfalso; omega
        refine go_iload (at_of tX4_strike 1 5 rfl) rfl rfl ?_
        refine go_if_lt (tgt := 94) (at_of tX4_strike 1 6 rfl) (by decide) (fun h39 => ?_) (fun h39 => ?_)
        · exfalso; omega
        refine go_aload_n (at_of tX4_strike 1 7 rfl) rfl ?_
        refine go_getr fl_X4_12 rfl (by first | rfl | assumption) (by first | assumption | exact p1 | exact p2 | exact p3 | exact p4 | exact p5 | exact p6) (at_of tX4_strike 1 8 rfl) ?_
        refine go_iload (at_of tX4_strike 1 9 rfl) rfl rfl ?_
        refine go_cV (con_isSeen (rowP (by exact hS) hk) hR.u) lk_X4_55 rfl (by first | rfl | assumption) (at_of tX4_strike 1 10 rfl) rfl (by decide) rfl (Nat.le_of_ble_eq_true rfl) rfl (by first | decide | exact ⟨Nat.zero_le _, Nat.zero_le _⟩) ?_
        refine go_if_eq (tgt := 88) (at_of tX4_strike 1 11 rfl) (by decide) (fun h51 => ?_) (fun h51 => ?_)
        · exfalso; rw [hv] at h51; exact bI_0.mp h51 h1
        refine go_aload_n (at_of tX4_strike 1 12 rfl) rfl ?_
        refine go_iload_n (at_of tX4_strike 1 13 rfl) rfl ?_
        refine go_iload (at_of tX4_strike 1 14 rfl) rfl rfl ?_
        refine go_cV (con_isOwn hS hk hL (by omega)) lk_X4_59 rfl (by first | rfl | assumption) (at_of tX4_strike 1 15 rfl) rfl (by decide) rfl (Nat.le_of_ble_eq_true rfl) rfl (by first | decide | exact ⟨Nat.zero_le _, Nat.zero_le _⟩) ?_
        refine go_if_eq (tgt := 76) (at_of tX4_strike 2 0 rfl) (by decide) (fun h61 => ?_) (fun h61 => ?_)
        rotate_left
        · exfalso; rw [hv2, hP.2.1.waits] at h61; exact h2 (bI_1.mp h61)
        refine go_aload_n (at_of tX4_strike 2 6 rfl) rfl ?_
        refine go_getr fl_X4_12 rfl (by first | rfl | assumption) (by first | assumption | exact p1 | exact p2 | exact p3 | exact p4 | exact p5 | exact p6) (at_of tX4_strike 2 7 rfl) ?_
        refine go_iconst (at_of tX4_strike 2 8 rfl) (by unfold in32; omega) ?_
        refine go_iload (at_of tX4_strike 2 9 rfl) rfl rfl ?_
        refine go_iload (at_of tX4_strike 2 10 rfl) rfl rfl ?_
        refine go_cV (con_setFact (rowP (by exact hS) hk) (by omega) (by omega)) lk_X4_74 rfl (by first | rfl | assumption) (at_of tX4_strike 2 11 rfl) rfl (by decide) rfl (Nat.le_of_ble_eq_true rfl) rfl (by first | decide | exact ⟨Nat.zero_le _, Nat.zero_le _⟩) ?_
        refine go_iinc (at_of tX4_strike 2 12 rfl) rfl (by unfold in32; omega) rfl rfl ?_
        refine go_goto (tgt := 31) (at_of tX4_strike 2 13 rfl) (by decide) ?_
        exact K _
    · rw [if_neg h1]
      refine ⟨σ, ⟨hP, hF, by omega, by omega⟩, fun b out K => ?_⟩
      refine go_iload (at_of tX4_strike 1 2 rfl) rfl rfl ?_
      refine go_iload_n (at_of tX4_strike 1 3 rfl) rfl ?_
      refine go_icmp_lt (tgt := 94) (at_of tX4_strike 1 4 rfl) (by decide) (fun h34 => ?_) (fun h34 => ?_)
      · exfalso; omega
      refine go_iload (at_of tX4_strike 1 5 rfl) rfl rfl ?_
      refine go_if_lt (tgt := 94) (at_of tX4_strike 1 6 rfl) (by decide) (fun h39 => ?_) (fun h39 => ?_)
      · exfalso; omega
      refine go_aload_n (at_of tX4_strike 1 7 rfl) rfl ?_
      refine go_getr fl_X4_12 rfl (by first | rfl | assumption) (by first | assumption | exact p1 | exact p2 | exact p3 | exact p4 | exact p5 | exact p6) (at_of tX4_strike 1 8 rfl) ?_
      refine go_iload (at_of tX4_strike 1 9 rfl) rfl rfl ?_
      refine go_cV (con_isSeen (rowP (by exact hS) hk) hR.u) lk_X4_55 rfl (by first | rfl | assumption) (at_of tX4_strike 1 10 rfl) rfl (by decide) rfl (Nat.le_of_ble_eq_true rfl) rfl (by first | decide | exact ⟨Nat.zero_le _, Nat.zero_le _⟩) ?_
      refine go_if_eq (tgt := 88) (at_of tX4_strike 1 11 rfl) (by decide) (fun h51 => ?_) (fun h51 => ?_)
      rotate_left
      · exfalso; rw [hv] at h51; exact h1 (bI_1.mp h51)
      refine go_iinc (at_of tX4_strike 2 12 rfl) rfl (by unfold in32; omega) rfl rfl ?_
      refine go_goto (tgt := 31) (at_of tX4_strike 2 13 rfl) (by decide) ?_
      exact K _
theorem con_strike (hS : Str σ.2.1) (hk : k < 8) {D : PapD} (hD : RepP σ k D) {a x y : Int} (hx : 0 ≤ x) (hxy : x ≤ y) (hy : y ≤ D.1.2.1) (hf : needD D a x y = true → D.2.1.1 < 60) : ∃ σ', Con 5 mX4_strike 0 0 [vA (3 + 10 * k), vI a, vI x, vI y] σ (vI (stkC D a x y), σ') ∧ RepP σ' k (strikeD D a x y) ∧ Frm σ σ' (4 + 10 * k) (11 + 10 * k) := by
  obtain ⟨g1, g2, g3, g4, g5, g6, g7, g8, g9, g10⟩ := gamk k hk
  obtain ⟨p1, p2, p3, p4, p5, p6, p7, p8, p9⟩ := strk hS k hk
  have hR := hD.1
  have hL := hD.2.1.2.2.1
  have hn := hR.1
  obtain ⟨hw1, hw2, hw3⟩ := hR.2.2.2
  have he : anyF (othB σ k a) (y - x).toNat x = needD D a x y := anyF_congr _ _ (fun j h1 h2 => hD.othE (by omega))
  have hlw := hD.2.1.2.2.2
  unfold strikeD
  by_cases hN : needD D a x y = true
  · have eL : stkL D a x y = enrL D.2.1 101 a := if_pos hN
    have eC : stkC D a x y = D.2.1.1 := if_pos hN
    rw [eL, eC]
    have hl := hf hN
    obtain ⟨r1, r2⟩ := rep_enr hD.2.1 hl (kd := 101) (au := a) (by omega)
    obtain ⟨σ', q1, q2, q3⟩ := lp_strike (σ := enr σ k 101 a) (D := (D.1, enrL D.2.1 101 a, D.2.2)) hS hk (hD.log r2 r1) (L := D.2.1) (a := a) (c := D.2.1.1) hx hxy hy ⟨by have := hlw.1; omega, hl⟩
    have hm := hD.2.1.1
    refine ⟨σ', ?_, q1, (r2.mono (by omega) (by omega)).trans (q2.mono (by omega) (by omega))⟩
    refine con_of_go mfX4_strike.1 trivial (Nat.le_of_ble_eq_true rfl) rfl (by decide) ?_
    show Go _ _ _ _ 0 [vA _, vI _, vI _, vI _, vT 9 0, vT 9 0] [] _ _
    refine go_aload_n (at_of tX4_strike 0 0 rfl) rfl ?_
    refine go_iload_n (at_of tX4_strike 0 1 rfl) rfl ?_
    refine go_iload_n (at_of tX4_strike 0 2 rfl) rfl ?_
    refine go_iload_n (at_of tX4_strike 0 3 rfl) rfl ?_
    refine go_cV (con_hasOthers hS hk hL hR.u hx hxy (by omega)) lk_X4_62 rfl (by first | rfl | assumption) (at_of tX4_strike 0 4 rfl) rfl (by decide) rfl (Nat.le_of_ble_eq_true rfl) rfl (by first | decide | exact ⟨Nat.zero_le _, Nat.zero_le _⟩) ?_
    refine go_if_eq (tgt := 23) (at_of tX4_strike 0 5 rfl) (by decide) (fun h7 => ?_) (fun h7 => ?_)
    · exfalso; rw [he] at h7; exact bI_0.mp h7 hN
    refine go_aload_n (at_of tX4_strike 0 6 rfl) rfl ?_
    refine go_getr fl_X4_21 rfl (by first | rfl | assumption) (by first | assumption | exact p1 | exact p2 | exact p3 | exact p4 | exact p5 | exact p6) (at_of tX4_strike 0 7 rfl) ?_
    refine go_bipush (at_of tX4_strike 0 8 rfl) (by decide) ?_
    refine go_iload_n (at_of tX4_strike 0 9 rfl) rfl ?_
    refine go_cV (con_enroll hS hk hL (by omega)) lk_X4_66 rfl (by first | rfl | assumption) (at_of tX4_strike 0 10 rfl) rfl (by decide) rfl (Nat.le_of_ble_eq_true rfl) rfl (by first | decide | exact ⟨Nat.zero_le _, Nat.zero_le _⟩) ?_
    refine go_goto (tgt := 24) (at_of tX4_strike 0 11 rfl) (by decide) ?_
    refine go_istore (at_of tX4_strike 0 13 rfl) rfl rfl ?_
    refine go_iload_n (at_of tX4_strike 0 14 rfl) rfl ?_
    refine go_iconst (at_of tX4_strike 0 15 rfl) (by unfold in32; omega) ?_
    refine go_isub (at_of tX4_strike 1 0 rfl) (by unfold in32; omega) ?_
    refine go_istore (at_of tX4_strike 1 1 rfl) rfl rfl ?_
    rw [hm]
    refine q3 _ _ (fun b => ?_)
    refine go_iload (at_of tX4_strike 1 2 rfl) rfl rfl ?_
    refine go_iload_n (at_of tX4_strike 1 3 rfl) rfl ?_
    refine go_icmp_lt (tgt := 94) (at_of tX4_strike 1 4 rfl) (by decide) (fun h34 => ?_) (fun h34 => ?_)
    rotate_left
    · exfalso; omega
    refine go_iload (at_of tX4_strike 2 14 rfl) rfl rfl ?_
    exact go_reti (at_of tX4_strike 2 15 rfl) rfl
  · have eL : stkL D a x y = D.2.1 := if_neg hN
    have eC : stkC D a x y = -1 := if_neg hN
    rw [eL, eC]
    obtain ⟨σ', q1, q2, q3⟩ := lp_strike hS hk hD (L := D.2.1) (a := a) (c := -1) hx hxy hy ⟨by omega, by omega⟩
    refine ⟨σ', ?_, q1, q2.mono (by omega) (by omega)⟩
    refine con_of_go mfX4_strike.1 trivial (Nat.le_of_ble_eq_true rfl) rfl (by decide) ?_
    show Go _ _ _ _ 0 [vA _, vI _, vI _, vI _, vT 9 0, vT 9 0] [] _ _
    refine go_aload_n (at_of tX4_strike 0 0 rfl) rfl ?_
    refine go_iload_n (at_of tX4_strike 0 1 rfl) rfl ?_
    refine go_iload_n (at_of tX4_strike 0 2 rfl) rfl ?_
    refine go_iload_n (at_of tX4_strike 0 3 rfl) rfl ?_
    refine go_cV (con_hasOthers hS hk hL hR.u hx hxy (by omega)) lk_X4_62 rfl (by first | rfl | assumption) (at_of tX4_strike 0 4 rfl) rfl (by decide) rfl (Nat.le_of_ble_eq_true rfl) rfl (by first | decide | exact ⟨Nat.zero_le _, Nat.zero_le _⟩) ?_
    refine go_if_eq (tgt := 23) (at_of tX4_strike 0 5 rfl) (by decide) (fun h7 => ?_) (fun h7 => ?_)
    rotate_left
    · exfalso; rw [he] at h7; exact hN (bI_1.mp h7)
    refine go_iconst (at_of tX4_strike 0 12 rfl) (by unfold in32; omega) ?_
    refine go_istore (at_of tX4_strike 0 13 rfl) rfl rfl ?_
    refine go_iload_n (at_of tX4_strike 0 14 rfl) rfl ?_
    refine go_iconst (at_of tX4_strike 0 15 rfl) (by unfold in32; omega) ?_
    refine go_isub (at_of tX4_strike 1 0 rfl) (by unfold in32; omega) ?_
    refine go_istore (at_of tX4_strike 1 1 rfl) rfl rfl ?_
    refine q3 _ _ (fun b => ?_)
    refine go_iload (at_of tX4_strike 1 2 rfl) rfl rfl ?_
    refine go_iload_n (at_of tX4_strike 1 3 rfl) rfl ?_
    refine go_icmp_lt (tgt := 94) (at_of tX4_strike 1 4 rfl) (by decide) (fun h34 => ?_) (fun h34 => ?_)
    rotate_left
    · exfalso; omega
    refine go_iload (at_of tX4_strike 2 14 rfl) rfl rfl ?_
    exact go_reti (at_of tX4_strike 2 15 rfl) rfl
end Papers
