/-! The reference: rounds of results; records merged. -/
section Mod22
variable {σ : St} {R : RowD} {L : LogD} {Q : Int → Int}
def FrG (σ σ' : St) : Prop := σ'.2 = σ.2 ∧ ∀ a j : Nat, ¬ (a = 123 ∨ a = 124 ∨ a = 125 ∨ (126 ≤ a ∧ a ≤ 132) ∨ (a = 109 ∧ (j = 0 ∨ j = 18 ∨ j = 28 ∨ j = 32 ∨ j = 33)) ∨ (a = 110 ∧ 3205 ≤ j ∧ j < 3225)) → σ'.1 a j = σ.1 a j
theorem FrG.refl : FrG σ σ := ⟨rfl, fun _ _ _ => rfl⟩
theorem FrG.trans {σ' σ'' : St} (h : FrG σ σ') (h' : FrG σ' σ'') : FrG σ σ'' := ⟨h'.1.trans h.1, fun a j q => (h'.2 a j q).trans (h.2 a j q)⟩
theorem FrG.str {σ' : St} (h : FrG σ σ') (hS : Str σ.2.1) : Str σ'.2.1 := by rw [h.1]; exact hS
theorem FrV.m {σ' : St} (h : FrV σ σ') : FrG σ σ' := ⟨h.1, fun a j q => h.2 a j (by omega)⟩
theorem FrG.p1 {z : Int} : FrG σ (P1 σ 109 0 z) := ⟨rfl, fun a j q => by
  by_cases hx : a = 109
  · exact P1_nj (by omega)
  · exact P1_ne hx⟩
theorem FrG.p18 {z : Int} : FrG σ (P1 σ 109 18 z) := ⟨rfl, fun a j q => by
  by_cases hx : a = 109
  · exact P1_nj (by omega)
  · exact P1_ne hx⟩
theorem FrG.rep {σ' : St} {Q' : Int → Int} (h : FrG σ σ') (hN : RepN (cN σ) (R, L, Q)) (hQ : ∀ f, 0 ≤ f → f < 20 → cN σ' (3205 + f) = Q' f) : RepN (cN σ') (R, L, Q') := by
  obtain ⟨a, b, c, d⟩ := hN
  have e : ∀ x, 0 ≤ x → x < 3205 → cN σ' x = cN σ x := fun x x0 x1 => h.2 110 _ (by omega)
  exact ⟨a.congr2 d.2.1 (fun x q => e x (by omega) (by omega)), b.congr d.2.2.2 (fun x x0 x1 => e x (by omega) (by omega)), hQ, d⟩
theorem UpW.fm {σ' : St} (h : UpW σ R L) (hF : FrG σ σ') : UpW σ' R L := by
  obtain ⟨a, b, c, d, e, f, g1, g2, i, j, k, l⟩ := h
  have c7 : σ'.1 109 7 = σ.1 109 7 := hF.2 _ _ (by omega)
  have c13 : σ'.1 109 13 = σ.1 109 13 := hF.2 _ _ (by omega)
  have c19 : σ'.1 109 19 = σ.1 109 19 := hF.2 _ _ (by omega)
  have c20 : σ'.1 109 20 = σ.1 109 20 := hF.2 _ _ (by omega)
  refine ⟨a, b, c, d, ⟨by rw [c7]; exact e.1, fun s s0 s1 => ?_⟩, by rw [c7]; exact f, by rw [c19]; exact g1, by rw [c20]; exact g2, by rw [c13]; exact i, by rw [c13]; exact j, fun f f0 f1 => ?_, fun x hx => ?_⟩
  · rw [hF.2 113 _ (by omega)]; exact e.2 s s0 (by rw [c7] at s1; exact s1)
  · rw [hF.2 118 _ (by omega), hF.2 119 _ (by omega)]; exact k f f0 (by rw [c13] at f1; exact f1)
  · rw [hF.2 121 _ (by omega)]; exact l x hx
theorem FrG.kv {σ' : St} (h : FrG σ σ') : KVm σ' = KVm σ := by
  unfold KVm
  rw [show clF σ' 113 8 = clF σ 113 8 by funext x; unfold clF cl; rw [h.2 _ _ (by omega)], show clF σ' 115 8 = clF σ 115 8 by funext x; unfold clF cl; rw [h.2 _ _ (by omega)]]
theorem FrG.vl {σ' : St} (h : FrG σ σ') (rc : Int) : vlM σ' R rc = vlM σ R rc := by
  funext Q f
  unfold vlM
  rw [h.kv, h.2 109 19 (by omega), h.2 109 20 (by omega), h.2 118 _ (by omega), h.2 119 _ (by omega), h.2 121 _ (by omega)]
theorem FrG.hd {σ' : St} (h : FrG σ σ') : hdM σ' = hdM σ := by
  funext f
  exact h.2 120 _ (by omega)
theorem m_updatesAll (hS : Str σ.2.1) (hN : RepN (cN σ) (R, L, Q)) (hU : UpW σ R L) (hQW : QW Q) (hc : 0 ≤ σ.1 109 18 ∧ σ.1 109 18 < 5) : ∃ σ', Con 8 mX10_updatesAll 0 0 [vA 109] σ (vI (wkF R (hdM σ) (vlM σ R (σ.1 109 18)) 10 Q).1, σ') ∧ FrV σ σ' ∧ RepN (cN σ') (R, L, (wkF R (hdM σ) (vlM σ R (σ.1 109 18)) 10 Q).2) ∧ QW (wkF R (hdM σ) (vlM σ R (σ.1 109 18)) 10 Q).2 := by
  obtain ⟨σ0, hσ0⟩ : ∃ σ0, σ0 = σ := ⟨_, rfl⟩
  rw [← hσ0] at hS hN hU hc ⊢
  have key : ∀ (m : Nat) (i : Int) (σ : St) (Q : Int → Int), 0 ≤ i → i + m = 10 → FrV σ0 σ → RepN (cN σ) (R, L, Q) → QW Q → ∃ σ', FrV σ0 σ' ∧ RepN (cN σ') (R, L, (wkF R (hdM σ0) (vlM σ0 R (σ0.1 109 18)) m Q).2) ∧ QW (wkF R (hdM σ0) (vlM σ0 R (σ0.1 109 18)) m Q).2 ∧ 0 ≤ (wkF R (hdM σ0) (vlM σ0 R (σ0.1 109 18)) m Q).1 ∧ (wkF R (hdM σ0) (vlM σ0 R (σ0.1 109 18)) m Q).1 ≤ m ∧ ∀ (b : Nat × Nat), Go (fun _ => 0) 8 mX10_updatesAll b 2 [vA 109, vI i] [] σ (vI (i + (wkF R (hdM σ0) (vlM σ0 R (σ0.1 109 18)) m Q).1), σ') := by
    intro m
    induction m with
    | zero =>
      intro i σ Q h0 h1 hF hN hQW
      refine ⟨σ, hF, hN, hQW, Int.le_refl _, Int.le_refl _, fun b => ?_⟩
      show Go _ _ _ _ _ _ _ _ (vI (i + 0), σ)
      refine go_iload_n (at_of tX10_updatesAll 0 2 rfl) rfl ?_
      refine go_bipush (at_of tX10_updatesAll 0 3 rfl) (by decide) ?_
      refine go_icmp_ge (tgt := 21) (at_of tX10_updatesAll 0 4 rfl) (by decide) (fun h5 => ?_) (fun h5 => ?_)
      rotate_left
      · exfalso; omega
      refine go_iload_n (at_of tX10_updatesAll 0 10 rfl) rfl ?_
      first | exact go_reti (at_of tX10_updatesAll 0 11 rfl) rfl | exact go_reti (at_of tX10_updatesAll 0 11 rfl) (le_i (by omega)) | exact go_reti (at_of tX10_updatesAll 0 11 rfl) (le_i (by first | exact bI_t (by omega) | exact bI_f (by omega)))
    | succ m ih =>
      intro i σ Q h0 h1 hF hN hQW
      have hS1 := hF.str hS
      have hU1 := hU.fr hF
      have c18 : σ.1 109 18 = σ0.1 109 18 := hF.2 _ _ (by omega)
      obtain ⟨σ1, y1, y2, y3⟩ := m_updates hS1 hN hU1 hQW (by rw [c18]; exact hc)
      have hq := nwQ_M (rc := σ.1 109 18) hU1 hQW (by rw [c18]; exact hc)
      rw [hF.hd, hF.vl, c18] at y1 y3 hq
      rw [wkF]
      by_cases hch : chB R (hdM σ0) (vlM σ0 R (σ0.1 109 18) Q) Q = true
      · rw [if_pos hch]
        rw [bI_t hch] at y1
        obtain ⟨σ', z1, z2, z3, z4, z5, z6⟩ := ih (i + 1) σ1 _ (by omega) (by omega) (hF.trans y2) y3 hq
        refine ⟨σ', z1, z2, z3, ?_, ?_, fun b => ?_⟩
        · show 0 ≤ 1 + _; omega
        · show 1 + _ ≤ (((m + 1 : Nat)) : Int); omega
        · show Go _ _ _ _ _ _ _ _ (vI (i + (1 + _)), σ')
          rw [show i + (1 + (wkF R (hdM σ0) (vlM σ0 R (σ0.1 109 18)) m (nwQ R (hdM σ0) (vlM σ0 R (σ0.1 109 18) Q) Q)).1) = i + 1 + (wkF R (hdM σ0) (vlM σ0 R (σ0.1 109 18)) m (nwQ R (hdM σ0) (vlM σ0 R (σ0.1 109 18) Q) Q)).1 by omega]
          refine go_iload_n (at_of tX10_updatesAll 0 2 rfl) rfl ?_
          refine go_bipush (at_of tX10_updatesAll 0 3 rfl) (by decide) ?_
          refine go_icmp_ge (tgt := 21) (at_of tX10_updatesAll 0 4 rfl) (by decide) (fun h5 => ?_) (fun h5 => ?_)
          · exfalso; omega
          refine go_aload_n (at_of tX10_updatesAll 0 5 rfl) rfl ?_
          refine go_cV (y1) lk_X10_284 rfl G_109 (at_of tX10_updatesAll 0 6 rfl) rfl (by decide) rfl (Nat.le_of_ble_eq_true rfl) rfl (by first | decide | exact ⟨Nat.zero_le _, Nat.zero_le _⟩) ?_
          refine go_if_eq (tgt := 21) (at_of tX10_updatesAll 0 7 rfl) (by decide) (fun h12 => ?_) (fun h12 => ?_)
          · exfalso; omega
          refine go_iinc (at_of tX10_updatesAll 0 8 rfl) rfl (by unfold in32; omega) rfl rfl ?_
          refine go_goto (tgt := 2) (at_of tX10_updatesAll 0 9 rfl) (by decide) ?_
          exact z6 _
      · rw [if_neg hch]
        rw [bI_f hch] at y1
        refine ⟨σ1, hF.trans y2, y3, hq, Int.le_refl _, by show (0 : Int) ≤ _; omega, fun b => ?_⟩
        show Go _ _ _ _ _ _ _ _ (vI (i + 0), σ1)
        refine go_iload_n (at_of tX10_updatesAll 0 2 rfl) rfl ?_
        refine go_bipush (at_of tX10_updatesAll 0 3 rfl) (by decide) ?_
        refine go_icmp_ge (tgt := 21) (at_of tX10_updatesAll 0 4 rfl) (by decide) (fun h5 => ?_) (fun h5 => ?_)
        · exfalso; omega
        refine go_aload_n (at_of tX10_updatesAll 0 5 rfl) rfl ?_
        refine go_cV (y1) lk_X10_284 rfl G_109 (at_of tX10_updatesAll 0 6 rfl) rfl (by decide) rfl (Nat.le_of_ble_eq_true rfl) rfl (by first | decide | exact ⟨Nat.zero_le _, Nat.zero_le _⟩) ?_
        refine go_if_eq (tgt := 21) (at_of tX10_updatesAll 0 7 rfl) (by decide) (fun h12 => ?_) (fun h12 => ?_)
        rotate_left
        · exfalso; omega
        refine go_iload_n (at_of tX10_updatesAll 0 10 rfl) rfl ?_
        first | exact go_reti (at_of tX10_updatesAll 0 11 rfl) rfl | exact go_reti (at_of tX10_updatesAll 0 11 rfl) (le_i (by omega)) | exact go_reti (at_of tX10_updatesAll 0 11 rfl) (le_i (by first | exact bI_t (by omega) | exact bI_f (by omega)))
  obtain ⟨σ', z1, z2, z3, z4, z5, z6⟩ := key 10 0 σ0 Q (Int.le_refl _) (by omega) FrV.refl hN hQW
  refine ⟨σ', ?_, z1, z2, z3⟩
  rw [Int.zero_add] at z6
  refine con_of_go mfX10_updatesAll.1 trivial (Nat.le_of_ble_eq_true rfl) rfl (by decide) ?_
  show Go _ _ _ _ 0 [vA _, vT 9 0] [] _ _
  refine go_iconst (at_of tX10_updatesAll 0 0 rfl) (by unfold in32; omega) ?_
  refine go_istore_n (at_of tX10_updatesAll 0 1 rfl) rfl rfl ?_
  exact z6 _
theorem m_update (hS : Str σ.2.1) (hN : RepN (cN σ) (R, L, Q)) (hU : UpW σ R L) (hQW : QW Q) (hc : 0 ≤ σ.1 109 18 ∧ σ.1 109 18 < 5) : ∃ σ', Con 9 mX10_update 0 0 [vA 109] σ (vI (wkF R (hdM σ) (vlM σ R (σ.1 109 18)) 10 Q).1, σ') ∧ FrV (P1 σ 109 0 0) σ' ∧ RepN (cN σ') (R, L, (wkF R (hdM σ) (vlM σ R (σ.1 109 18)) 10 Q).2) ∧ QW (wkF R (hdM σ) (vlM σ R (σ.1 109 18)) 10 Q).2 := by
  have hF : FrG σ (P1 σ 109 0 0) := FrG.p1
  have c18 : (P1 σ 109 0 0).1 109 18 = σ.1 109 18 := P1_nj (by omega)
  obtain ⟨σ', y1, y2, y3, y4⟩ := m_updatesAll (σ := P1 σ 109 0 0) hS (by rw [cN_P1]; exact hN) (hU.fm hF) hQW (by rw [c18]; exact hc)
  rw [hF.hd, hF.vl, c18] at y1 y3 y4
  refine ⟨σ', ?_, y2, y3, y4⟩
  refine con_of_go mfX10_update.1 trivial (Nat.le_of_ble_eq_true rfl) rfl (by decide) ?_
  show Go _ _ _ _ 0 [vA _] [] _ _
  refine go_aload_n (at_of tX10_update 0 0 rfl) rfl ?_
  refine go_iconst (at_of tX10_update 0 1 rfl) (by unfold in32; omega) ?_
  refine go_put1 fp_X10_103 rfl (Or.inl rfl) G_109 (Or.inl rfl) (at_of tX10_update 0 2 rfl) ?_
  refine go_aload_n (at_of tX10_update 0 3 rfl) rfl ?_
  refine go_cV (y1) lk_X10_288 rfl G_109 (at_of tX10_update 0 4 rfl) rfl (by decide) rfl (Nat.le_of_ble_eq_true rfl) rfl (by first | decide | exact ⟨Nat.zero_le _, Nat.zero_le _⟩) ?_
  first | exact go_reti (at_of tX10_update 0 5 rfl) rfl | exact go_reti (at_of tX10_update 0 5 rfl) (le_i (by omega)) | exact go_reti (at_of tX10_update 0 5 rfl) (le_i (by first | exact bI_t (by omega) | exact bI_f (by omega)))
theorem m_merge_no (hS : Str σ.2.1) {c z : Int} (h : ¬ (0 ≤ c ∧ c ≤ 2)) : Con 9 mX10_merge 0 0 [vA 109, vI c, vI z] σ (vI 0, P1 σ 109 0 1) := by
  refine con_of_go mfX10_merge.1 trivial (Nat.le_of_ble_eq_true rfl) rfl (by decide) ?_
  show Go _ _ _ _ 0 [vA _, vI _, vI _, vT 9 0, vT 9 0, vT 9 0, vT 9 0, vT 9 0] [] _ _
  refine go_aload_n (at_of tX10_merge 0 0 rfl) rfl ?_
  refine go_iload_n (at_of tX10_merge 0 1 rfl) rfl ?_
  refine go_iconst (at_of tX10_merge 0 2 rfl) (by unfold in32; omega) ?_
  refine go_iconst (at_of tX10_merge 0 3 rfl) (by unfold in32; omega) ?_
  refine go_cS (m_in) lk_X10_124 rfl (at_of tX10_merge 0 4 rfl) rfl (by decide) rfl (Nat.le_of_ble_eq_true rfl) rfl (by first | decide | exact ⟨Nat.zero_le _, Nat.zero_le _⟩) ?_
  refine go_if_eq (tgt := 14) (at_of tX10_merge 0 5 rfl) (by decide) (fun h7 => ?_) (fun h7 => ?_)
  rotate_left
  · exfalso; exact h (bI_1.mp h7)
  refine go_iconst (at_of tX10_merge 0 8 rfl) (by unfold in32; omega) ?_
  refine go_cV (m_goesOn) lk_X10_141 rfl G_109 (at_of tX10_merge 0 9 rfl) rfl (by decide) rfl (Nat.le_of_ble_eq_true rfl) rfl (by first | decide | exact ⟨Nat.zero_le _, Nat.zero_le _⟩) ?_
  refine go_if_ne (tgt := 23) (at_of tX10_merge 0 10 rfl) (by decide) (fun h18 => ?_) (fun h18 => ?_)
  · exfalso; exact h18 (bI_f (by decide))
  refine go_iconst (at_of tX10_merge 0 11 rfl) (by unfold in32; omega) ?_
  first | exact go_reti (at_of tX10_merge 0 12 rfl) rfl | exact go_reti (at_of tX10_merge 0 12 rfl) (le_i (by omega)) | exact go_reti (at_of tX10_merge 0 12 rfl) (le_i (by first | exact bI_t (by omega) | exact bI_f (by omega)))
theorem m_merge (hS : Str σ.2.1) (hN : RepN (cN σ) (R, L, Q)) (hU : UpW σ R L) (hQW : QW Q) {c z : Int} (h : 0 ≤ c ∧ c ≤ 2) : ∃ σ', Con 9 mX10_merge 0 0 [vA 109, vI c, vI z] σ (vI (upX (mgF R Q (hdM σ) (vlM σ R) (KVm σ) (σ.1 109 19) (σ.1 109 20) (fun rc => σ.1 121 (3 * rc + c).toNat) z) 5 0 0), σ') ∧ FrG σ σ' ∧ RepN (cN σ') (R, L, Q) ∧ σ'.1 109 0 = 0 ∧ σ'.1 109 18 = σ.1 109 18 := by
  obtain ⟨sv, hsv⟩ : ∃ sv, sv = σ.1 109 18 := ⟨_, rfl⟩
  have keep : ∀ (m : Nat) (f : Int) (σa : St), 0 ≤ f → f + m = 20 → (FrG σ σa ∧ cN σa = cN σ ∧ σa.1 109 0 = 0 ∧ σa.1 109 18 = σ.1 109 18 ∧ ∀ g, 0 ≤ g → g < f → σa.1 125 g.toNat = Q g) → ∃ σb, (FrG σ σb ∧ cN σb = cN σ ∧ σb.1 109 0 = 0 ∧ σb.1 109 18 = σ.1 109 18 ∧ ∀ g, 0 ≤ g → g < 20 → σb.1 125 g.toNat = Q g) ∧ ∀ (b : Nat × Nat) (v5 v6 v7 : MV) (out : MV × St), (∀ b, Go (fun _ => 0) 9 mX10_merge b 62 [vA 109, vI c, vI z, vI sv, vI 20, v5, v6, v7] [] σb out) → Go (fun _ => 0) 9 mX10_merge b 31 [vA 109, vI c, vI z, vI sv, vI f, v5, v6, v7] [] σa out := by
    intro m
    induction m with
    | zero =>
      intro f σa h0 h1 hI
      obtain rfl : f = 20 := by omega
      refine ⟨σa, hI, fun b v5 v6 v7 out K => ?_⟩
      refine go_iload (at_of tX10_merge 1 2 rfl) rfl rfl ?_
      refine go_bipush (at_of tX10_merge 1 3 rfl) (by decide) ?_
      refine go_icmp_ge (tgt := 62) (at_of tX10_merge 1 4 rfl) (by decide) (fun h35 => ?_) (fun h35 => ?_)
      rotate_left
      · exfalso; omega
      exact K _
    | succ m ih =>
      intro f σa h0 h1 hI
      obtain ⟨i1, i2, i3, i4, i5⟩ := hI
      have hS1 := i1.str hS
      have hq : σa.1 110 (3205 + f).toNat = Q f := by
        have z := congrFun i2 (3205 + f)
        exact z.trans (hN.2.2.1 f h0 (by omega))
      obtain ⟨σb, z1, z2⟩ := ih (f + 1) (M1 σa 125 f (Q f)) (by omega) (by omega) ⟨i1.trans ⟨rfl, fun a j q => M1_ne (by omega)⟩, (funext fun x => M1_ne (by omega)).trans i2, (M1_ne (by omega)).trans i3, (M1_ne (by omega)).trans i4, fun g a b => by
        by_cases hg : g = f
        · rw [hg, M1_eq rfl]
        · rw [M1_nj (by omega)]; exact i5 g a (by omega)⟩
      refine ⟨σb, z1, fun b v5 v6 v7 out K => ?_⟩
      refine go_iload (at_of tX10_merge 1 2 rfl) rfl rfl ?_
      refine go_bipush (at_of tX10_merge 1 3 rfl) (by decide) ?_
      refine go_icmp_ge (tgt := 62) (at_of tX10_merge 1 4 rfl) (by decide) (fun h35 => ?_) (fun h35 => ?_)
      · exfalso; omega
      refine go_aload_n (at_of tX10_merge 1 5 rfl) rfl ?_
      refine go_getr (q := 125) fl_X10_71 rfl G_109 (by first | exact (hS _ _ rfl).trans rfl | exact (hS1 _ _ rfl).trans rfl | exact (hS2 _ _ rfl).trans rfl | exact (hS3 _ _ rfl).trans rfl | exact (hS4 _ _ rfl).trans rfl) (at_of tX10_merge 1 6 rfl) ?_
      refine go_iload (at_of tX10_merge 1 7 rfl) rfl rfl ?_
      refine go_aload_n (at_of tX10_merge 1 8 rfl) rfl ?_
      refine go_getr (q := 110) fl_X10_7 rfl G_109 (by first | exact (hS _ _ rfl).trans rfl | exact (hS1 _ _ rfl).trans rfl | exact (hS2 _ _ rfl).trans rfl | exact (hS3 _ _ rfl).trans rfl | exact (hS4 _ _ rfl).trans rfl) (at_of tX10_merge 1 9 rfl) ?_
      refine go_sipush (at_of tX10_merge 1 10 rfl) (by decide) ?_
      refine go_iload (at_of tX10_merge 1 11 rfl) rfl rfl ?_
      refine go_iadd (at_of tX10_merge 1 12 rfl) (by unfold in32; omega) ?_
      refine go_iald G_110 (by omega) (by omega) (at_of tX10_merge 1 13 rfl) ?_
      rw [hq]
      refine go_iast1 G_125 (by omega) (by omega) (at_of tX10_merge 1 14 rfl) ?_
      refine go_iinc (at_of tX10_merge 1 15 rfl) rfl (by unfold in32; omega) rfl rfl ?_
      refine go_goto (tgt := 31) (at_of tX10_merge 2 0 rfl) (by decide) ?_
      exact z2 _ _ _ _ _ K
  have rest : ∀ (m : Nat) (f s r k : Int) (σ1 σa : St), 0 ≤ f → f + m = 20 → Str σ1.2.1 → (σa.2 = σ1.2 ∧ (∀ a j : Nat, a ≠ 110 → σa.1 a j = σ1.1 a j) ∧ ∀ x, 0 ≤ x → σa.1 110 x.toNat = if 3205 ≤ x ∧ x < 3205 + f then Q (x - 3205) else σ1.1 110 x.toNat) → (∀ g, 0 ≤ g → g < 20 → σ1.1 125 g.toNat = Q g) → ∃ σb, (σb.2 = σ1.2 ∧ (∀ a j : Nat, a ≠ 110 → σb.1 a j = σ1.1 a j) ∧ ∀ x, 0 ≤ x → σb.1 110 x.toNat = if 3205 ≤ x ∧ x < 3205 + 20 then Q (x - 3205) else σ1.1 110 x.toNat) ∧ ∀ (b : Nat × Nat) (out : MV × St), (∀ b, Go (fun _ => 0) 9 mX10_merge b 153 [vA 109, vI c, vI z, vI sv, vI s, vI r, vI k, vI 20] [] σb out) → Go (fun _ => 0) 9 mX10_merge b 122 [vA 109, vI c, vI z, vI sv, vI s, vI r, vI k, vI f] [] σa out := by
    intro m
    induction m with
    | zero =>
      intro f s r k σ1 σa h0 h1 hS1 hI hq
      obtain rfl : f = 20 := by omega
      refine ⟨σa, hI, fun b out K => ?_⟩
      refine go_iload (at_of tX10_merge 4 4 rfl) rfl rfl ?_
      refine go_bipush (at_of tX10_merge 4 5 rfl) (by decide) ?_
      refine go_icmp_ge (tgt := 153) (at_of tX10_merge 4 6 rfl) (by decide) (fun h126 => ?_) (fun h126 => ?_)
      rotate_left
      · exfalso; omega
      exact K _
    | succ m ih =>
      intro f s r k σ1 σa h0 h1 hS1 hI hq
      have hS2 : Str σa.2.1 := by rw [hI.1]; exact hS1
      have hqf : σa.1 125 f.toNat = Q f := (hI.2.1 _ _ (by omega)).trans (hq f h0 (by omega))
      obtain ⟨σb, z1, z2⟩ := ih (f + 1) s r k σ1 (M1 σa 110 (3205 + f) (Q f)) (by omega) (by omega) hS1 ⟨hI.1, fun a j q => (M1_ne q).trans (hI.2.1 a j q), fun x hx => by
        by_cases hxf : x = 3205 + f
        · rw [hxf, M1_eq rfl, if_pos (by omega), show 3205 + f - 3205 = f by omega]
        · rw [M1_nj (by omega), hI.2.2 x hx]
          by_cases hr : 3205 ≤ x ∧ x < 3205 + f
          · rw [if_pos hr, if_pos (by omega)]
          · rw [if_neg hr, if_neg (by omega)]⟩ hq
      refine ⟨σb, z1, fun b out K => ?_⟩
      refine go_iload (at_of tX10_merge 4 4 rfl) rfl rfl ?_
      refine go_bipush (at_of tX10_merge 4 5 rfl) (by decide) ?_
      refine go_icmp_ge (tgt := 153) (at_of tX10_merge 4 6 rfl) (by decide) (fun h126 => ?_) (fun h126 => ?_)
      · exfalso; omega
      refine go_aload_n (at_of tX10_merge 4 7 rfl) rfl ?_
      refine go_getr (q := 110) fl_X10_7 rfl G_109 (by first | exact (hS _ _ rfl).trans rfl | exact (hS1 _ _ rfl).trans rfl | exact (hS2 _ _ rfl).trans rfl | exact (hS3 _ _ rfl).trans rfl | exact (hS4 _ _ rfl).trans rfl) (at_of tX10_merge 4 8 rfl) ?_
      refine go_sipush (at_of tX10_merge 4 9 rfl) (by decide) ?_
      refine go_iload (at_of tX10_merge 4 10 rfl) rfl rfl ?_
      refine go_iadd (at_of tX10_merge 4 11 rfl) (by unfold in32; omega) ?_
      refine go_aload_n (at_of tX10_merge 4 12 rfl) rfl ?_
      refine go_getr (q := 125) fl_X10_71 rfl G_109 (by first | exact (hS _ _ rfl).trans rfl | exact (hS1 _ _ rfl).trans rfl | exact (hS2 _ _ rfl).trans rfl | exact (hS3 _ _ rfl).trans rfl | exact (hS4 _ _ rfl).trans rfl) (at_of tX10_merge 4 13 rfl) ?_
      refine go_iload (at_of tX10_merge 4 14 rfl) rfl rfl ?_
      refine go_iald G_125 (by omega) (by omega) (at_of tX10_merge 4 15 rfl) ?_
      rw [hqf]
      refine go_iast1 G_110 (by omega) (by omega) (at_of tX10_merge 5 0 rfl) ?_
      refine go_iinc (at_of tX10_merge 5 1 rfl) rfl (by unfold in32; omega) rfl rfl ?_
      refine go_goto (tgt := 122) (at_of tX10_merge 5 2 rfl) (by decide) ?_
      exact z2 _ _ K
  have key : ∀ (m : Nat) (r s : Int) (σa : St), 0 ≤ r → r + m = 5 → 0 ≤ s → s ≤ 10000 * r → (FrG σ σa ∧ RepN (cN σa) (R, L, Q) ∧ σa.1 109 0 = 0 ∧ ∀ g, 0 ≤ g → g < 20 → σa.1 125 g.toNat = Q g) → ∃ σb, (FrG σ σb ∧ RepN (cN σb) (R, L, Q) ∧ σb.1 109 0 = 0) ∧ ∀ (b : Nat × Nat) (v6 v7 : MV) (out : MV × St), (∀ (b : Nat × Nat) (v6 v7 : MV), Go (fun _ => 0) 9 mX10_merge b 159 [vA 109, vI c, vI z, vI sv, vI (upX (mgF R Q (hdM σ) (vlM σ R) (KVm σ) (σ.1 109 19) (σ.1 109 20) (fun rc => σ.1 121 (3 * rc + c).toNat) z) m r s), vI 5, v6, v7] [] σb out) → Go (fun _ => 0) 9 mX10_merge b 68 [vA 109, vI c, vI z, vI sv, vI s, vI r, v6, v7] [] σa out := by
    intro m
    induction m with
    | zero =>
      intro r s σa h0 h1 h2 h3 hI
      obtain rfl : r = 5 := by omega
      have hS1 := hI.1.str hS
      refine ⟨σa, ⟨hI.1, hI.2.1, hI.2.2.1⟩, fun b v6 v7 out K => ?_⟩
      rw [upX] at K
      refine go_iload (at_of tX10_merge 2 5 rfl) rfl rfl ?_
      refine go_iconst (at_of tX10_merge 2 6 rfl) (by unfold in32; omega) ?_
      refine go_icmp_ge (tgt := 159) (at_of tX10_merge 2 7 rfl) (by decide) (fun h71 => ?_) (fun h71 => ?_)
      rotate_left
      · exfalso; omega
      exact K _ _ _
    | succ m ih =>
      intro r s σa h0 h1 h2 h3 hI
      obtain ⟨i1, i2, i3, i4⟩ := hI
      have hS1 := i1.str hS
      have hrc : σa.1 121 (3 * r + c).toNat = σ.1 121 (3 * r + c).toNat := i1.2 121 _ (by omega)
      by_cases hv : σ.1 121 (3 * r + c).toNat = z
      · have e : (mgF R Q (hdM σ) (vlM σ R) (KVm σ) (σ.1 109 19) (σ.1 109 20) (fun rc => σ.1 121 (3 * rc + c).toNat) z) s r = s := if_neg (fun q => q hv)
        obtain ⟨σb, z1, z2⟩ := ih (r + 1) s σa (by omega) (by omega) h2 (by omega) ⟨i1, i2, i3, i4⟩
        refine ⟨σb, z1, fun b v6 v7 out K => ?_⟩
        rw [upX, e] at K
        refine go_iload (at_of tX10_merge 2 5 rfl) rfl rfl ?_
        refine go_iconst (at_of tX10_merge 2 6 rfl) (by unfold in32; omega) ?_
        refine go_icmp_ge (tgt := 159) (at_of tX10_merge 2 7 rfl) (by decide) (fun h71 => ?_) (fun h71 => ?_)
        · exfalso; omega
        refine go_aload_n (at_of tX10_merge 2 8 rfl) rfl ?_
        refine go_getr (q := 121) fl_X10_53 rfl G_109 (by first | exact (hS _ _ rfl).trans rfl | exact (hS1 _ _ rfl).trans rfl | exact (hS2 _ _ rfl).trans rfl | exact (hS3 _ _ rfl).trans rfl | exact (hS4 _ _ rfl).trans rfl) (at_of tX10_merge 2 9 rfl) ?_
        refine go_iconst (at_of tX10_merge 2 10 rfl) (by unfold in32; omega) ?_
        refine go_iload (at_of tX10_merge 2 11 rfl) rfl rfl ?_
        refine go_imul (at_of tX10_merge 2 12 rfl) (by unfold in32; omega) ?_
        refine go_iload_n (at_of tX10_merge 2 13 rfl) rfl ?_
        refine go_iadd (at_of tX10_merge 2 14 rfl) (by unfold in32; omega) ?_
        refine go_iald G_121 (by omega) (by omega) (at_of tX10_merge 2 15 rfl) ?_
        rw [hrc]
        refine go_iload_n (at_of tX10_merge 3 0 rfl) rfl ?_
        refine go_icmp_ne (tgt := 92) (at_of tX10_merge 3 1 rfl) (by decide) (fun h86 => ?_) (fun h86 => ?_)
        · exfalso; exact h86 hv
        refine go_goto (tgt := 153) (at_of tX10_merge 3 2 rfl) (by decide) ?_
        refine go_iinc (at_of tX10_merge 5 3 rfl) rfl (by unfold in32; omega) rfl rfl ?_
        refine go_goto (tgt := 68) (at_of tX10_merge 5 4 rfl) (by decide) ?_
        exact z2 _ _ _ _ K
      · have hF1 : FrG σa (P1 σa 109 18 r) := FrG.p18
        have c18 : (P1 σa 109 18 r).1 109 18 = r := P1_eq
        have hU1 := (hU.fm i1).fm hF1
        obtain ⟨σ1, y1, y2, y3, y4⟩ := m_updatesAll (σ := P1 σa 109 18 r) hS1 (by rw [show cN (P1 σa 109 18 r) = cN σa from funext fun x => P1_ne (by omega)]; exact i2) hU1 hQW (by rw [c18]; omega)
        have hF01 : FrG σ (P1 σa 109 18 r) := i1.trans hF1
        rw [hF01.hd, hF01.vl, c18] at y1 y3 y4
        have hF2 : FrG σ σ1 := hF01.trans y2.m
        have hS2 : Str σ1.2.1 := hF2.str hS
        have hU2 := hU.fm hF2
        have c19 : σ1.1 109 19 = σ.1 109 19 := hF2.2 _ _ (by omega)
        have c20 : σ1.1 109 20 = σ.1 109 20 := hF2.2 _ _ (by omega)
        obtain ⟨σ2, x1, x2, x3⟩ := m_lays hS2 y3 hU2.wf y4 hU2.2.1 (hU2.b y4) hU2.2.2.2.2.1 hU2.2.2.2.2.2.1 hU2.2.2.2.2.2.2.1 hU2.2.2.2.2.2.2.2.1
        rw [c19, c20, hF2.kv] at x3
        have hS3 : Str σ2.2.1 := x2.str hS2
        have hF3 : FrG σ σ2 := hF2.trans x2.v.m
        have e32 : σ2.1 109 32 + 1 = pgsF R (wkF R (hdM σ) (vlM σ R r) 10 Q).2 (KVm σ) (σ.1 109 19) (σ.1 109 20) := by rw [x3.2.2]; rfl
        have pb := pgsF_le (KV := KVm σ) hU.1.1 (hU.b y4) (w := σ.1 109 19) (h := σ.1 109 20) hU.2.2.2.2.2.2.1.1 hU.2.2.2.2.2.2.2.1
        rw [← e32] at pb
        have e : (mgF R Q (hdM σ) (vlM σ R) (KVm σ) (σ.1 109 19) (σ.1 109 20) (fun rc => σ.1 121 (3 * rc + c).toNat) z) s r = s + (σ2.1 109 32 + 1) := by rw [e32]; exact if_pos hv
        have q125 : ∀ g, 0 ≤ g → g < 20 → σ2.1 125 g.toNat = Q g := fun g a b => by
          rw [x2.2 _ _ (by omega), y2.2 _ _ (by omega), P1_ne (by omega)]; exact i4 g a b
        obtain ⟨σ3, ⟨w1, w2, w3⟩, w4⟩ := rest 20 0 (s + (σ2.1 109 32 + 1)) r (wkF R (hdM σ) (vlM σ R r) 10 Q).1 σ2 σ2 (Int.le_refl _) (by omega) hS3 ⟨rfl, fun _ _ _ => rfl, fun x hx => by rw [if_neg (by omega)]⟩ q125
        have hF4 : FrG σ σ3 := by
          refine ⟨w1.trans hF3.1, fun a j q => ?_⟩
          by_cases ha : a = 110
          · have z := w3 (j : Int) (by omega)
            rw [show ((j : Int)).toNat = j by omega, if_neg (by omega)] at z
            rw [ha, z]
            exact hF3.2 110 j (by omega)
          · rw [w2 a j ha]; exact hF3.2 a j q
        have hN4 : RepN (cN σ3) (R, L, Q) := hF4.rep hN (fun f f0 f1 => by
          show σ3.1 110 (3205 + f).toNat = Q f
          rw [w3 _ (by omega), if_pos (by omega), show 3205 + f - 3205 = f by omega])
        obtain ⟨σb, z1, z2⟩ := ih (r + 1) (s + (σ2.1 109 32 + 1)) σ3 (by omega) (by omega) (by omega) (by omega) ⟨hF4, hN4, by rw [w2 _ _ (by omega), x2.2 _ _ (by omega), y2.2 _ _ (by omega), P1_nj (by omega)]; exact i3, fun g a b => by rw [w2 _ _ (by omega)]; exact q125 g a b⟩
        refine ⟨σb, z1, fun b v6 v7 out K => ?_⟩
        rw [upX, e] at K
        refine go_iload (at_of tX10_merge 2 5 rfl) rfl rfl ?_
        refine go_iconst (at_of tX10_merge 2 6 rfl) (by unfold in32; omega) ?_
        refine go_icmp_ge (tgt := 159) (at_of tX10_merge 2 7 rfl) (by decide) (fun h71 => ?_) (fun h71 => ?_)
        · exfalso; omega
        refine go_aload_n (at_of tX10_merge 2 8 rfl) rfl ?_
        refine go_getr (q := 121) fl_X10_53 rfl G_109 (by first | exact (hS _ _ rfl).trans rfl | exact (hS1 _ _ rfl).trans rfl | exact (hS2 _ _ rfl).trans rfl | exact (hS3 _ _ rfl).trans rfl | exact (hS4 _ _ rfl).trans rfl) (at_of tX10_merge 2 9 rfl) ?_
        refine go_iconst (at_of tX10_merge 2 10 rfl) (by unfold in32; omega) ?_
        refine go_iload (at_of tX10_merge 2 11 rfl) rfl rfl ?_
        refine go_imul (at_of tX10_merge 2 12 rfl) (by unfold in32; omega) ?_
        refine go_iload_n (at_of tX10_merge 2 13 rfl) rfl ?_
        refine go_iadd (at_of tX10_merge 2 14 rfl) (by unfold in32; omega) ?_
        refine go_iald G_121 (by omega) (by omega) (at_of tX10_merge 2 15 rfl) ?_
        rw [hrc]
        refine go_iload_n (at_of tX10_merge 3 0 rfl) rfl ?_
        refine go_icmp_ne (tgt := 92) (at_of tX10_merge 3 1 rfl) (by decide) (fun h86 => ?_) (fun h86 => ?_)
        rotate_left
        · exfalso; exact hv h86
        refine go_aload_n (at_of tX10_merge 3 3 rfl) rfl ?_
        refine go_iload (at_of tX10_merge 3 4 rfl) rfl rfl ?_
        refine go_put1 fp_X10_269 rfl (Or.inl rfl) G_109 (Or.inl rfl) (at_of tX10_merge 3 5 rfl) ?_
        refine go_aload_n (at_of tX10_merge 3 6 rfl) rfl ?_
        refine go_cV (y1) lk_X10_288 rfl G_109 (at_of tX10_merge 3 7 rfl) rfl (by decide) rfl (Nat.le_of_ble_eq_true rfl) rfl (by first | decide | exact ⟨Nat.zero_le _, Nat.zero_le _⟩) ?_
        refine go_istore (at_of tX10_merge 3 8 rfl) rfl rfl ?_
        refine go_aload_n (at_of tX10_merge 3 9 rfl) rfl ?_
        refine go_cV (x1) lk_X10_275 rfl G_109 (at_of tX10_merge 3 10 rfl) rfl (by decide) rfl (Nat.le_of_ble_eq_true rfl) rfl (by first | decide | exact ⟨Nat.zero_le _, Nat.zero_le _⟩) ?_
        refine go_iload (at_of tX10_merge 3 11 rfl) rfl rfl ?_
        refine go_aload_n (at_of tX10_merge 3 12 rfl) rfl ?_
        refine go_getf fl_X10_294 rfl G_109 (at_of tX10_merge 3 13 rfl) ?_
        refine go_iconst (at_of tX10_merge 3 14 rfl) (by unfold in32; omega) ?_
        refine go_iadd (at_of tX10_merge 3 15 rfl) (by unfold in32; omega) ?_
        refine go_iadd (at_of tX10_merge 4 0 rfl) (by unfold in32; omega) ?_
        refine go_istore (at_of tX10_merge 4 1 rfl) rfl rfl ?_
        refine go_iconst (at_of tX10_merge 4 2 rfl) (by unfold in32; omega) ?_
        refine go_istore (at_of tX10_merge 4 3 rfl) rfl rfl ?_
        refine w4 _ _ (fun b => ?_)
        refine go_iinc (at_of tX10_merge 5 3 rfl) rfl (by unfold in32; omega) rfl rfl ?_
        refine go_goto (tgt := 68) (at_of tX10_merge 5 4 rfl) (by decide) ?_
        exact z2 _ _ _ _ K
  have p18 : (P1 σ 109 0 0).1 109 18 = sv := by rw [P1_nj (by omega)]; exact hsv.symm
  obtain ⟨σ1, ⟨y1, y2, y3, y4, y5⟩, y6⟩ := keep 20 0 (P1 σ 109 0 0) (Int.le_refl _) (by omega) ⟨FrG.p1, cN_P1, P1_eq, P1_nj (by omega), fun g a b => by omega⟩
  obtain ⟨σ2, ⟨x1, x2, x3⟩, x4⟩ := key 5 0 0 σ1 (Int.le_refl _) (by omega) (Int.le_refl _) (by omega) ⟨y1, by rw [y2]; exact hN, y3, y5⟩
  have hS1 : Str σ2.2.1 := x1.str hS
  refine ⟨P1 σ2 109 18 sv, ?_, x1.trans FrG.p18, by rw [show cN (P1 σ2 109 18 sv) = cN σ2 from funext fun x => P1_ne (by omega)]; exact x2, by rw [P1_nj (by omega)]; exact x3, by rw [P1_eq]; exact hsv⟩
  refine con_of_go mfX10_merge.1 trivial (Nat.le_of_ble_eq_true rfl) rfl (by decide) ?_
  show Go _ _ _ _ 0 [vA _, vI _, vI _, vT 9 0, vT 9 0, vT 9 0, vT 9 0, vT 9 0] [] _ _
  refine go_aload_n (at_of tX10_merge 0 0 rfl) rfl ?_
  refine go_iload_n (at_of tX10_merge 0 1 rfl) rfl ?_
  refine go_iconst (at_of tX10_merge 0 2 rfl) (by unfold in32; omega) ?_
  refine go_iconst (at_of tX10_merge 0 3 rfl) (by unfold in32; omega) ?_
  refine go_cS (m_in) lk_X10_124 rfl (at_of tX10_merge 0 4 rfl) rfl (by decide) rfl (Nat.le_of_ble_eq_true rfl) rfl (by first | decide | exact ⟨Nat.zero_le _, Nat.zero_le _⟩) ?_
  refine go_if_eq (tgt := 14) (at_of tX10_merge 0 5 rfl) (by decide) (fun h7 => ?_) (fun h7 => ?_)
  · exfalso; exact bI_0.mp h7 h
  refine go_iconst (at_of tX10_merge 0 6 rfl) (by unfold in32; omega) ?_
  refine go_goto (tgt := 15) (at_of tX10_merge 0 7 rfl) (by decide) ?_
  refine go_cV (m_goesOn) lk_X10_141 rfl G_109 (at_of tX10_merge 0 9 rfl) rfl (by decide) rfl (Nat.le_of_ble_eq_true rfl) rfl (by first | decide | exact ⟨Nat.zero_le _, Nat.zero_le _⟩) ?_
  refine go_if_ne (tgt := 23) (at_of tX10_merge 0 10 rfl) (by decide) (fun h18 => ?_) (fun h18 => ?_)
  rotate_left
  · exfalso; exact absurd h18 (by rw [bI_t rfl]; decide)
  refine go_aload_n (at_of tX10_merge 0 13 rfl) rfl ?_
  refine go_getf fl_X10_269 rfl G_109 (at_of tX10_merge 0 14 rfl) ?_
  rw [p18]
  refine go_istore_n (at_of tX10_merge 0 15 rfl) rfl rfl ?_
  refine go_iconst (at_of tX10_merge 1 0 rfl) (by unfold in32; omega) ?_
  refine go_istore (at_of tX10_merge 1 1 rfl) rfl rfl ?_
  refine y6 _ _ _ _ _ (fun b => ?_)
  refine go_iconst (at_of tX10_merge 2 1 rfl) (by unfold in32; omega) ?_
  refine go_istore (at_of tX10_merge 2 2 rfl) rfl rfl ?_
  refine go_iconst (at_of tX10_merge 2 3 rfl) (by unfold in32; omega) ?_
  refine go_istore (at_of tX10_merge 2 4 rfl) rfl rfl ?_
  refine x4 _ _ _ _ (fun b v6 v7 => ?_)
  refine go_aload_n (at_of tX10_merge 5 5 rfl) rfl ?_
  refine go_iload_n (at_of tX10_merge 5 6 rfl) rfl ?_
  refine go_put1 fp_X10_269 rfl (Or.inl rfl) G_109 (Or.inl rfl) (at_of tX10_merge 5 7 rfl) ?_
  refine go_iload (at_of tX10_merge 5 8 rfl) rfl rfl ?_
  first | exact go_reti (at_of tX10_merge 5 9 rfl) rfl | exact go_reti (at_of tX10_merge 5 9 rfl) (le_i (by omega)) | exact go_reti (at_of tX10_merge 5 9 rfl) (le_i (by first | exact bI_t (by omega) | exact bI_f (by omega)))
end Mod22
