/-! The reference's layout: a paragraph's lines. -/
section Mod16
variable {σ : St}
def OwW (T : Int) (ow X Y : Int → Int) : Prop := ∀ s, 0 ≤ s → s < T → 0 ≤ ow s ∧ ow s < 202 ∧ 0 ≤ X (ow s) ∧ X (ow s) ≤ s ∧ s < Y (ow s) ∧ Y (ow s) ≤ T ∧ ∀ s', X (ow s) ≤ s' → s' < Y (ow s) → ow s' = ow s
/-- the lines of the signs ahead of s are noted -/
def CtI (T W : Int) (B : Int → Bool) (ow X Y : Int → Int) (σ0 σ : St) (s : Int) : Prop :=
  (σ.2 = σ0.2 ∧ ∀ a j : Nat, ¬ ((a = 126 ∨ a = 127) ∧ ∃ s', 0 ≤ s' ∧ s' < T ∧ (j : Int) = ow s') → σ.1 a j = σ0.1 a j) ∧
  ∀ s', 0 ≤ s' → s' < T → (X (ow s') < s → σ.1 126 (ow s').toNat = lnO B W T (X (ow s')) 512 0) ∧ (Y (ow s') ≤ s → σ.1 127 (ow s').toNat = lnO B W T (Y (ow s') - 1) 512 0)
theorem OwW.new {T : Int} {ow X Y : Int → Int} (hO : OwW T ow X Y) {s : Int} (h0 : 0 ≤ s) (h1 : s < T) : X (ow s) = s ↔ (s = 0 ∨ ow (s - 1) ≠ ow s) := by
  have o1 := hO s h0 h1
  constructor
  · intro h
    by_cases hz : s = 0
    · exact Or.inl hz
    · refine Or.inr fun q => ?_
      have o2 := hO (s - 1) (by omega) (by omega)
      rw [q] at o2
      omega
  · intro h
    rcases h with h | h
    · omega
    · by_cases hx : X (ow s) = s
      · exact hx
      · exact absurd (o1.2.2.2.2.2.2 (s - 1) (by omega) (by omega)) h
theorem CtI.step {T W : Int} {B : Int → Bool} {ow X Y : Int → Int} {σ0 : St} (hO : OwW T ow X Y) {s k z : Int} (h0 : 0 ≤ s) (h1 : s < T) (hI : CtI T W B ow X Y σ0 σ s) (hk : lnO B W T s 512 0 = k) (hz : z = if X (ow s) = s then k else σ.1 126 (ow s).toNat) :
    CtI T W B ow X Y σ0 (M1 (M1 σ 126 (ow s) z) 127 (ow s) k) (s + 1) := by
  obtain ⟨⟨f1, f2⟩, f3⟩ := hI
  have o1 := hO s h0 h1
  refine ⟨⟨f1, fun a j q => ?_⟩, fun s' a0 a1 => ⟨fun hx => ?_, fun hy => ?_⟩⟩
  · rw [show (M1 (M1 σ 126 (ow s) z) 127 (ow s) k).1 a j = (M1 σ 126 (ow s) z).1 a j from ?_, show (M1 σ 126 (ow s) z).1 a j = σ.1 a j from ?_]
    · exact f2 a j q
    · by_cases ha : a = 126
      · exact M1_nj (fun e => q ⟨Or.inl ha, s, h0, h1, by omega⟩)
      · exact M1_ne ha
    · by_cases ha : a = 127
      · exact M1_nj (fun e => q ⟨Or.inr ha, s, h0, h1, by omega⟩)
      · exact M1_ne ha
  · have o2 := hO s' a0 a1
    rw [M1_ne (by omega)]
    by_cases ho : ow s' = ow s
    · rw [ho, M1_eq rfl, hz]
      by_cases hn : X (ow s) = s
      · rw [if_pos hn, hn]; exact hk.symm
      · rw [if_neg hn]; exact (f3 s h0 h1).1 (by omega)
    · rw [M1_nj (by omega)]
      refine (f3 s' a0 a1).1 ?_
      rcases Int.lt_or_eq_of_le (show X (ow s') ≤ s by omega) with h | h
      · exact h
      · exact absurd (o2.2.2.2.2.2.2 s (by omega) (by omega)).symm ho
  · have o2 := hO s' a0 a1
    by_cases ho : ow s' = ow s
    · rw [ho, M1_eq rfl]
      rw [ho] at hy
      rw [show Y (ow s) - 1 = s by omega]; exact hk.symm
    · rw [M1_nj (by omega), M1_ne (by omega)]
      refine (f3 s' a0 a1).2 ?_
      rcases Int.lt_or_eq_of_le hy with h | h
      · omega
      · exact absurd (o2.2.2.2.2.2.2 s (by omega) (by omega)).symm ho
theorem m_cutsLines (hS : Str σ.2.1) {T W : Int} {B : Int → Bool} {ow X Y : Int → Int} (hW : 5 ≤ W ∧ W ≤ 60) (hT5 : 0 ≤ T ∧ T ≤ 500) (hWd : σ.1 109 19 = W) (hT : σ.1 109 33 = T) (hBd : B = fun s => decide (σ.1 132 s.toNat ≠ 0)) (howd : ∀ s, 0 ≤ s → s < T → σ.1 131 s.toNat = ow s) (hO : OwW T ow X Y) :
  ∃ σ', Con 0 mX10_cutsLines 0 0 [vA 109] σ (vI (lnC B W T 512 0), σ') ∧ CtI T W B ow X Y σ σ' T := by
  obtain ⟨σ0, hσ0⟩ : ∃ σ0, σ0 = σ := ⟨σ, rfl⟩
  have hSt : Str σ0.2.1 := by rw [hσ0]; exact hS
  have hσ := hσ0
  rw [← hσ0] at hWd hT hBd howd hS ⊢
  clear hσ0 hσ

  have key1 : ∀ (m : Nat) (b : Nat × Nat) (k a s : Int) (σ : St) (v5 : MV) (out : MV × St), Str σ.2.1 → (∀ x, 0 ≤ x → x < T → σ.1 132 x.toNat = σ0.1 132 x.toNat) → 0 ≤ a → a + W < T → s = a + m - 1 → (m : Int) ≤ W → (∀ (b : Nat × Nat) (v4 : MV), Go (fun _ => 0) 0 mX10_cutsLines b 77 [vA 109, vI k, vI a, vI (lbF B (a + W) m s), v4, v5] [] σ out) → Go (fun _ => 0) 0 mX10_cutsLines b 32 [vA 109, vI k, vI a, vI (a + W), vI s, v5] [] σ out := by
    intro m
    induction m with
    | zero =>
      intro b k a s σ v5 out hS hb h0 h1 h2 h3 K
      rw [lbF] at K
      refine go_iload (at_of tX10_cutsLines 1 5 rfl) rfl rfl ?_
      refine go_iload_n (at_of tX10_cutsLines 1 6 rfl) rfl ?_
      refine go_icmp_lt (tgt := 54) (at_of tX10_cutsLines 1 7 rfl) (by decide) (fun h35 => ?_) (fun h35 => ?_)
      rotate_left
      · exfalso; omega
      refine go_iload (at_of tX10_cutsLines 1 15 rfl) rfl rfl ?_
      refine go_iload_n (at_of tX10_cutsLines 2 0 rfl) rfl ?_
      refine go_icmp_lt (tgt := 67) (at_of tX10_cutsLines 2 1 rfl) (by decide) (fun h57 => ?_) (fun h57 => ?_)
      rotate_left
      · exfalso; omega
      refine go_iload_n (at_of tX10_cutsLines 2 6 rfl) rfl ?_
      refine go_istore_n (at_of tX10_cutsLines 2 7 rfl) rfl rfl ?_
      refine go_goto (tgt := 77) (at_of tX10_cutsLines 2 8 rfl) (by decide) ?_
      exact K _ _
    | succ m ih =>
      intro b k a s σ v5 out hS hb h0 h1 h2 h3 K
      have eb := hb s (by omega) (by omega)
      have eB : B s = true ↔ σ0.1 132 s.toNat ≠ 0 := by rw [hBd]; exact decide_eq_true_iff
      rw [lbF] at K
      by_cases hs : B s = true
      · rw [if_pos hs] at K
        have hs2 := eB.mp hs
        refine go_iload (at_of tX10_cutsLines 1 5 rfl) rfl rfl ?_
        refine go_iload_n (at_of tX10_cutsLines 1 6 rfl) rfl ?_
        refine go_icmp_lt (tgt := 54) (at_of tX10_cutsLines 1 7 rfl) (by decide) (fun h35 => ?_) (fun h35 => ?_)
        · exfalso; omega
        refine go_aload_n (at_of tX10_cutsLines 1 8 rfl) rfl ?_
        refine go_getr (q := 132) fl_X10_92 rfl G_109 (by first | exact (hS _ _ rfl).trans rfl | exact (hS1 _ _ rfl).trans rfl | exact (hS2 _ _ rfl).trans rfl | exact (hS3 _ _ rfl).trans rfl | exact (hS4 _ _ rfl).trans rfl) (at_of tX10_cutsLines 1 9 rfl) ?_
        refine go_iload (at_of tX10_cutsLines 1 10 rfl) rfl rfl ?_
        refine go_bald G_132 (by omega) (by omega) (at_of tX10_cutsLines 1 11 rfl) ?_
        refine go_if_ne (tgt := 54) (at_of tX10_cutsLines 1 12 rfl) (by decide) (fun h45 => ?_) (fun h45 => ?_)
        rotate_left
        · exfalso; omega
        refine go_iload (at_of tX10_cutsLines 1 15 rfl) rfl rfl ?_
        refine go_iload_n (at_of tX10_cutsLines 2 0 rfl) rfl ?_
        refine go_icmp_lt (tgt := 67) (at_of tX10_cutsLines 2 1 rfl) (by decide) (fun h57 => ?_) (fun h57 => ?_)
        · exfalso; omega
        refine go_iload (at_of tX10_cutsLines 2 2 rfl) rfl rfl ?_
        refine go_iconst (at_of tX10_cutsLines 2 3 rfl) (by unfold in32; omega) ?_
        refine go_iadd (at_of tX10_cutsLines 2 4 rfl) (by unfold in32; omega) ?_
        refine go_goto (tgt := 68) (at_of tX10_cutsLines 2 5 rfl) (by decide) ?_
        refine go_istore_n (at_of tX10_cutsLines 2 7 rfl) rfl rfl ?_
        refine go_goto (tgt := 77) (at_of tX10_cutsLines 2 8 rfl) (by decide) ?_
        exact K _ _
      · rw [if_neg hs] at K
        have hs2 : σ0.1 132 s.toNat = 0 := Decidable.not_not.mp (fun q => hs (eB.mpr q))
        refine go_iload (at_of tX10_cutsLines 1 5 rfl) rfl rfl ?_
        refine go_iload_n (at_of tX10_cutsLines 1 6 rfl) rfl ?_
        refine go_icmp_lt (tgt := 54) (at_of tX10_cutsLines 1 7 rfl) (by decide) (fun h35 => ?_) (fun h35 => ?_)
        · exfalso; omega
        refine go_aload_n (at_of tX10_cutsLines 1 8 rfl) rfl ?_
        refine go_getr (q := 132) fl_X10_92 rfl G_109 (by first | exact (hS _ _ rfl).trans rfl | exact (hS1 _ _ rfl).trans rfl | exact (hS2 _ _ rfl).trans rfl | exact (hS3 _ _ rfl).trans rfl | exact (hS4 _ _ rfl).trans rfl) (at_of tX10_cutsLines 1 9 rfl) ?_
        refine go_iload (at_of tX10_cutsLines 1 10 rfl) rfl rfl ?_
        refine go_bald G_132 (by omega) (by omega) (at_of tX10_cutsLines 1 11 rfl) ?_
        refine go_if_ne (tgt := 54) (at_of tX10_cutsLines 1 12 rfl) (by decide) (fun h45 => ?_) (fun h45 => ?_)
        · exfalso; omega
        refine go_iinc (at_of tX10_cutsLines 1 13 rfl) rfl (by unfold in32; omega) rfl rfl ?_
        refine go_goto (tgt := 32) (at_of tX10_cutsLines 1 14 rfl) (by decide) ?_
        exact ih _ _ _ _ _ _ _ hS hb h0 h1 (by omega) (by omega) K
  have key3 : ∀ (m : Nat) (k a e s : Int) (σ : St), Str σ.2.1 → CtI T W B ow X Y σ0 σ s → 0 ≤ s → s + m = e → e ≤ T → (∀ x, s ≤ x → x < e → lnO B W T x 512 0 = k) → ∃ σ', CtI T W B ow X Y σ0 σ' e ∧ ∀ (b : Nat × Nat) (v5 : MV) (out : MV × St), (∀ (b : Nat × Nat) (v5 : MV), Go (fun _ => 0) 0 mX10_cutsLines b 169 [vA 109, vI k, vI a, vI e, vI e, v5] [] σ' out) → Go (fun _ => 0) 0 mX10_cutsLines b 80 [vA 109, vI k, vI a, vI e, vI s, v5] [] σ out := by
    intro m
    induction m with
    | zero =>
      intro k a e s σ hS hI h0 h1 h2 h3
      obtain rfl : s = e := by omega
      refine ⟨σ, hI, fun b v5 out K => ?_⟩
      refine go_iload (at_of tX10_cutsLines 2 14 rfl) rfl rfl ?_
      refine go_iload_n (at_of tX10_cutsLines 2 15 rfl) rfl ?_
      refine go_icmp_ge (tgt := 169) (at_of tX10_cutsLines 3 0 rfl) (by decide) (fun h83 => ?_) (fun h83 => ?_)
      rotate_left
      · exfalso; omega
      exact K _ _
    | succ m ih =>
      intro k a e s σ hS hI h0 h1 h2 h3
      have o1 := hO s h0 (by omega)
      have nw := hO.new h0 (show s < T by omega)
      have hk := h3 s (Int.le_refl _) (by omega)
      have ho : ∀ x, 0 ≤ x → x < T → σ.1 131 x.toNat = ow x := fun x a0 a1 => by
        rw [hI.1.2 131 _ (fun q => absurd q.1 (by omega))]; exact howd x a0 a1
      have ho1 := ho s h0 (by omega)
      obtain ⟨σ', z1, z2⟩ := ih k a e (s + 1) (M1 (M1 σ 126 (ow s) (if X (ow s) = s then k else σ.1 126 (ow s).toNat)) 127 (ow s) k) hS (hI.step hO h0 (by omega) hk rfl) (by omega) (by omega) h2 (fun x a0 a1 => h3 x (by omega) a1)
      refine ⟨σ', z1, fun b v5 out K => ?_⟩
      have z2 := fun b v5 => z2 b v5 out K
      by_cases hx : X (ow s) = s
      · rw [if_pos hx] at z2
        by_cases hz : s = 0
        · have ho2 := ho1
          refine go_iload (at_of tX10_cutsLines 2 14 rfl) rfl rfl ?_
          refine go_iload_n (at_of tX10_cutsLines 2 15 rfl) rfl ?_
          refine go_icmp_ge (tgt := 169) (at_of tX10_cutsLines 3 0 rfl) (by decide) (fun h83 => ?_) (fun h83 => ?_)
          · exfalso; omega
          refine go_iload (at_of tX10_cutsLines 3 1 rfl) rfl rfl ?_
          refine go_if_eq (tgt := 110) (at_of tX10_cutsLines 3 2 rfl) (by decide) (fun h88 => ?_) (fun h88 => ?_)
          rotate_left
          · exfalso; omega
          refine go_iconst (at_of tX10_cutsLines 3 14 rfl) (by unfold in32; omega) ?_
          refine go_goto (tgt := 115) (at_of tX10_cutsLines 3 15 rfl) (by decide) ?_
          refine go_istore (at_of tX10_cutsLines 4 1 rfl) rfl rfl ?_
          refine go_aload_n (at_of tX10_cutsLines 4 2 rfl) rfl ?_
          refine go_getr (q := 126) fl_X10_74 rfl G_109 (by first | exact (hS _ _ rfl).trans rfl | exact (hS1 _ _ rfl).trans rfl | exact (hS2 _ _ rfl).trans rfl | exact (hS3 _ _ rfl).trans rfl | exact (hS4 _ _ rfl).trans rfl) (at_of tX10_cutsLines 4 3 rfl) ?_
          refine go_aload_n (at_of tX10_cutsLines 4 4 rfl) rfl ?_
          refine go_getr (q := 131) fl_X10_89 rfl G_109 (by first | exact (hS _ _ rfl).trans rfl | exact (hS1 _ _ rfl).trans rfl | exact (hS2 _ _ rfl).trans rfl | exact (hS3 _ _ rfl).trans rfl | exact (hS4 _ _ rfl).trans rfl) (at_of tX10_cutsLines 4 5 rfl) ?_
          refine go_iload (at_of tX10_cutsLines 4 6 rfl) rfl rfl ?_
          refine go_iald G_131 (by omega) (by omega) (at_of tX10_cutsLines 4 7 rfl) ?_
          rw [ho1]
          refine go_iload (at_of tX10_cutsLines 4 8 rfl) rfl rfl ?_
          refine go_if_eq (tgt := 137) (at_of tX10_cutsLines 4 9 rfl) (by decide) (fun h130 => ?_) (fun h130 => ?_)
          · exfalso; omega
          refine go_iload_n (at_of tX10_cutsLines 4 10 rfl) rfl ?_
          refine go_goto (tgt := 149) (at_of tX10_cutsLines 4 11 rfl) (by decide) ?_
          refine go_iast1 G_126 (by omega) (by omega) (at_of tX10_cutsLines 5 3 rfl) ?_
          refine go_aload_n (at_of tX10_cutsLines 5 4 rfl) rfl ?_
          refine go_getr (q := 127) fl_X10_77 rfl G_109 (by first | exact (hS _ _ rfl).trans rfl | exact (hS1 _ _ rfl).trans rfl | exact (hS2 _ _ rfl).trans rfl | exact (hS3 _ _ rfl).trans rfl | exact (hS4 _ _ rfl).trans rfl) (at_of tX10_cutsLines 5 5 rfl) ?_
          refine go_aload_n (at_of tX10_cutsLines 5 6 rfl) rfl ?_
          refine go_getr (q := 131) fl_X10_89 rfl G_109 (by first | exact (hS _ _ rfl).trans rfl | exact (hS1 _ _ rfl).trans rfl | exact (hS2 _ _ rfl).trans rfl | exact (hS3 _ _ rfl).trans rfl | exact (hS4 _ _ rfl).trans rfl) (at_of tX10_cutsLines 5 7 rfl) ?_
          refine go_iload (at_of tX10_cutsLines 5 8 rfl) rfl rfl ?_
          refine go_iald G_131 (by omega) (by omega) (at_of tX10_cutsLines 5 9 rfl) ?_
          rw [M1_ne (by omega), ho1]
          refine go_iload_n (at_of tX10_cutsLines 5 10 rfl) rfl ?_
          refine go_iast1 G_127 (by omega) (by omega) (at_of tX10_cutsLines 5 11 rfl) ?_
          refine go_iinc (at_of tX10_cutsLines 5 12 rfl) rfl (by unfold in32; omega) rfl rfl ?_
          refine go_goto (tgt := 80) (at_of tX10_cutsLines 5 13 rfl) (by decide) ?_
          exact z2 _ _
        · have ho3 := (nw.mp hx).resolve_left hz
          have ho2 := ho (s - 1) (by omega) (by omega)
          refine go_iload (at_of tX10_cutsLines 2 14 rfl) rfl rfl ?_
          refine go_iload_n (at_of tX10_cutsLines 2 15 rfl) rfl ?_
          refine go_icmp_ge (tgt := 169) (at_of tX10_cutsLines 3 0 rfl) (by decide) (fun h83 => ?_) (fun h83 => ?_)
          · exfalso; omega
          refine go_iload (at_of tX10_cutsLines 3 1 rfl) rfl rfl ?_
          refine go_if_eq (tgt := 110) (at_of tX10_cutsLines 3 2 rfl) (by decide) (fun h88 => ?_) (fun h88 => ?_)
          · exfalso; omega
          refine go_aload_n (at_of tX10_cutsLines 3 3 rfl) rfl ?_
          refine go_getr (q := 131) fl_X10_89 rfl G_109 (by first | exact (hS _ _ rfl).trans rfl | exact (hS1 _ _ rfl).trans rfl | exact (hS2 _ _ rfl).trans rfl | exact (hS3 _ _ rfl).trans rfl | exact (hS4 _ _ rfl).trans rfl) (at_of tX10_cutsLines 3 4 rfl) ?_
          refine go_iload (at_of tX10_cutsLines 3 5 rfl) rfl rfl ?_
          refine go_iconst (at_of tX10_cutsLines 3 6 rfl) (by unfold in32; omega) ?_
          refine go_isub (at_of tX10_cutsLines 3 7 rfl) (by unfold in32; omega) ?_
          refine go_iald G_131 (by omega) (by omega) (at_of tX10_cutsLines 3 8 rfl) ?_
          refine go_aload_n (at_of tX10_cutsLines 3 9 rfl) rfl ?_
          refine go_getr (q := 131) fl_X10_89 rfl G_109 (by first | exact (hS _ _ rfl).trans rfl | exact (hS1 _ _ rfl).trans rfl | exact (hS2 _ _ rfl).trans rfl | exact (hS3 _ _ rfl).trans rfl | exact (hS4 _ _ rfl).trans rfl) (at_of tX10_cutsLines 3 10 rfl) ?_
          refine go_iload (at_of tX10_cutsLines 3 11 rfl) rfl rfl ?_
          refine go_iald G_131 (by omega) (by omega) (at_of tX10_cutsLines 3 12 rfl) ?_
          refine go_icmp_eq (tgt := 114) (at_of tX10_cutsLines 3 13 rfl) (by decide) (fun h107 => ?_) (fun h107 => ?_)
          · exfalso; omega
          refine go_iconst (at_of tX10_cutsLines 3 14 rfl) (by unfold in32; omega) ?_
          refine go_goto (tgt := 115) (at_of tX10_cutsLines 3 15 rfl) (by decide) ?_
          refine go_istore (at_of tX10_cutsLines 4 1 rfl) rfl rfl ?_
          refine go_aload_n (at_of tX10_cutsLines 4 2 rfl) rfl ?_
          refine go_getr (q := 126) fl_X10_74 rfl G_109 (by first | exact (hS _ _ rfl).trans rfl | exact (hS1 _ _ rfl).trans rfl | exact (hS2 _ _ rfl).trans rfl | exact (hS3 _ _ rfl).trans rfl | exact (hS4 _ _ rfl).trans rfl) (at_of tX10_cutsLines 4 3 rfl) ?_
          refine go_aload_n (at_of tX10_cutsLines 4 4 rfl) rfl ?_
          refine go_getr (q := 131) fl_X10_89 rfl G_109 (by first | exact (hS _ _ rfl).trans rfl | exact (hS1 _ _ rfl).trans rfl | exact (hS2 _ _ rfl).trans rfl | exact (hS3 _ _ rfl).trans rfl | exact (hS4 _ _ rfl).trans rfl) (at_of tX10_cutsLines 4 5 rfl) ?_
          refine go_iload (at_of tX10_cutsLines 4 6 rfl) rfl rfl ?_
          refine go_iald G_131 (by omega) (by omega) (at_of tX10_cutsLines 4 7 rfl) ?_
          rw [ho1]
          refine go_iload (at_of tX10_cutsLines 4 8 rfl) rfl rfl ?_
          refine go_if_eq (tgt := 137) (at_of tX10_cutsLines 4 9 rfl) (by decide) (fun h130 => ?_) (fun h130 => ?_)
          · exfalso; omega
          refine go_iload_n (at_of tX10_cutsLines 4 10 rfl) rfl ?_
          refine go_goto (tgt := 149) (at_of tX10_cutsLines 4 11 rfl) (by decide) ?_
          refine go_iast1 G_126 (by omega) (by omega) (at_of tX10_cutsLines 5 3 rfl) ?_
          refine go_aload_n (at_of tX10_cutsLines 5 4 rfl) rfl ?_
          refine go_getr (q := 127) fl_X10_77 rfl G_109 (by first | exact (hS _ _ rfl).trans rfl | exact (hS1 _ _ rfl).trans rfl | exact (hS2 _ _ rfl).trans rfl | exact (hS3 _ _ rfl).trans rfl | exact (hS4 _ _ rfl).trans rfl) (at_of tX10_cutsLines 5 5 rfl) ?_
          refine go_aload_n (at_of tX10_cutsLines 5 6 rfl) rfl ?_
          refine go_getr (q := 131) fl_X10_89 rfl G_109 (by first | exact (hS _ _ rfl).trans rfl | exact (hS1 _ _ rfl).trans rfl | exact (hS2 _ _ rfl).trans rfl | exact (hS3 _ _ rfl).trans rfl | exact (hS4 _ _ rfl).trans rfl) (at_of tX10_cutsLines 5 7 rfl) ?_
          refine go_iload (at_of tX10_cutsLines 5 8 rfl) rfl rfl ?_
          refine go_iald G_131 (by omega) (by omega) (at_of tX10_cutsLines 5 9 rfl) ?_
          rw [M1_ne (by omega), ho1]
          refine go_iload_n (at_of tX10_cutsLines 5 10 rfl) rfl ?_
          refine go_iast1 G_127 (by omega) (by omega) (at_of tX10_cutsLines 5 11 rfl) ?_
          refine go_iinc (at_of tX10_cutsLines 5 12 rfl) rfl (by unfold in32; omega) rfl rfl ?_
          refine go_goto (tgt := 80) (at_of tX10_cutsLines 5 13 rfl) (by decide) ?_
          exact z2 _ _
      · rw [if_neg hx] at z2
        have hz : s ≠ 0 := fun q => hx (nw.mpr (Or.inl q))
        have ho2 := ho (s - 1) (by omega) (by omega)
        have ho3 : ow (s - 1) = ow s := Decidable.not_not.mp (fun q => hx (nw.mpr (Or.inr q)))
        refine go_iload (at_of tX10_cutsLines 2 14 rfl) rfl rfl ?_
        refine go_iload_n (at_of tX10_cutsLines 2 15 rfl) rfl ?_
        refine go_icmp_ge (tgt := 169) (at_of tX10_cutsLines 3 0 rfl) (by decide) (fun h83 => ?_) (fun h83 => ?_)
        · exfalso; omega
        refine go_iload (at_of tX10_cutsLines 3 1 rfl) rfl rfl ?_
        refine go_if_eq (tgt := 110) (at_of tX10_cutsLines 3 2 rfl) (by decide) (fun h88 => ?_) (fun h88 => ?_)
        · exfalso; omega
        refine go_aload_n (at_of tX10_cutsLines 3 3 rfl) rfl ?_
        refine go_getr (q := 131) fl_X10_89 rfl G_109 (by first | exact (hS _ _ rfl).trans rfl | exact (hS1 _ _ rfl).trans rfl | exact (hS2 _ _ rfl).trans rfl | exact (hS3 _ _ rfl).trans rfl | exact (hS4 _ _ rfl).trans rfl) (at_of tX10_cutsLines 3 4 rfl) ?_
        refine go_iload (at_of tX10_cutsLines 3 5 rfl) rfl rfl ?_
        refine go_iconst (at_of tX10_cutsLines 3 6 rfl) (by unfold in32; omega) ?_
        refine go_isub (at_of tX10_cutsLines 3 7 rfl) (by unfold in32; omega) ?_
        refine go_iald G_131 (by omega) (by omega) (at_of tX10_cutsLines 3 8 rfl) ?_
        refine go_aload_n (at_of tX10_cutsLines 3 9 rfl) rfl ?_
        refine go_getr (q := 131) fl_X10_89 rfl G_109 (by first | exact (hS _ _ rfl).trans rfl | exact (hS1 _ _ rfl).trans rfl | exact (hS2 _ _ rfl).trans rfl | exact (hS3 _ _ rfl).trans rfl | exact (hS4 _ _ rfl).trans rfl) (at_of tX10_cutsLines 3 10 rfl) ?_
        refine go_iload (at_of tX10_cutsLines 3 11 rfl) rfl rfl ?_
        refine go_iald G_131 (by omega) (by omega) (at_of tX10_cutsLines 3 12 rfl) ?_
        refine go_icmp_eq (tgt := 114) (at_of tX10_cutsLines 3 13 rfl) (by decide) (fun h107 => ?_) (fun h107 => ?_)
        rotate_left
        · exfalso; omega
        refine go_iconst (at_of tX10_cutsLines 4 0 rfl) (by unfold in32; omega) ?_
        refine go_istore (at_of tX10_cutsLines 4 1 rfl) rfl rfl ?_
        refine go_aload_n (at_of tX10_cutsLines 4 2 rfl) rfl ?_
        refine go_getr (q := 126) fl_X10_74 rfl G_109 (by first | exact (hS _ _ rfl).trans rfl | exact (hS1 _ _ rfl).trans rfl | exact (hS2 _ _ rfl).trans rfl | exact (hS3 _ _ rfl).trans rfl | exact (hS4 _ _ rfl).trans rfl) (at_of tX10_cutsLines 4 3 rfl) ?_
        refine go_aload_n (at_of tX10_cutsLines 4 4 rfl) rfl ?_
        refine go_getr (q := 131) fl_X10_89 rfl G_109 (by first | exact (hS _ _ rfl).trans rfl | exact (hS1 _ _ rfl).trans rfl | exact (hS2 _ _ rfl).trans rfl | exact (hS3 _ _ rfl).trans rfl | exact (hS4 _ _ rfl).trans rfl) (at_of tX10_cutsLines 4 5 rfl) ?_
        refine go_iload (at_of tX10_cutsLines 4 6 rfl) rfl rfl ?_
        refine go_iald G_131 (by omega) (by omega) (at_of tX10_cutsLines 4 7 rfl) ?_
        rw [ho1]
        refine go_iload (at_of tX10_cutsLines 4 8 rfl) rfl rfl ?_
        refine go_if_eq (tgt := 137) (at_of tX10_cutsLines 4 9 rfl) (by decide) (fun h130 => ?_) (fun h130 => ?_)
        rotate_left
        · exfalso; omega
        refine go_aload_n (at_of tX10_cutsLines 4 12 rfl) rfl ?_
        refine go_getr (q := 126) fl_X10_74 rfl G_109 (by first | exact (hS _ _ rfl).trans rfl | exact (hS1 _ _ rfl).trans rfl | exact (hS2 _ _ rfl).trans rfl | exact (hS3 _ _ rfl).trans rfl | exact (hS4 _ _ rfl).trans rfl) (at_of tX10_cutsLines 4 13 rfl) ?_
        refine go_aload_n (at_of tX10_cutsLines 4 14 rfl) rfl ?_
        refine go_getr (q := 131) fl_X10_89 rfl G_109 (by first | exact (hS _ _ rfl).trans rfl | exact (hS1 _ _ rfl).trans rfl | exact (hS2 _ _ rfl).trans rfl | exact (hS3 _ _ rfl).trans rfl | exact (hS4 _ _ rfl).trans rfl) (at_of tX10_cutsLines 4 15 rfl) ?_
        refine go_iload (at_of tX10_cutsLines 5 0 rfl) rfl rfl ?_
        refine go_iald G_131 (by omega) (by omega) (at_of tX10_cutsLines 5 1 rfl) ?_
        rw [ho1]
        refine go_iald G_126 (by omega) (by omega) (at_of tX10_cutsLines 5 2 rfl) ?_
        refine go_iast1 G_126 (by omega) (by omega) (at_of tX10_cutsLines 5 3 rfl) ?_
        refine go_aload_n (at_of tX10_cutsLines 5 4 rfl) rfl ?_
        refine go_getr (q := 127) fl_X10_77 rfl G_109 (by first | exact (hS _ _ rfl).trans rfl | exact (hS1 _ _ rfl).trans rfl | exact (hS2 _ _ rfl).trans rfl | exact (hS3 _ _ rfl).trans rfl | exact (hS4 _ _ rfl).trans rfl) (at_of tX10_cutsLines 5 5 rfl) ?_
        refine go_aload_n (at_of tX10_cutsLines 5 6 rfl) rfl ?_
        refine go_getr (q := 131) fl_X10_89 rfl G_109 (by first | exact (hS _ _ rfl).trans rfl | exact (hS1 _ _ rfl).trans rfl | exact (hS2 _ _ rfl).trans rfl | exact (hS3 _ _ rfl).trans rfl | exact (hS4 _ _ rfl).trans rfl) (at_of tX10_cutsLines 5 7 rfl) ?_
        refine go_iload (at_of tX10_cutsLines 5 8 rfl) rfl rfl ?_
        refine go_iald G_131 (by omega) (by omega) (at_of tX10_cutsLines 5 9 rfl) ?_
        rw [M1_ne (by omega), ho1]
        refine go_iload_n (at_of tX10_cutsLines 5 10 rfl) rfl ?_
        refine go_iast1 G_127 (by omega) (by omega) (at_of tX10_cutsLines 5 11 rfl) ?_
        refine go_iinc (at_of tX10_cutsLines 5 12 rfl) rfl (by unfold in32; omega) rfl rfl ?_
        refine go_goto (tgt := 80) (at_of tX10_cutsLines 5 13 rfl) (by decide) ?_
        exact z2 _ _
  have key : ∀ (m : Nat) (a k : Int) (σ : St), Str σ.2.1 → CtI T W B ow X Y σ0 σ a → 0 ≤ a → a ≤ T → T - a < m → 0 ≤ k → k + m = 512 → (∀ s, a ≤ s → s < T → lnO B W T s 512 0 = k + lnO B W T s m a) → ∃ σ', CtI T W B ow X Y σ0 σ' T ∧ ∀ (b : Nat × Nat) (v3 v4 v5 : MV), Go (fun _ => 0) 0 mX10_cutsLines b 4 [vA 109, vI k, vI a, v3, v4, v5] [] σ (vI (if a < T then k + lnC B W T m a else if k = 0 then 1 else k), σ') := by
    intro m
    induction m with
    | zero => intro a k σ hS hI h0 h1 h2; exfalso; omega
    | succ m ih =>
      intro a k σ hS hI h0 h1 h2 h3 h4 h5
      have t1 : σ.1 109 33 = T := (hI.1.2 109 33 (fun q => absurd q.1 (by omega))).trans hT
      have t2 : σ.1 109 19 = W := (hI.1.2 109 19 (fun q => absurd q.1 (by omega))).trans hWd
      have t3 : ∀ x, 0 ≤ x → x < T → σ.1 132 x.toNat = σ0.1 132 x.toNat := fun x _ _ => hI.1.2 132 _ (fun q => absurd q.1 (by omega))
      by_cases ha : a < T
      · have le := lnE_b (B := B) (w := W) (by omega) ha
        obtain ⟨e, he⟩ : ∃ e, e = lnE B W a T := ⟨_, rfl⟩
        rw [← he] at le
        have hk : ∀ x, a ≤ x → x < e → lnO B W T x 512 0 = k := fun x a0 a1 => by
          rw [h5 x a0 (by omega), lnO, ← he, if_pos a1]; omega
        obtain ⟨σ1, y1, y2⟩ := key3 (e - a).toNat k a e a σ hS hI h0 (by omega) le.2 hk
        have hS1 : Str σ1.2.1 := by rw [y1.1.1]; exact hSt
        obtain ⟨σ2, x1, x2⟩ := ih e (k + 1) σ1 hS1 y1 (by omega) le.2 (by omega) (by omega) (by omega) (fun s a0 a1 => by
          rw [h5 s (by omega) a1, lnO, ← he, if_neg (by omega)]; omega)
        refine ⟨σ2, x1, fun b v3 v4 v5 => ?_⟩
        have hr : (if a < T then k + lnC B W T (m + 1) a else if k = 0 then 1 else k) = (if e < T then k + 1 + lnC B W T m e else if k + 1 = 0 then 1 else k + 1) := by
          rw [if_pos ha, lnC, ← he]
          by_cases hq : e < T
          · rw [if_pos hq, if_neg (by omega)]; omega
          · rw [if_neg hq, if_pos (by omega), if_neg (by omega)]
        rw [hr]
        have fin : ∀ (b : Nat × Nat) (v4 v5 : MV), Go (fun _ => 0) 0 mX10_cutsLines b 77 [vA 109, vI k, vI a, vI e, v4, v5] [] σ (vI (if e < T then k + 1 + lnC B W T m e else if k + 1 = 0 then 1 else k + 1), σ2) := fun b v4 v5 => by
          refine go_iload_n (at_of tX10_cutsLines 2 12 rfl) rfl ?_
          refine go_istore (at_of tX10_cutsLines 2 13 rfl) rfl rfl ?_
          refine y2 _ _ _ (fun b v5 => ?_)
          refine go_iinc (at_of tX10_cutsLines 5 14 rfl) rfl (by unfold in32; omega) rfl rfl ?_
          refine go_iload_n (at_of tX10_cutsLines 5 15 rfl) rfl ?_
          refine go_istore_n (at_of tX10_cutsLines 6 0 rfl) rfl rfl ?_
          refine go_goto (tgt := 4) (at_of tX10_cutsLines 6 1 rfl) (by decide) ?_
          exact x2 _ _ _ _
        generalize ((vI (if e < T then k + 1 + lnC B W T m e else if k + 1 = 0 then 1 else k + 1), σ2) : MV × St) = out at fin ⊢
        by_cases hw : T - a ≤ W
        · have he2 : e = T := by rw [he]; exact if_pos hw
          rw [he2] at fin
          refine go_iload_n (at_of tX10_cutsLines 0 4 rfl) rfl ?_
          refine go_aload_n (at_of tX10_cutsLines 0 5 rfl) rfl ?_
          refine go_getf fl_X10_297 rfl G_109 (at_of tX10_cutsLines 0 6 rfl) ?_
          refine go_icmp_ge (tgt := 177) (at_of tX10_cutsLines 0 7 rfl) (by decide) (fun h9 => ?_) (fun h9 => ?_)
          · exfalso; omega
          refine go_iload_n (at_of tX10_cutsLines 0 8 rfl) rfl ?_
          refine go_aload_n (at_of tX10_cutsLines 0 9 rfl) rfl ?_
          refine go_getf fl_X10_56 rfl G_109 (at_of tX10_cutsLines 0 10 rfl) ?_
          refine go_iadd (at_of tX10_cutsLines 0 11 rfl) (by unfold in32; omega) ?_
          refine go_istore_n (at_of tX10_cutsLines 0 12 rfl) rfl rfl ?_
          refine go_iload_n (at_of tX10_cutsLines 0 13 rfl) rfl ?_
          refine go_aload_n (at_of tX10_cutsLines 0 14 rfl) rfl ?_
          refine go_getf fl_X10_297 rfl G_109 (at_of tX10_cutsLines 0 15 rfl) ?_
          refine go_icmp_ge (tgt := 72) (at_of tX10_cutsLines 1 0 rfl) (by decide) (fun h24 => ?_) (fun h24 => ?_)
          rotate_left
          · exfalso; omega
          refine go_aload_n (at_of tX10_cutsLines 2 9 rfl) rfl ?_
          refine go_getf fl_X10_297 rfl G_109 (at_of tX10_cutsLines 2 10 rfl) ?_
          rw [t1]
          refine go_istore_n (at_of tX10_cutsLines 2 11 rfl) rfl rfl ?_
          exact fin _ _ _
        · have he2 : e = lbF B (a + W) W.toNat (a + W - 1) := by rw [he]; exact if_neg hw
          rw [he2] at fin
          refine go_iload_n (at_of tX10_cutsLines 0 4 rfl) rfl ?_
          refine go_aload_n (at_of tX10_cutsLines 0 5 rfl) rfl ?_
          refine go_getf fl_X10_297 rfl G_109 (at_of tX10_cutsLines 0 6 rfl) ?_
          refine go_icmp_ge (tgt := 177) (at_of tX10_cutsLines 0 7 rfl) (by decide) (fun h9 => ?_) (fun h9 => ?_)
          · exfalso; omega
          refine go_iload_n (at_of tX10_cutsLines 0 8 rfl) rfl ?_
          refine go_aload_n (at_of tX10_cutsLines 0 9 rfl) rfl ?_
          refine go_getf fl_X10_56 rfl G_109 (at_of tX10_cutsLines 0 10 rfl) ?_
          rw [t2]
          refine go_iadd (at_of tX10_cutsLines 0 11 rfl) (by unfold in32; omega) ?_
          refine go_istore_n (at_of tX10_cutsLines 0 12 rfl) rfl rfl ?_
          refine go_iload_n (at_of tX10_cutsLines 0 13 rfl) rfl ?_
          refine go_aload_n (at_of tX10_cutsLines 0 14 rfl) rfl ?_
          refine go_getf fl_X10_297 rfl G_109 (at_of tX10_cutsLines 0 15 rfl) ?_
          refine go_icmp_ge (tgt := 72) (at_of tX10_cutsLines 1 0 rfl) (by decide) (fun h24 => ?_) (fun h24 => ?_)
          · exfalso; omega
          refine go_iload_n (at_of tX10_cutsLines 1 1 rfl) rfl ?_
          refine go_iconst (at_of tX10_cutsLines 1 2 rfl) (by unfold in32; omega) ?_
          refine go_isub (at_of tX10_cutsLines 1 3 rfl) (by unfold in32; omega) ?_
          refine go_istore (at_of tX10_cutsLines 1 4 rfl) rfl rfl ?_
          exact key1 W.toNat _ _ _ _ σ _ _ hS t3 h0 (by omega) (by omega) (by omega) (fun b v4 => fin _ _ _)
      · obtain rfl : a = T := by omega
        refine ⟨σ, hI, fun b v3 v4 v5 => ?_⟩
        rw [if_neg ha]
        by_cases hk0 : k = 0
        · rw [if_pos hk0]
          refine go_iload_n (at_of tX10_cutsLines 0 4 rfl) rfl ?_
          refine go_aload_n (at_of tX10_cutsLines 0 5 rfl) rfl ?_
          refine go_getf fl_X10_297 rfl G_109 (at_of tX10_cutsLines 0 6 rfl) ?_
          refine go_icmp_ge (tgt := 177) (at_of tX10_cutsLines 0 7 rfl) (by decide) (fun h9 => ?_) (fun h9 => ?_)
          rotate_left
          · exfalso; omega
          refine go_iload_n (at_of tX10_cutsLines 6 2 rfl) rfl ?_
          refine go_if_ne (tgt := 185) (at_of tX10_cutsLines 6 3 rfl) (by decide) (fun h178 => ?_) (fun h178 => ?_)
          · exfalso; omega
          refine go_iconst (at_of tX10_cutsLines 6 4 rfl) (by unfold in32; omega) ?_
          refine go_goto (tgt := 186) (at_of tX10_cutsLines 6 5 rfl) (by decide) ?_
          first | exact go_reti (at_of tX10_cutsLines 6 7 rfl) rfl | exact go_reti (at_of tX10_cutsLines 6 7 rfl) (le_i (by omega)) | exact go_reti (at_of tX10_cutsLines 6 7 rfl) (le_i (by first | exact bI_t (by omega) | exact bI_f (by omega)))
        · rw [if_neg hk0]
          refine go_iload_n (at_of tX10_cutsLines 0 4 rfl) rfl ?_
          refine go_aload_n (at_of tX10_cutsLines 0 5 rfl) rfl ?_
          refine go_getf fl_X10_297 rfl G_109 (at_of tX10_cutsLines 0 6 rfl) ?_
          refine go_icmp_ge (tgt := 177) (at_of tX10_cutsLines 0 7 rfl) (by decide) (fun h9 => ?_) (fun h9 => ?_)
          rotate_left
          · exfalso; omega
          refine go_iload_n (at_of tX10_cutsLines 6 2 rfl) rfl ?_
          refine go_if_ne (tgt := 185) (at_of tX10_cutsLines 6 3 rfl) (by decide) (fun h178 => ?_) (fun h178 => ?_)
          rotate_left
          · exfalso; omega
          refine go_iload_n (at_of tX10_cutsLines 6 6 rfl) rfl ?_
          first | exact go_reti (at_of tX10_cutsLines 6 7 rfl) rfl | exact go_reti (at_of tX10_cutsLines 6 7 rfl) (le_i (by omega)) | exact go_reti (at_of tX10_cutsLines 6 7 rfl) (le_i (by first | exact bI_t (by omega) | exact bI_f (by omega)))
  have I0 : CtI T W B ow X Y σ0 σ0 0 := ⟨⟨rfl, fun _ _ _ => rfl⟩, fun s' a0 a1 => ⟨fun q => by have := hO s' a0 a1; omega, fun q => by have := hO s' a0 a1; omega⟩⟩
  obtain ⟨σ', z1, z2⟩ := key 512 0 0 σ0 hS I0 (by omega) (by omega) (by omega) (by omega) (by omega) (fun s _ _ => by omega)
  refine ⟨σ', ?_, z1⟩
  have hr : (if (0 : Int) < T then 0 + lnC B W T 512 0 else if (0 : Int) = 0 then 1 else 0) = lnC B W T 512 0 := by
    by_cases hq : 0 < T
    · rw [if_pos hq]; omega
    · obtain rfl : T = 0 := by omega
      rw [if_neg hq, if_pos rfl, show (512 : Nat) = 511 + 1 from rfl, lnC, lnE_e (by omega), if_pos (Int.le_refl _)]
  rw [hr] at z2
  refine con_of_go mfX10_cutsLines.1 trivial (Nat.le_of_ble_eq_true rfl) rfl (by decide) ?_
  show Go _ _ _ _ 0 [vA _, vT 9 0, vT 9 0, vT 9 0, vT 9 0, vT 9 0] [] _ _
  refine go_iconst (at_of tX10_cutsLines 0 0 rfl) (by unfold in32; omega) ?_
  refine go_istore_n (at_of tX10_cutsLines 0 1 rfl) rfl rfl ?_
  refine go_iconst (at_of tX10_cutsLines 0 2 rfl) (by unfold in32; omega) ?_
  refine go_istore_n (at_of tX10_cutsLines 0 3 rfl) rfl rfl ?_
  exact z2 _ _ _ _
end Mod16
