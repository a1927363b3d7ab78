/-! The reference: what is found for a field. -/
section Mod20
variable {σ : St} {R : RowD} {Q : Int → Int}
theorem fstF_min {p : Int → Bool} {z : Int} : ∀ (n : Nat) (i j : Int), i ≤ j → j < fstF p z n i → j < i + n → ¬ p j = true := by
  intro n
  induction n with
  | zero => intro i j h0 h1 h2; exfalso; omega
  | succ n ih =>
    intro i j h0 h1 h2
    rw [fstF] at h1
    by_cases hp : p i = true
    · rw [if_pos hp] at h1; exfalso; omega
    · rw [if_neg hp] at h1
      by_cases hj : j = i
      · rw [hj]; exact hp
      · exact ih (i + 1) j (by omega) h1 (by omega)
theorem enN_const : ∀ (d : Nat) (i : Int), 0 ≤ i → (∀ j, i ≤ j → j < i + d → ¬ sendB R.1 R.2.1 j = true) → enN R (i + d) = enN R i := by
  intro d
  induction d with
  | zero => intro i _ _; rw [show i + ((0 : Nat) : Int) = i by omega]
  | succ d ih =>
    intro i h0 h
    rw [show i + ((d + 1 : Nat) : Int) = i + d + 1 by omega, enN_s (by omega), ind_f (h (i + d) (by omega) (by omega)), Int.add_zero]
    exact ih i h0 (fun j a b => h j a (by omega))
theorem endFr_ix (hL : LastE R) {u : Int} (h0 : 0 ≤ u) (h1 : u ≤ R.2.1) : ixEnd R.1 R.2.1 (enN R u) = endFr R.1 R.2.1 u := by
  obtain ⟨a, b, c, d⟩ := endFr_end hL h0 h1
  have e : enN R (endFr R.1 R.2.1 u) = enN R u := by
    have z := enN_const (R := R) (endFr R.1 R.2.1 u - u).toNat u h0 (fun j x y => fstF_min (R.2.1 - u).toNat u j x (by show j < endFr R.1 R.2.1 u; omega) (by omega))
    rw [show u + (((endFr R.1 R.2.1 u - u).toNat : Nat) : Int) = endFr R.1 R.2.1 u by omega] at z
    exact z
  rw [← e]
  exact ixEnd_enN (by omega) ((send_iff (by omega) b).mpr ⟨c, d⟩)
theorem m_isThere (hS : Str σ.2.1) {D : PapD} (hN : RepN (cN σ) D) (hW : WfM D) (hLt : LtW D.1) {f : Int} (hf : 0 ≤ f ∧ f < 20) : Con 1 mX10_isThere 0 0 [vA 109, vI f] σ (vI (bI (thB D.1 f = true)), σ) := by
  obtain ⟨hL, hSg, hMk, hRw⟩ := id hW
  obtain ⟨e1, e2, e3, e4⟩ := id hL
  unfold thB
  have key : ∀ (m : Nat) (b : Nat × Nat) (i c : Int), 0 ≤ i → i + m = D.1.2.1 → (c = 0 ∨ c = 1) → Go (fun _ => 0) 1 mX10_isThere b 4 [vA 109, vI f, vI c, vI i] [] σ (vI (if c = 1 then 1 else bI (anyF (fun j => decide (D.1.1 1 j = f)) m i = true)), σ) := by
    intro m
    induction m with
    | zero =>
      intro b i c h0 h1 h2
      rw [anyF]
      rcases h2 with h2 | h2
      · subst h2
        refine go_iload_n (at_of tX10_isThere 0 4 rfl) rfl ?_
        refine go_aload_n (at_of tX10_isThere 0 5 rfl) rfl ?_
        refine go_cV (m_many hS hN.1) lk_X10_110 rfl G_109 (at_of tX10_isThere 0 6 rfl) rfl (by decide) rfl (Nat.le_of_ble_eq_true rfl) rfl (by first | decide | exact ⟨Nat.zero_le _, Nat.zero_le _⟩) ?_
        refine go_icmp_ge (tgt := 42) (at_of tX10_isThere 0 7 rfl) (by decide) (fun h9 => ?_) (fun h9 => ?_)
        rotate_left
        · exfalso; omega
        refine go_iload_n (at_of tX10_isThere 1 8 rfl) rfl ?_
        exact go_reti (at_of tX10_isThere 1 9 rfl) (le_i (by rw [if_neg (by decide)]; exact bI_f (by decide)))
      · subst h2
        refine go_iload_n (at_of tX10_isThere 0 4 rfl) rfl ?_
        refine go_aload_n (at_of tX10_isThere 0 5 rfl) rfl ?_
        refine go_cV (m_many hS hN.1) lk_X10_110 rfl G_109 (at_of tX10_isThere 0 6 rfl) rfl (by decide) rfl (Nat.le_of_ble_eq_true rfl) rfl (by first | decide | exact ⟨Nat.zero_le _, Nat.zero_le _⟩) ?_
        refine go_icmp_ge (tgt := 42) (at_of tX10_isThere 0 7 rfl) (by decide) (fun h9 => ?_) (fun h9 => ?_)
        rotate_left
        · exfalso; omega
        refine go_iload_n (at_of tX10_isThere 1 8 rfl) rfl ?_
        exact go_reti (at_of tX10_isThere 1 9 rfl) (le_i (if_pos rfl))
    | succ m ih =>
      intro b i c h0 h1 h2
      have m0 := m_at0 hS hN.1 (u := i) (by omega)
      have hl := hLt i h0 (by omega)
      have hg := hSg i h0 (by omega)
      have hm : mk0 D.1 i = 1000 + f ↔ D.1.1 1 i = f := by
        unfold mk0
        by_cases hx : D.1.1 1 i = -1
        · rw [if_pos hx]; omega
        · rw [if_neg hx]; omega
      rw [anyF]
      rcases h2 with h2 | h2
      · subst h2
        by_cases hx : D.1.1 1 i = f
        · have hy := hm.mpr hx
          have e : (if (0 : Int) = 1 then 1 else bI ((decide (D.1.1 1 i = f) || anyF (fun j => decide (D.1.1 1 j = f)) m (i + 1)) = true)) = (if (1 : Int) = 1 then 1 else bI (anyF (fun j => decide (D.1.1 1 j = f)) m (i + 1) = true)) := by
            rw [if_neg (by decide), if_pos rfl, decide_eq_true hx]; exact bI_t rfl
          rw [e]
          refine go_iload_n (at_of tX10_isThere 0 4 rfl) rfl ?_
          refine go_aload_n (at_of tX10_isThere 0 5 rfl) rfl ?_
          refine go_cV (m_many hS hN.1) lk_X10_110 rfl G_109 (at_of tX10_isThere 0 6 rfl) rfl (by decide) rfl (Nat.le_of_ble_eq_true rfl) rfl (by first | decide | exact ⟨Nat.zero_le _, Nat.zero_le _⟩) ?_
          refine go_icmp_ge (tgt := 42) (at_of tX10_isThere 0 7 rfl) (by decide) (fun h9 => ?_) (fun h9 => ?_)
          · exfalso; omega
          refine go_iload_n (at_of tX10_isThere 0 8 rfl) rfl ?_
          refine go_if_ne (tgt := 30) (at_of tX10_isThere 0 9 rfl) (by decide) (fun h13 => ?_) (fun h13 => ?_)
          · exfalso; omega
          refine go_aload_n (at_of tX10_isThere 0 10 rfl) rfl ?_
          refine go_iload_n (at_of tX10_isThere 0 11 rfl) rfl ?_
          refine go_iconst (at_of tX10_isThere 0 12 rfl) (by unfold in32; omega) ?_
          refine go_cV (m0) lk_X10_106 rfl G_109 (at_of tX10_isThere 0 13 rfl) rfl (by decide) rfl (Nat.le_of_ble_eq_true rfl) rfl (by first | decide | exact ⟨Nat.zero_le _, Nat.zero_le _⟩) ?_
          refine go_sipush (at_of tX10_isThere 0 14 rfl) (by decide) ?_
          refine go_iload_n (at_of tX10_isThere 0 15 rfl) rfl ?_
          refine go_iadd (at_of tX10_isThere 1 0 rfl) (by unfold in32; omega) ?_
          refine go_icmp_ne (tgt := 34) (at_of tX10_isThere 1 1 rfl) (by decide) (fun h27 => ?_) (fun h27 => ?_)
          · exfalso; omega
          refine go_iconst (at_of tX10_isThere 1 2 rfl) (by unfold in32; omega) ?_
          refine go_goto (tgt := 35) (at_of tX10_isThere 1 3 rfl) (by decide) ?_
          refine go_istore_n (at_of tX10_isThere 1 5 rfl) rfl rfl ?_
          refine go_iinc (at_of tX10_isThere 1 6 rfl) rfl (by unfold in32; omega) rfl rfl ?_
          refine go_goto (tgt := 4) (at_of tX10_isThere 1 7 rfl) (by decide) ?_
          exact ih _ _ 1 (by omega) (by omega) (by omega)
        · have hy : ¬ mk0 D.1 i = 1000 + f := fun q => hx (hm.mp q)
          have e : (if (0 : Int) = 1 then 1 else bI ((decide (D.1.1 1 i = f) || anyF (fun j => decide (D.1.1 1 j = f)) m (i + 1)) = true)) = (if (0 : Int) = 1 then 1 else bI (anyF (fun j => decide (D.1.1 1 j = f)) m (i + 1) = true)) := by
            rw [if_neg (by decide), if_neg (by decide), decide_eq_false hx, Bool.false_or]
          rw [e]
          refine go_iload_n (at_of tX10_isThere 0 4 rfl) rfl ?_
          refine go_aload_n (at_of tX10_isThere 0 5 rfl) rfl ?_
          refine go_cV (m_many hS hN.1) lk_X10_110 rfl G_109 (at_of tX10_isThere 0 6 rfl) rfl (by decide) rfl (Nat.le_of_ble_eq_true rfl) rfl (by first | decide | exact ⟨Nat.zero_le _, Nat.zero_le _⟩) ?_
          refine go_icmp_ge (tgt := 42) (at_of tX10_isThere 0 7 rfl) (by decide) (fun h9 => ?_) (fun h9 => ?_)
          · exfalso; omega
          refine go_iload_n (at_of tX10_isThere 0 8 rfl) rfl ?_
          refine go_if_ne (tgt := 30) (at_of tX10_isThere 0 9 rfl) (by decide) (fun h13 => ?_) (fun h13 => ?_)
          · exfalso; omega
          refine go_aload_n (at_of tX10_isThere 0 10 rfl) rfl ?_
          refine go_iload_n (at_of tX10_isThere 0 11 rfl) rfl ?_
          refine go_iconst (at_of tX10_isThere 0 12 rfl) (by unfold in32; omega) ?_
          refine go_cV (m0) lk_X10_106 rfl G_109 (at_of tX10_isThere 0 13 rfl) rfl (by decide) rfl (Nat.le_of_ble_eq_true rfl) rfl (by first | decide | exact ⟨Nat.zero_le _, Nat.zero_le _⟩) ?_
          refine go_sipush (at_of tX10_isThere 0 14 rfl) (by decide) ?_
          refine go_iload_n (at_of tX10_isThere 0 15 rfl) rfl ?_
          refine go_iadd (at_of tX10_isThere 1 0 rfl) (by unfold in32; omega) ?_
          refine go_icmp_ne (tgt := 34) (at_of tX10_isThere 1 1 rfl) (by decide) (fun h27 => ?_) (fun h27 => ?_)
          rotate_left
          · exfalso; omega
          refine go_iconst (at_of tX10_isThere 1 4 rfl) (by unfold in32; omega) ?_
          refine go_istore_n (at_of tX10_isThere 1 5 rfl) rfl rfl ?_
          refine go_iinc (at_of tX10_isThere 1 6 rfl) rfl (by unfold in32; omega) rfl rfl ?_
          refine go_goto (tgt := 4) (at_of tX10_isThere 1 7 rfl) (by decide) ?_
          exact ih _ _ 0 (by omega) (by omega) (by omega)
      · subst h2
        rw [if_pos rfl]
        have ih1 := ih
        have e : (1 : Int) = (if (1 : Int) = 1 then 1 else bI (anyF (fun j => decide (D.1.1 1 j = f)) m (i + 1) = true)) := (if_pos rfl).symm
        have ih := fun b => ih b (i + 1) 1 (by omega) (by omega) (Or.inr rfl)
        rw [if_pos rfl] at ih
        refine go_iload_n (at_of tX10_isThere 0 4 rfl) rfl ?_
        refine go_aload_n (at_of tX10_isThere 0 5 rfl) rfl ?_
        refine go_cV (m_many hS hN.1) lk_X10_110 rfl G_109 (at_of tX10_isThere 0 6 rfl) rfl (by decide) rfl (Nat.le_of_ble_eq_true rfl) rfl (by first | decide | exact ⟨Nat.zero_le _, Nat.zero_le _⟩) ?_
        refine go_icmp_ge (tgt := 42) (at_of tX10_isThere 0 7 rfl) (by decide) (fun h9 => ?_) (fun h9 => ?_)
        · exfalso; omega
        refine go_iload_n (at_of tX10_isThere 0 8 rfl) rfl ?_
        refine go_if_ne (tgt := 30) (at_of tX10_isThere 0 9 rfl) (by decide) (fun h13 => ?_) (fun h13 => ?_)
        rotate_left
        · exfalso; omega
        refine go_iconst (at_of tX10_isThere 1 2 rfl) (by unfold in32; omega) ?_
        refine go_goto (tgt := 35) (at_of tX10_isThere 1 3 rfl) (by decide) ?_
        refine go_istore_n (at_of tX10_isThere 1 5 rfl) rfl rfl ?_
        refine go_iinc (at_of tX10_isThere 1 6 rfl) rfl (by unfold in32; omega) rfl rfl ?_
        refine go_goto (tgt := 4) (at_of tX10_isThere 1 7 rfl) (by decide) ?_
        exact ih _
  refine con_of_go mfX10_isThere.1 bI_01 (Nat.le_of_ble_eq_true rfl) rfl (by decide) ?_
  show Go _ _ _ _ 0 [vA _, vI _, vT 9 0, vT 9 0] [] _ _
  refine go_iconst (at_of tX10_isThere 0 0 rfl) (by unfold in32; omega) ?_
  refine go_istore_n (at_of tX10_isThere 0 1 rfl) rfl rfl ?_
  refine go_iconst (at_of tX10_isThere 0 2 rfl) (by unfold in32; omega) ?_
  refine go_istore_n (at_of tX10_isThere 0 3 rfl) rfl rfl ?_
  have z := fun b => key D.1.2.1.toNat b 0 0 (by omega) (by omega) (by omega)
  rw [if_neg (by decide)] at z
  exact z _
/-- a field's value by the reference's numbers -/
def vlM (σ : St) (R : RowD) (rc : Int) (Q : Int → Int) (f : Int) : Int := valF R Q (KVm σ) (σ.1 109 19) (σ.1 109 20) (σ.1 118 f.toNat) (σ.1 119 f.toNat) (σ.1 121 (3 * rc + σ.1 119 f.toNat).toNat)
def hdM (σ : St) (f : Int) : Int := σ.1 120 f.toNat
/-- nothing but counts has changed -/
def FrZ (σ σ' : St) : Prop := σ'.2 = σ.2 ∧ ∀ a j : Nat, a ≠ 123 → σ'.1 a j = σ.1 a j
theorem m_found (hS : Str σ.2.1) {D : PapD} (hN : RepN (cN σ) D) (hW : WfM D) (hE : EndW D.1) (hB : sgS D.1 D.2.2 (D.1.2.1 + 1) ≤ 500) {KV : Int → Int} {w : Int} (hw : 5 ≤ w) (hh : 2 ≤ σ.1 109 20 ∧ σ.1 109 20 ≤ 40) (hLay : LayM σ D.1 D.2.2 KV w (σ.1 109 20)) {f : Int} (hf : 0 ≤ f ∧ f < 20) (hc : 0 ≤ σ.1 109 18 ∧ σ.1 109 18 < 5) (hfk : fkB (σ.1 118 f.toNat) (σ.1 119 f.toNat)) : ∃ σ', Con 6 mX10_found 0 0 [vA 109, vI f] σ (vI (valF D.1 D.2.2 KV w (σ.1 109 20) (σ.1 118 f.toNat) (σ.1 119 f.toNat) (σ.1 121 (3 * σ.1 109 18 + σ.1 119 f.toNat).toNat)), σ') ∧ FrZ σ σ' := by
  obtain ⟨hL, hSg, hMk, hRw⟩ := id hW
  obtain ⟨e1, e2, e3, e4⟩ := id hL
  obtain ⟨k, hkd⟩ : ∃ k, k = σ.1 118 f.toNat := ⟨_, rfl⟩
  obtain ⟨o, hod⟩ : ∃ o, o = σ.1 119 f.toNat := ⟨_, rfl⟩
  rw [← hkd, ← hod] at hfk ⊢
  have fr0 : FrZ σ σ := ⟨rfl, fun _ _ _ => rfl⟩
  unfold valF
  by_cases k99 : k = 99
  · rw [if_pos k99]
    refine ⟨σ, ?_, fr0⟩
    refine con_of_go mfX10_found.1 trivial (Nat.le_of_ble_eq_true rfl) rfl (by decide) ?_
    show Go _ _ _ _ 0 [vA _, vI _, vT 9 0, vT 9 0] [] _ _
    refine go_aload_n (at_of tX10_found 0 0 rfl) rfl ?_
    refine go_getr (q := 118) fl_X10_44 rfl G_109 (by first | exact (hS _ _ rfl).trans rfl | exact (hS1 _ _ rfl).trans rfl | exact (hS2 _ _ rfl).trans rfl | exact (hS3 _ _ rfl).trans rfl | exact (hS4 _ _ rfl).trans rfl) (at_of tX10_found 0 1 rfl) ?_
    refine go_iload_n (at_of tX10_found 0 2 rfl) rfl ?_
    refine go_cald G_118 (by omega) (by omega) (at_of tX10_found 0 3 rfl) ?_
    rw [← hkd]
    refine go_istore_n (at_of tX10_found 0 4 rfl) rfl rfl ?_
    refine go_iload_n (at_of tX10_found 0 5 rfl) rfl ?_
    refine go_bipush (at_of tX10_found 0 6 rfl) (by decide) ?_
    refine go_icmp_ne (tgt := 18) (at_of tX10_found 0 7 rfl) (by decide) (fun h10 => ?_) (fun h10 => ?_)
    · exfalso; omega
    refine go_aload_n (at_of tX10_found 0 8 rfl) rfl ?_
    refine go_cV (m_paragraphsNow hS hN.1 hL hSg) lk_X10_121 rfl G_109 (at_of tX10_found 0 9 rfl) rfl (by decide) rfl (Nat.le_of_ble_eq_true rfl) rfl (by first | decide | exact ⟨Nat.zero_le _, Nat.zero_le _⟩) ?_
    first | exact go_reti (at_of tX10_found 0 10 rfl) rfl | exact go_reti (at_of tX10_found 0 10 rfl) (le_i (by omega)) | exact go_reti (at_of tX10_found 0 10 rfl) (le_i (by first | exact bI_t (by omega) | exact bI_f (by omega)))
  · rw [if_neg k99]
    have hfk := hfk.resolve_left k99
    by_cases k114 : k = 114
    · rw [if_pos k114]
      have ho : 0 ≤ o ∧ o < 3 := by rcases hfk with q | q <;> omega
      refine ⟨σ, ?_, fr0⟩
      refine con_of_go mfX10_found.1 trivial (Nat.le_of_ble_eq_true rfl) rfl (by decide) ?_
      show Go _ _ _ _ 0 [vA _, vI _, vT 9 0, vT 9 0] [] _ _
      refine go_aload_n (at_of tX10_found 0 0 rfl) rfl ?_
      refine go_getr (q := 118) fl_X10_44 rfl G_109 (by first | exact (hS _ _ rfl).trans rfl | exact (hS1 _ _ rfl).trans rfl | exact (hS2 _ _ rfl).trans rfl | exact (hS3 _ _ rfl).trans rfl | exact (hS4 _ _ rfl).trans rfl) (at_of tX10_found 0 1 rfl) ?_
      refine go_iload_n (at_of tX10_found 0 2 rfl) rfl ?_
      refine go_cald G_118 (by omega) (by omega) (at_of tX10_found 0 3 rfl) ?_
      rw [← hkd]
      refine go_istore_n (at_of tX10_found 0 4 rfl) rfl rfl ?_
      refine go_iload_n (at_of tX10_found 0 5 rfl) rfl ?_
      refine go_bipush (at_of tX10_found 0 6 rfl) (by decide) ?_
      refine go_icmp_ne (tgt := 18) (at_of tX10_found 0 7 rfl) (by decide) (fun h10 => ?_) (fun h10 => ?_)
      rotate_left
      · exfalso; omega
      refine go_iload_n (at_of tX10_found 0 11 rfl) rfl ?_
      refine go_bipush (at_of tX10_found 0 12 rfl) (by decide) ?_
      refine go_icmp_ne (tgt := 43) (at_of tX10_found 0 13 rfl) (by decide) (fun h21 => ?_) (fun h21 => ?_)
      · exfalso; omega
      refine go_aload_n (at_of tX10_found 0 14 rfl) rfl ?_
      refine go_getr (q := 121) fl_X10_53 rfl G_109 (by first | exact (hS _ _ rfl).trans rfl | exact (hS1 _ _ rfl).trans rfl | exact (hS2 _ _ rfl).trans rfl | exact (hS3 _ _ rfl).trans rfl | exact (hS4 _ _ rfl).trans rfl) (at_of tX10_found 0 15 rfl) ?_
      refine go_iconst (at_of tX10_found 1 0 rfl) (by unfold in32; omega) ?_
      refine go_aload_n (at_of tX10_found 1 1 rfl) rfl ?_
      refine go_getf fl_X10_269 rfl G_109 (at_of tX10_found 1 2 rfl) ?_
      refine go_imul (at_of tX10_found 1 3 rfl) (by unfold in32; omega) ?_
      refine go_aload_n (at_of tX10_found 1 4 rfl) rfl ?_
      refine go_getr (q := 119) fl_X10_47 rfl G_109 (by first | exact (hS _ _ rfl).trans rfl | exact (hS1 _ _ rfl).trans rfl | exact (hS2 _ _ rfl).trans rfl | exact (hS3 _ _ rfl).trans rfl | exact (hS4 _ _ rfl).trans rfl) (at_of tX10_found 1 5 rfl) ?_
      refine go_iload_n (at_of tX10_found 1 6 rfl) rfl ?_
      refine go_iald G_119 (by omega) (by omega) (at_of tX10_found 1 7 rfl) ?_
      rw [← hod]
      refine go_iadd (at_of tX10_found 1 8 rfl) (by unfold in32; omega) ?_
      refine go_iald G_121 (by omega) (by omega) (at_of tX10_found 1 9 rfl) ?_
      exact go_reti (at_of tX10_found 1 10 rfl) rfl
    · rw [if_neg k114]
      have hk := (hfk.resolve_left (fun q => k114 q.1))
      have hfb : 0 ≤ o ∧ o < 6 := hk.2
      have hk := hk.1
      have hbc : σ.1 110 (3193 + o).toNat = D.1.2.2.1 o := (hN.1.2.2.2 o hfb.1 hfb.2).1
      by_cases hm : D.1.2.2.1 o = -1
      · rw [if_pos hm]
        refine ⟨σ, ?_, fr0⟩
        refine con_of_go mfX10_found.1 trivial (Nat.le_of_ble_eq_true rfl) rfl (by decide) ?_
        show Go _ _ _ _ 0 [vA _, vI _, vT 9 0, vT 9 0] [] _ _
        refine go_aload_n (at_of tX10_found 0 0 rfl) rfl ?_
        refine go_getr (q := 118) fl_X10_44 rfl G_109 (by first | exact (hS _ _ rfl).trans rfl | exact (hS1 _ _ rfl).trans rfl | exact (hS2 _ _ rfl).trans rfl | exact (hS3 _ _ rfl).trans rfl | exact (hS4 _ _ rfl).trans rfl) (at_of tX10_found 0 1 rfl) ?_
        refine go_iload_n (at_of tX10_found 0 2 rfl) rfl ?_
        refine go_cald G_118 (by omega) (by omega) (at_of tX10_found 0 3 rfl) ?_
        rw [← hkd]
        refine go_istore_n (at_of tX10_found 0 4 rfl) rfl rfl ?_
        refine go_iload_n (at_of tX10_found 0 5 rfl) rfl ?_
        refine go_bipush (at_of tX10_found 0 6 rfl) (by decide) ?_
        refine go_icmp_ne (tgt := 18) (at_of tX10_found 0 7 rfl) (by decide) (fun h10 => ?_) (fun h10 => ?_)
        rotate_left
        · exfalso; omega
        refine go_iload_n (at_of tX10_found 0 11 rfl) rfl ?_
        refine go_bipush (at_of tX10_found 0 12 rfl) (by decide) ?_
        refine go_icmp_ne (tgt := 43) (at_of tX10_found 0 13 rfl) (by decide) (fun h21 => ?_) (fun h21 => ?_)
        rotate_left
        · exfalso; omega
        refine go_aload_n (at_of tX10_found 1 11 rfl) rfl ?_
        refine go_getr (q := 119) fl_X10_47 rfl G_109 (by first | exact (hS _ _ rfl).trans rfl | exact (hS1 _ _ rfl).trans rfl | exact (hS2 _ _ rfl).trans rfl | exact (hS3 _ _ rfl).trans rfl | exact (hS4 _ _ rfl).trans rfl) (at_of tX10_found 1 12 rfl) ?_
        refine go_iload_n (at_of tX10_found 1 13 rfl) rfl ?_
        refine go_iald G_119 (by omega) (by omega) (at_of tX10_found 1 14 rfl) ?_
        rw [← hod]
        refine go_istore_n (at_of tX10_found 1 15 rfl) rfl rfl ?_
        refine go_aload_n (at_of tX10_found 2 0 rfl) rfl ?_
        refine go_getr (q := 110) fl_X10_7 rfl G_109 (by first | exact (hS _ _ rfl).trans rfl | exact (hS1 _ _ rfl).trans rfl | exact (hS2 _ _ rfl).trans rfl | exact (hS3 _ _ rfl).trans rfl | exact (hS4 _ _ rfl).trans rfl) (at_of tX10_found 2 1 rfl) ?_
        refine go_sipush (at_of tX10_found 2 2 rfl) (by decide) ?_
        refine go_iload_n (at_of tX10_found 2 3 rfl) rfl ?_
        refine go_iadd (at_of tX10_found 2 4 rfl) (by unfold in32; omega) ?_
        refine go_iald G_110 (by omega) (by omega) (at_of tX10_found 2 5 rfl) ?_
        rw [hbc]
        refine go_iconst (at_of tX10_found 2 6 rfl) (by unfold in32; omega) ?_
        refine go_icmp_ne (tgt := 66) (at_of tX10_found 2 7 rfl) (by decide) (fun h61 => ?_) (fun h61 => ?_)
        · exfalso; omega
        refine go_iconst (at_of tX10_found 2 8 rfl) (by unfold in32; omega) ?_
        first | exact go_reti (at_of tX10_found 2 9 rfl) rfl | exact go_reti (at_of tX10_found 2 9 rfl) (le_i (by omega)) | exact go_reti (at_of tX10_found 2 9 rfl) (le_i (by first | exact bI_t (by omega) | exact bI_f (by omega)))
      · rw [if_neg hm]
        have mf := m_fromPlace hS hN hW hfb
        have mt := m_toPlace hS hN hW hfb
        have pb := plOf_le (F := D.1.1) (n := D.1.2.1) (i := D.1.2.2.1 o)
        have pb2 := pb.2 e1
        have pt := plOf_le (F := D.1.1) (n := D.1.2.1) (i := D.1.2.2.2 o)
        have pt2 := pt.2 e1
        have pb : 0 ≤ bmP D.1 o ∧ bmP D.1 o ≤ plOf D.1.1 D.1.2.1 D.1.2.1 := ⟨pb.1, plOf_le2⟩
        have pb3 : bmP D.1 o ≤ D.1.2.1 := pb2
        obtain ⟨u1, u2, u3, u4⟩ := place_ix hL pb.1 pb.2
        by_cases k110 : k = 110
        · rw [if_pos k110]
          have en := endFr_ix hL u1 u2
          obtain ⟨f1, f2, f3, f4⟩ := endFr_end hL u1 u2
          have en1 := @enN_nn D.1 (ixOf D.1.1 D.1.2.1 (bmP D.1 o))
          have en2 := enN_le (R := D.1) u2
          have ea := endsA_N (R := D.1) u2
          have ea2 := endsA_N (R := D.1) (Int.le_refl _)
          have me := m_endOfParagraph hS hN.1 hL hSg (p := endsA D.1.1 D.1.2.1 (ixOf D.1.1 D.1.2.1 (bmP D.1 o))) (by omega) (by omega)
          rw [show ixEnd D.1.1 D.1.2.1 (endsA D.1.1 D.1.2.1 (ixOf D.1.1 D.1.2.1 (bmP D.1 o))) = endFr D.1.1 D.1.2.1 (ixOf D.1.1 D.1.2.1 (bmP D.1 o)) by rw [ea]; exact en] at me
          obtain ⟨e, he⟩ : ∃ e, e = endFr D.1.1 D.1.2.1 (ixOf D.1.1 D.1.2.1 (bmP D.1 o)) := ⟨_, rfl⟩
          rw [← he] at me f1 f2 f3 f4 ⊢
          have frc : ∀ c, FrZ σ (ctT σ c) := fun c => ⟨rfl, fun a j q => ctT_ne q⟩
          unfold valN
          by_cases h7 : D.1.1 7 e = -1
          · rw [if_pos h7]
            refine ⟨_, ?_, frc (fun _ => 0)⟩
            refine con_of_go mfX10_found.1 trivial (Nat.le_of_ble_eq_true rfl) rfl (by decide) ?_
            show Go _ _ _ _ 0 [vA _, vI _, vT 9 0, vT 9 0] [] _ _
            refine go_aload_n (at_of tX10_found 0 0 rfl) rfl ?_
            refine go_getr (q := 118) fl_X10_44 rfl G_109 (by first | exact (hS _ _ rfl).trans rfl | exact (hS1 _ _ rfl).trans rfl | exact (hS2 _ _ rfl).trans rfl | exact (hS3 _ _ rfl).trans rfl | exact (hS4 _ _ rfl).trans rfl) (at_of tX10_found 0 1 rfl) ?_
            refine go_iload_n (at_of tX10_found 0 2 rfl) rfl ?_
            refine go_cald G_118 (by omega) (by omega) (at_of tX10_found 0 3 rfl) ?_
            rw [← hkd]
            refine go_istore_n (at_of tX10_found 0 4 rfl) rfl rfl ?_
            refine go_iload_n (at_of tX10_found 0 5 rfl) rfl ?_
            refine go_bipush (at_of tX10_found 0 6 rfl) (by decide) ?_
            refine go_icmp_ne (tgt := 18) (at_of tX10_found 0 7 rfl) (by decide) (fun h10 => ?_) (fun h10 => ?_)
            rotate_left
            · exfalso; omega
            refine go_iload_n (at_of tX10_found 0 11 rfl) rfl ?_
            refine go_bipush (at_of tX10_found 0 12 rfl) (by decide) ?_
            refine go_icmp_ne (tgt := 43) (at_of tX10_found 0 13 rfl) (by decide) (fun h21 => ?_) (fun h21 => ?_)
            rotate_left
            · exfalso; omega
            refine go_aload_n (at_of tX10_found 1 11 rfl) rfl ?_
            refine go_getr (q := 119) fl_X10_47 rfl G_109 (by first | exact (hS _ _ rfl).trans rfl | exact (hS1 _ _ rfl).trans rfl | exact (hS2 _ _ rfl).trans rfl | exact (hS3 _ _ rfl).trans rfl | exact (hS4 _ _ rfl).trans rfl) (at_of tX10_found 1 12 rfl) ?_
            refine go_iload_n (at_of tX10_found 1 13 rfl) rfl ?_
            refine go_iald G_119 (by omega) (by omega) (at_of tX10_found 1 14 rfl) ?_
            rw [← hod]
            refine go_istore_n (at_of tX10_found 1 15 rfl) rfl rfl ?_
            refine go_aload_n (at_of tX10_found 2 0 rfl) rfl ?_
            refine go_getr (q := 110) fl_X10_7 rfl G_109 (by first | exact (hS _ _ rfl).trans rfl | exact (hS1 _ _ rfl).trans rfl | exact (hS2 _ _ rfl).trans rfl | exact (hS3 _ _ rfl).trans rfl | exact (hS4 _ _ rfl).trans rfl) (at_of tX10_found 2 1 rfl) ?_
            refine go_sipush (at_of tX10_found 2 2 rfl) (by decide) ?_
            refine go_iload_n (at_of tX10_found 2 3 rfl) rfl ?_
            refine go_iadd (at_of tX10_found 2 4 rfl) (by unfold in32; omega) ?_
            refine go_iald G_110 (by omega) (by omega) (at_of tX10_found 2 5 rfl) ?_
            rw [hbc]
            refine go_iconst (at_of tX10_found 2 6 rfl) (by unfold in32; omega) ?_
            refine go_icmp_ne (tgt := 66) (at_of tX10_found 2 7 rfl) (by decide) (fun h61 => ?_) (fun h61 => ?_)
            rotate_left
            · exfalso; omega
            refine go_iload_n (at_of tX10_found 2 10 rfl) rfl ?_
            refine go_bipush (at_of tX10_found 2 11 rfl) (by decide) ?_
            refine go_icmp_ne (tgt := 84) (at_of tX10_found 2 12 rfl) (by decide) (fun h69 => ?_) (fun h69 => ?_)
            rotate_left
            · exfalso; omega
            refine go_iload_n (at_of tX10_found 3 5 rfl) rfl ?_
            refine go_bipush (at_of tX10_found 3 6 rfl) (by decide) ?_
            refine go_icmp_ne (tgt := 110) (at_of tX10_found 3 7 rfl) (by decide) (fun h87 => ?_) (fun h87 => ?_)
            · exfalso; omega
            refine go_aload_n (at_of tX10_found 3 8 rfl) rfl ?_
            refine go_aload_n (at_of tX10_found 3 9 rfl) rfl ?_
            refine go_aload_n (at_of tX10_found 3 10 rfl) rfl ?_
            refine go_aload_n (at_of tX10_found 3 11 rfl) rfl ?_
            refine go_iload_n (at_of tX10_found 3 12 rfl) rfl ?_
            refine go_cV (mf) lk_X10_257 rfl G_109 (at_of tX10_found 3 13 rfl) rfl (by decide) rfl (Nat.le_of_ble_eq_true rfl) rfl (by first | decide | exact ⟨Nat.zero_le _, Nat.zero_le _⟩) ?_
            refine go_cV (m_paragraphAt hS hN hW pb.1 pb.2) lk_X10_194 rfl G_109 (at_of tX10_found 3 14 rfl) rfl (by decide) rfl (Nat.le_of_ble_eq_true rfl) rfl (by first | decide | exact ⟨Nat.zero_le _, Nat.zero_le _⟩) ?_
            refine go_cV (me) lk_X10_197 rfl G_109 (at_of tX10_found 3 15 rfl) rfl (by decide) rfl (Nat.le_of_ble_eq_true rfl) rfl (by first | decide | exact ⟨Nat.zero_le _, Nat.zero_le _⟩) ?_
            refine go_cV (m_counts_0 hS hN.1 hL hSg hE ⟨by omega, f2⟩ f4 h7) lk_X10_238 rfl G_109 (at_of tX10_found 4 0 rfl) rfl (by decide) rfl (Nat.le_of_ble_eq_true rfl) rfl (by first | decide | exact ⟨Nat.zero_le _, Nat.zero_le _⟩) ?_
            refine go_goto (tgt := 121) (at_of tX10_found 4 1 rfl) (by decide) ?_
            first | exact go_reti (at_of tX10_found 4 9 rfl) rfl | exact go_reti (at_of tX10_found 4 9 rfl) (le_i (by omega)) | exact go_reti (at_of tX10_found 4 9 rfl) (le_i (by first | exact bI_t (by omega) | exact bI_f (by omega)))
          · rw [if_neg h7]
            refine ⟨_, ?_, frc (ctF D.1 e)⟩
            refine con_of_go mfX10_found.1 trivial (Nat.le_of_ble_eq_true rfl) rfl (by decide) ?_
            show Go _ _ _ _ 0 [vA _, vI _, vT 9 0, vT 9 0] [] _ _
            refine go_aload_n (at_of tX10_found 0 0 rfl) rfl ?_
            refine go_getr (q := 118) fl_X10_44 rfl G_109 (by first | exact (hS _ _ rfl).trans rfl | exact (hS1 _ _ rfl).trans rfl | exact (hS2 _ _ rfl).trans rfl | exact (hS3 _ _ rfl).trans rfl | exact (hS4 _ _ rfl).trans rfl) (at_of tX10_found 0 1 rfl) ?_
            refine go_iload_n (at_of tX10_found 0 2 rfl) rfl ?_
            refine go_cald G_118 (by omega) (by omega) (at_of tX10_found 0 3 rfl) ?_
            rw [← hkd]
            refine go_istore_n (at_of tX10_found 0 4 rfl) rfl rfl ?_
            refine go_iload_n (at_of tX10_found 0 5 rfl) rfl ?_
            refine go_bipush (at_of tX10_found 0 6 rfl) (by decide) ?_
            refine go_icmp_ne (tgt := 18) (at_of tX10_found 0 7 rfl) (by decide) (fun h10 => ?_) (fun h10 => ?_)
            rotate_left
            · exfalso; omega
            refine go_iload_n (at_of tX10_found 0 11 rfl) rfl ?_
            refine go_bipush (at_of tX10_found 0 12 rfl) (by decide) ?_
            refine go_icmp_ne (tgt := 43) (at_of tX10_found 0 13 rfl) (by decide) (fun h21 => ?_) (fun h21 => ?_)
            rotate_left
            · exfalso; omega
            refine go_aload_n (at_of tX10_found 1 11 rfl) rfl ?_
            refine go_getr (q := 119) fl_X10_47 rfl G_109 (by first | exact (hS _ _ rfl).trans rfl | exact (hS1 _ _ rfl).trans rfl | exact (hS2 _ _ rfl).trans rfl | exact (hS3 _ _ rfl).trans rfl | exact (hS4 _ _ rfl).trans rfl) (at_of tX10_found 1 12 rfl) ?_
            refine go_iload_n (at_of tX10_found 1 13 rfl) rfl ?_
            refine go_iald G_119 (by omega) (by omega) (at_of tX10_found 1 14 rfl) ?_
            rw [← hod]
            refine go_istore_n (at_of tX10_found 1 15 rfl) rfl rfl ?_
            refine go_aload_n (at_of tX10_found 2 0 rfl) rfl ?_
            refine go_getr (q := 110) fl_X10_7 rfl G_109 (by first | exact (hS _ _ rfl).trans rfl | exact (hS1 _ _ rfl).trans rfl | exact (hS2 _ _ rfl).trans rfl | exact (hS3 _ _ rfl).trans rfl | exact (hS4 _ _ rfl).trans rfl) (at_of tX10_found 2 1 rfl) ?_
            refine go_sipush (at_of tX10_found 2 2 rfl) (by decide) ?_
            refine go_iload_n (at_of tX10_found 2 3 rfl) rfl ?_
            refine go_iadd (at_of tX10_found 2 4 rfl) (by unfold in32; omega) ?_
            refine go_iald G_110 (by omega) (by omega) (at_of tX10_found 2 5 rfl) ?_
            rw [hbc]
            refine go_iconst (at_of tX10_found 2 6 rfl) (by unfold in32; omega) ?_
            refine go_icmp_ne (tgt := 66) (at_of tX10_found 2 7 rfl) (by decide) (fun h61 => ?_) (fun h61 => ?_)
            rotate_left
            · exfalso; omega
            refine go_iload_n (at_of tX10_found 2 10 rfl) rfl ?_
            refine go_bipush (at_of tX10_found 2 11 rfl) (by decide) ?_
            refine go_icmp_ne (tgt := 84) (at_of tX10_found 2 12 rfl) (by decide) (fun h69 => ?_) (fun h69 => ?_)
            rotate_left
            · exfalso; omega
            refine go_iload_n (at_of tX10_found 3 5 rfl) rfl ?_
            refine go_bipush (at_of tX10_found 3 6 rfl) (by decide) ?_
            refine go_icmp_ne (tgt := 110) (at_of tX10_found 3 7 rfl) (by decide) (fun h87 => ?_) (fun h87 => ?_)
            · exfalso; omega
            refine go_aload_n (at_of tX10_found 3 8 rfl) rfl ?_
            refine go_aload_n (at_of tX10_found 3 9 rfl) rfl ?_
            refine go_aload_n (at_of tX10_found 3 10 rfl) rfl ?_
            refine go_aload_n (at_of tX10_found 3 11 rfl) rfl ?_
            refine go_iload_n (at_of tX10_found 3 12 rfl) rfl ?_
            refine go_cV (mf) lk_X10_257 rfl G_109 (at_of tX10_found 3 13 rfl) rfl (by decide) rfl (Nat.le_of_ble_eq_true rfl) rfl (by first | decide | exact ⟨Nat.zero_le _, Nat.zero_le _⟩) ?_
            refine go_cV (m_paragraphAt hS hN hW pb.1 pb.2) lk_X10_194 rfl G_109 (at_of tX10_found 3 14 rfl) rfl (by decide) rfl (Nat.le_of_ble_eq_true rfl) rfl (by first | decide | exact ⟨Nat.zero_le _, Nat.zero_le _⟩) ?_
            refine go_cV (me) lk_X10_197 rfl G_109 (at_of tX10_found 3 15 rfl) rfl (by decide) rfl (Nat.le_of_ble_eq_true rfl) rfl (by first | decide | exact ⟨Nat.zero_le _, Nat.zero_le _⟩) ?_
            refine go_cV (m_counts hS hN.1 hL hSg hE ⟨by omega, f2⟩ f3 f4 h7) lk_X10_238 rfl G_109 (at_of tX10_found 4 0 rfl) rfl (by decide) rfl (Nat.le_of_ble_eq_true rfl) rfl (by first | decide | exact ⟨Nat.zero_le _, Nat.zero_le _⟩) ?_
            refine go_goto (tgt := 121) (at_of tX10_found 4 1 rfl) (by decide) ?_
            first | exact go_reti (at_of tX10_found 4 9 rfl) rfl | exact go_reti (at_of tX10_found 4 9 rfl) (le_i (by omega)) | exact go_reti (at_of tX10_found 4 9 rfl) (le_i (by first | exact bI_t (by omega) | exact bI_f (by omega)))
        · rw [if_neg k110]
          by_cases k112 : k = 112
          · rw [if_pos k112]
            have gl := gpR_le (Q := D.2.2) (KV := KV) hL hB (w := w) (h := σ.1 109 20) (by omega) hh u1 u2
            have dv1 := Int.ediv_nonneg gl.1 (show 0 ≤ σ.1 109 20 by omega)
            have dv2 := Int.ediv_le_self (σ.1 109 20) gl.1
            refine ⟨σ, ?_, fr0⟩
            refine con_of_go mfX10_found.1 trivial (Nat.le_of_ble_eq_true rfl) rfl (by decide) ?_
            show Go _ _ _ _ 0 [vA _, vI _, vT 9 0, vT 9 0] [] _ _
            refine go_aload_n (at_of tX10_found 0 0 rfl) rfl ?_
            refine go_getr (q := 118) fl_X10_44 rfl G_109 (by first | exact (hS _ _ rfl).trans rfl | exact (hS1 _ _ rfl).trans rfl | exact (hS2 _ _ rfl).trans rfl | exact (hS3 _ _ rfl).trans rfl | exact (hS4 _ _ rfl).trans rfl) (at_of tX10_found 0 1 rfl) ?_
            refine go_iload_n (at_of tX10_found 0 2 rfl) rfl ?_
            refine go_cald G_118 (by omega) (by omega) (at_of tX10_found 0 3 rfl) ?_
            rw [← hkd]
            refine go_istore_n (at_of tX10_found 0 4 rfl) rfl rfl ?_
            refine go_iload_n (at_of tX10_found 0 5 rfl) rfl ?_
            refine go_bipush (at_of tX10_found 0 6 rfl) (by decide) ?_
            refine go_icmp_ne (tgt := 18) (at_of tX10_found 0 7 rfl) (by decide) (fun h10 => ?_) (fun h10 => ?_)
            rotate_left
            · exfalso; omega
            refine go_iload_n (at_of tX10_found 0 11 rfl) rfl ?_
            refine go_bipush (at_of tX10_found 0 12 rfl) (by decide) ?_
            refine go_icmp_ne (tgt := 43) (at_of tX10_found 0 13 rfl) (by decide) (fun h21 => ?_) (fun h21 => ?_)
            rotate_left
            · exfalso; omega
            refine go_aload_n (at_of tX10_found 1 11 rfl) rfl ?_
            refine go_getr (q := 119) fl_X10_47 rfl G_109 (by first | exact (hS _ _ rfl).trans rfl | exact (hS1 _ _ rfl).trans rfl | exact (hS2 _ _ rfl).trans rfl | exact (hS3 _ _ rfl).trans rfl | exact (hS4 _ _ rfl).trans rfl) (at_of tX10_found 1 12 rfl) ?_
            refine go_iload_n (at_of tX10_found 1 13 rfl) rfl ?_
            refine go_iald G_119 (by omega) (by omega) (at_of tX10_found 1 14 rfl) ?_
            rw [← hod]
            refine go_istore_n (at_of tX10_found 1 15 rfl) rfl rfl ?_
            refine go_aload_n (at_of tX10_found 2 0 rfl) rfl ?_
            refine go_getr (q := 110) fl_X10_7 rfl G_109 (by first | exact (hS _ _ rfl).trans rfl | exact (hS1 _ _ rfl).trans rfl | exact (hS2 _ _ rfl).trans rfl | exact (hS3 _ _ rfl).trans rfl | exact (hS4 _ _ rfl).trans rfl) (at_of tX10_found 2 1 rfl) ?_
            refine go_sipush (at_of tX10_found 2 2 rfl) (by decide) ?_
            refine go_iload_n (at_of tX10_found 2 3 rfl) rfl ?_
            refine go_iadd (at_of tX10_found 2 4 rfl) (by unfold in32; omega) ?_
            refine go_iald G_110 (by omega) (by omega) (at_of tX10_found 2 5 rfl) ?_
            rw [hbc]
            refine go_iconst (at_of tX10_found 2 6 rfl) (by unfold in32; omega) ?_
            refine go_icmp_ne (tgt := 66) (at_of tX10_found 2 7 rfl) (by decide) (fun h61 => ?_) (fun h61 => ?_)
            rotate_left
            · exfalso; omega
            refine go_iload_n (at_of tX10_found 2 10 rfl) rfl ?_
            refine go_bipush (at_of tX10_found 2 11 rfl) (by decide) ?_
            refine go_icmp_ne (tgt := 84) (at_of tX10_found 2 12 rfl) (by decide) (fun h69 => ?_) (fun h69 => ?_)
            rotate_left
            · exfalso; omega
            refine go_iload_n (at_of tX10_found 3 5 rfl) rfl ?_
            refine go_bipush (at_of tX10_found 3 6 rfl) (by decide) ?_
            refine go_icmp_ne (tgt := 110) (at_of tX10_found 3 7 rfl) (by decide) (fun h87 => ?_) (fun h87 => ?_)
            rotate_left
            · exfalso; omega
            refine go_aload_n (at_of tX10_found 4 2 rfl) rfl ?_
            refine go_aload_n (at_of tX10_found 4 3 rfl) rfl ?_
            refine go_iload_n (at_of tX10_found 4 4 rfl) rfl ?_
            refine go_cV (mf) lk_X10_257 rfl G_109 (at_of tX10_found 4 5 rfl) rfl (by decide) rfl (Nat.le_of_ble_eq_true rfl) rfl (by first | decide | exact ⟨Nat.zero_le _, Nat.zero_le _⟩) ?_
            refine go_cV (m_pageAt hS hN hW hB hw hh hLay pb) lk_X10_272 rfl G_109 (at_of tX10_found 4 6 rfl) rfl (by decide) rfl (Nat.le_of_ble_eq_true rfl) rfl (by first | decide | exact ⟨Nat.zero_le _, Nat.zero_le _⟩) ?_
            refine go_iconst (at_of tX10_found 4 7 rfl) (by unfold in32; omega) ?_
            refine go_iadd (at_of tX10_found 4 8 rfl) (by unfold in32; omega) ?_
            first | exact go_reti (at_of tX10_found 4 9 rfl) rfl | exact go_reti (at_of tX10_found 4 9 rfl) (le_i (by omega)) | exact go_reti (at_of tX10_found 4 9 rfl) (le_i (by first | exact bI_t (by omega) | exact bI_f (by omega)))
          · rw [if_neg k112]
            have k108 : k = 108 := by omega
            refine ⟨σ, ?_, fr0⟩
            refine con_of_go mfX10_found.1 trivial (Nat.le_of_ble_eq_true rfl) rfl (by decide) ?_
            show Go _ _ _ _ 0 [vA _, vI _, vT 9 0, vT 9 0] [] _ _
            refine go_aload_n (at_of tX10_found 0 0 rfl) rfl ?_
            refine go_getr (q := 118) fl_X10_44 rfl G_109 (by first | exact (hS _ _ rfl).trans rfl | exact (hS1 _ _ rfl).trans rfl | exact (hS2 _ _ rfl).trans rfl | exact (hS3 _ _ rfl).trans rfl | exact (hS4 _ _ rfl).trans rfl) (at_of tX10_found 0 1 rfl) ?_
            refine go_iload_n (at_of tX10_found 0 2 rfl) rfl ?_
            refine go_cald G_118 (by omega) (by omega) (at_of tX10_found 0 3 rfl) ?_
            rw [← hkd]
            refine go_istore_n (at_of tX10_found 0 4 rfl) rfl rfl ?_
            refine go_iload_n (at_of tX10_found 0 5 rfl) rfl ?_
            refine go_bipush (at_of tX10_found 0 6 rfl) (by decide) ?_
            refine go_icmp_ne (tgt := 18) (at_of tX10_found 0 7 rfl) (by decide) (fun h10 => ?_) (fun h10 => ?_)
            rotate_left
            · exfalso; omega
            refine go_iload_n (at_of tX10_found 0 11 rfl) rfl ?_
            refine go_bipush (at_of tX10_found 0 12 rfl) (by decide) ?_
            refine go_icmp_ne (tgt := 43) (at_of tX10_found 0 13 rfl) (by decide) (fun h21 => ?_) (fun h21 => ?_)
            rotate_left
            · exfalso; omega
            refine go_aload_n (at_of tX10_found 1 11 rfl) rfl ?_
            refine go_getr (q := 119) fl_X10_47 rfl G_109 (by first | exact (hS _ _ rfl).trans rfl | exact (hS1 _ _ rfl).trans rfl | exact (hS2 _ _ rfl).trans rfl | exact (hS3 _ _ rfl).trans rfl | exact (hS4 _ _ rfl).trans rfl) (at_of tX10_found 1 12 rfl) ?_
            refine go_iload_n (at_of tX10_found 1 13 rfl) rfl ?_
            refine go_iald G_119 (by omega) (by omega) (at_of tX10_found 1 14 rfl) ?_
            rw [← hod]
            refine go_istore_n (at_of tX10_found 1 15 rfl) rfl rfl ?_
            refine go_aload_n (at_of tX10_found 2 0 rfl) rfl ?_
            refine go_getr (q := 110) fl_X10_7 rfl G_109 (by first | exact (hS _ _ rfl).trans rfl | exact (hS1 _ _ rfl).trans rfl | exact (hS2 _ _ rfl).trans rfl | exact (hS3 _ _ rfl).trans rfl | exact (hS4 _ _ rfl).trans rfl) (at_of tX10_found 2 1 rfl) ?_
            refine go_sipush (at_of tX10_found 2 2 rfl) (by decide) ?_
            refine go_iload_n (at_of tX10_found 2 3 rfl) rfl ?_
            refine go_iadd (at_of tX10_found 2 4 rfl) (by unfold in32; omega) ?_
            refine go_iald G_110 (by omega) (by omega) (at_of tX10_found 2 5 rfl) ?_
            rw [hbc]
            refine go_iconst (at_of tX10_found 2 6 rfl) (by unfold in32; omega) ?_
            refine go_icmp_ne (tgt := 66) (at_of tX10_found 2 7 rfl) (by decide) (fun h61 => ?_) (fun h61 => ?_)
            rotate_left
            · exfalso; omega
            refine go_iload_n (at_of tX10_found 2 10 rfl) rfl ?_
            refine go_bipush (at_of tX10_found 2 11 rfl) (by decide) ?_
            refine go_icmp_ne (tgt := 84) (at_of tX10_found 2 12 rfl) (by decide) (fun h69 => ?_) (fun h69 => ?_)
            · exfalso; omega
            refine go_aload_n (at_of tX10_found 2 13 rfl) rfl ?_
            refine go_iload_n (at_of tX10_found 2 14 rfl) rfl ?_
            refine go_cV (mt) lk_X10_263 rfl G_109 (at_of tX10_found 2 15 rfl) rfl (by decide) rfl (Nat.le_of_ble_eq_true rfl) rfl (by first | decide | exact ⟨Nat.zero_le _, Nat.zero_le _⟩) ?_
            refine go_aload_n (at_of tX10_found 3 0 rfl) rfl ?_
            refine go_iload_n (at_of tX10_found 3 1 rfl) rfl ?_
            refine go_cV (mf) lk_X10_257 rfl G_109 (at_of tX10_found 3 2 rfl) rfl (by decide) rfl (Nat.le_of_ble_eq_true rfl) rfl (by first | decide | exact ⟨Nat.zero_le _, Nat.zero_le _⟩) ?_
            refine go_isub (at_of tX10_found 3 3 rfl) (by unfold in32; omega) ?_
            first | exact go_reti (at_of tX10_found 3 4 rfl) rfl | exact go_reti (at_of tX10_found 3 4 rfl) (le_i (by omega)) | exact go_reti (at_of tX10_found 3 4 rfl) (le_i (by first | exact bI_t (by omega) | exact bI_f (by omega)))
end Mod20
