/-! The reference: the numbers of lists, and the line to which they are written. -/
section Mod14
variable {σ : St} {R : RowD}
def ctT (σ : St) (c : Int → Int) : St := (fun a j => if a = 123 ∧ j < 3 then c j else σ.1 a j, σ.2.1, σ.2.2)
theorem ctT_ne {c : Int → Int} {a j : Nat} (h : a ≠ 123) : (ctT σ c).1 a j = σ.1 a j := if_neg (fun q => h q.1)
theorem ctT_at {c : Int → Int} {j : Int} (h : 0 ≤ j ∧ j < 3) : (ctT σ c).1 123 j.toNat = c j := by
  show (if (123 : Nat) = 123 ∧ j.toNat < 3 then c (j.toNat : Int) else σ.1 123 j.toNat) = c j
  rw [if_pos (by omega), show ((j.toNat : Nat) : Int) = j by omega]
theorem ctT_set {c : Int → Int} {j z : Int} (h : 0 ≤ j ∧ j < 3) : M1 (ctT σ c) 123 j z = ctT σ (updZ c j z) := by
  unfold M1 ctT upd2 updZ
  refine Prod.ext (funext fun a => funext fun i => ?_) rfl
  dsimp only
  by_cases ha : a = 123
  · subst ha
    by_cases hi : i < 3
    · rw [if_pos (c := (123 : Nat) = 123 ∧ i < 3) ⟨rfl, hi⟩, if_pos (c := (123 : Nat) = 123 ∧ i < 3) ⟨rfl, hi⟩]
      by_cases hj : i = j.toNat
      · rw [if_pos ⟨rfl, hj⟩, if_pos (by omega)]
      · rw [if_neg (fun q => hj q.2), if_neg (by omega)]
    · rw [if_neg (by omega), if_neg (by omega), if_neg (by omega)]
  · rw [if_neg (fun q => ha q.1), if_neg (fun q => ha q.1), if_neg (fun q => ha q.1)]
theorem ctT_zero : M1 (M1 (M1 σ 123 0 0) 123 (0 + 1) 0) 123 (0 + 1 + 1) 0 = ctT σ (fun _ => 0) := by
  unfold M1 ctT upd2
  refine Prod.ext (funext fun a => funext fun i => ?_) rfl
  dsimp only
  by_cases ha : a = 123
  · subst ha
    by_cases h2 : i = 2
    · rw [if_pos ⟨rfl, by omega⟩, if_pos ⟨rfl, by omega⟩]
    · rw [if_neg (by omega)]
      by_cases h1 : i = 1
      · rw [if_pos ⟨rfl, by omega⟩, if_pos ⟨rfl, by omega⟩]
      · rw [if_neg (by omega)]
        by_cases h0 : i = 0
        · rw [if_pos ⟨rfl, by omega⟩, if_pos ⟨rfl, by omega⟩]
        · rw [if_neg (by omega), if_neg (by omega)]
  · rw [if_neg (fun q => ha q.1), if_neg (fun q => ha q.1), if_neg (fun q => ha q.1), if_neg (fun q => ha q.1)]
theorem ctT_frm {c : Int → Int} : Frm σ (ctT σ c) 123 123 := ⟨rfl, fun a h j => ctT_ne (by omega)⟩

theorem ctT_congr {c c' : Int → Int} (h : c 0 = c' 0 ∧ c 1 = c' 1 ∧ c 2 = c' 2) : ctT σ c = ctT σ c' := by
  unfold ctT
  refine Prod.ext (funext fun a => funext fun i => ?_) rfl
  dsimp only
  by_cases hi : a = 123 ∧ i < 3
  · rw [if_pos hi, if_pos hi]
    have h3 : i = 0 ∨ i = 1 ∨ i = 2 := by omega
    rcases h3 with rfl | rfl | rfl
    · exact h.1
    · exact h.2.1
    · exact h.2.2
  · rw [if_neg hi, if_neg hi]
theorem cN_ctT {c : Int → Int} : cN (ctT σ c) = cN σ := funext fun x => ctT_ne (by omega)
theorem ctT_z3 {c : Int → Int} {k : Int} (hk : 3 ≤ k) : ctT σ (fun j => if k ≤ j then 0 else c j) = ctT σ c := ctT_congr ⟨if_neg (by omega), if_neg (by omega), if_neg (by omega)⟩
theorem ctT_z {c : Int → Int} {k : Int} : (fun j => if k + 1 ≤ j then 0 else updZ c k 0 j) = (fun j => if k ≤ j then 0 else c j) := by
  funext j
  unfold updZ
  by_cases h1 : k + 1 ≤ j
  · rw [if_pos h1, if_pos (by omega)]
  · rw [if_neg h1]
    by_cases h2 : j = k
    · rw [if_pos h2, if_pos (by omega)]
    · rw [if_neg h2, if_neg (by omega)]
theorem ct1_z {c : Int → Int} {lv rs z : Int} (hz : z = if 0 < rs then rs else c lv + 1) : (fun j => if lv + 1 ≤ j then 0 else updZ c lv z j) = ct1 lv rs c := by
  funext j
  unfold ct1 updZ
  by_cases h1 : lv + 1 ≤ j
  · rw [if_pos h1, if_neg (by omega), if_pos (by omega)]
  · rw [if_neg h1]
    by_cases h2 : j = lv
    · rw [if_pos h2, if_pos h2]; exact hz
    · rw [if_neg h2, if_neg h2, if_neg (by omega)]
theorem ctU_pos (hE : EndW R) {l e : Int} (he : 0 ≤ e ∧ e ≤ R.2.1) (h3 : R.1 3 e = -1) (h0 : R.1 0 e = 47) (hl : R.1 7 e = l) : ∀ (m : Nat) (i K : Int) (c : Int → Int), 0 < m → i + m = e + 1 → 99 ≤ K → (∀ j, 0 ≤ c j ∧ c j ≤ K) → 1 ≤ upX (ctG R l) m i c (R.1 8 e) := by
  intro m
  induction m with
  | zero => intro i K c h; exact absurd h (by decide)
  | succ m ih =>
    intro i K c _ hi hK hc
    rw [upX]
    by_cases hm : 0 < m
    · exact ih (i + 1) (K + 1) _ hm (by omega) (by omega) (ctG_le hE hc hK)
    · obtain rfl : m = 0 := by omega
      obtain rfl : i = e := by omega
      rw [upX]
      have q : ctG R l c i = ct1 (R.1 8 i) (R.1 9 i) c := if_pos ⟨decide_eq_true ⟨he.1, he.2, h3, h0⟩, hl⟩
      rw [q]
      show 1 ≤ (if R.1 8 i = R.1 8 i then (if 0 < R.1 9 i then R.1 9 i else c (R.1 8 i) + 1) else _)
      rw [if_pos rfl]
      have := hc (R.1 8 i)
      split <;> omega
theorem ctF_pos (hE : EndW R) {e : Int} (he : 0 ≤ e ∧ e ≤ R.2.1) (h3 : R.1 3 e = -1) (h0 : R.1 0 e = 47) : 1 ≤ ctF R e (R.1 8 e) :=
  ctU_pos hE he h3 h0 rfl (e + 1).toNat 0 99 _ (by omega) (by omega) (by omega) (fun _ => ⟨by omega, by omega⟩)
theorem m_counts (hS : Str σ.2.1) (hN : RepNr (cN σ) R) (hL : LastE R) (hSg : SgW R) (hE : EndW R) {e : Int} (he : 0 ≤ e ∧ e ≤ R.2.1) (h3e : R.1 3 e = -1) (h0 : R.1 0 e = 47) (h7 : R.1 7 e ≠ -1) : Con 2 mX10_counts 0 0 [vA 109, vI e] σ (vI (ctF R e (R.1 8 e)), ctT σ (ctF R e)) := by
  obtain ⟨e1, e2, e3, e4⟩ := id hL
  have key2 : ∀ (m : Nat) (b : Nat × Nat) (k z lv i l : Int) (c : Int → Int) (out : MV × St), 1 ≤ k → k + m = 3 → (∀ (b : Nat × Nat) (k' : Int), Go (fun _ => 0) 2 mX10_counts b 168 [vA 109, vI e, vI l, vI z, vI i, vI 1, vI lv, vI k'] [] (ctT σ (fun j => if k ≤ j then 0 else c j)) out) → Go (fun _ => 0) 2 mX10_counts b 148 [vA 109, vI e, vI l, vI z, vI i, vI 1, vI lv, vI k] [] (ctT σ c) out := by
    intro m
    induction m with
    | zero =>
      intro b k z lv i l c out h0 h1 K
      have K := fun b => K b k
      rw [ctT_z3 (by omega)] at K
      refine go_iload (at_of tX10_counts 5 2 rfl) rfl rfl ?_
      refine go_iconst (at_of tX10_counts 5 3 rfl) (by unfold in32; omega) ?_
      refine go_icmp_ge (tgt := 168) (at_of tX10_counts 5 4 rfl) (by decide) (fun h151 => ?_) (fun h151 => ?_)
      rotate_left
      · exfalso; omega
      exact K _
    | succ m ih =>
      intro b k z lv i l c out h0 h1 K
      have hSc : Str (ctT σ c).2.1 := hS
      refine go_iload (at_of tX10_counts 5 2 rfl) rfl rfl ?_
      refine go_iconst (at_of tX10_counts 5 3 rfl) (by unfold in32; omega) ?_
      refine go_icmp_ge (tgt := 168) (at_of tX10_counts 5 4 rfl) (by decide) (fun h151 => ?_) (fun h151 => ?_)
      · exfalso; omega
      refine go_aload_n (at_of tX10_counts 5 5 rfl) rfl ?_
      refine go_getr (q := 123) fl_X10_65 rfl G_109 (by first | exact (hS _ _ rfl).trans rfl | exact (hS1 _ _ rfl).trans rfl | exact (hS2 _ _ rfl).trans rfl | exact (hS3 _ _ rfl).trans rfl | exact (hS4 _ _ rfl).trans rfl) (at_of tX10_counts 5 6 rfl) ?_
      refine go_iload (at_of tX10_counts 5 7 rfl) rfl rfl ?_
      refine go_iconst (at_of tX10_counts 5 8 rfl) (by unfold in32; omega) ?_
      refine go_iast1 G_123 (by omega) (by omega) (at_of tX10_counts 5 9 rfl) ?_
      rw [ctT_set (by omega)]
      refine go_iinc (at_of tX10_counts 5 10 rfl) rfl (by unfold in32; omega) rfl rfl ?_
      refine go_goto (tgt := 148) (at_of tX10_counts 5 11 rfl) (by decide) ?_
      exact ih _ _ _ _ _ _ _ _ (by omega) (by omega) (fun b k' => by rw [ctT_z]; exact K b k')
  unfold ctF
  obtain ⟨l, hle⟩ : ∃ l, l = R.1 7 e := ⟨_, rfl⟩
  rw [← hle] at h7 ⊢
  have key : ∀ (m : Nat) (b : Nat × Nat) (i t : Int) (c : Int → Int) (v5 v6 v7 : MV), 0 ≤ i → i + m = e + 1 → (∀ j, 0 ≤ c j ∧ c j ≤ 99 + i) → Go (fun _ => 0) 2 mX10_counts b 32 [vA 109, vI e, vI l, vI t, vI i, v5, v6, v7] [] (ctT σ c) (vI (if m = 0 then t else upX (ctG R l) m i c (R.1 8 e)), ctT σ (upX (ctG R l) m i c)) := by
    intro m
    induction m with
    | zero =>
      intro b i t c v5 v6 v7 h0 h1 h2
      have hSc : Str (ctT σ c).2.1 := hS
      have hNc : RepNr (cN (ctT σ c)) R := by rw [cN_ctT]; exact hN
      refine go_iload (at_of tX10_counts 1 5 rfl) rfl rfl ?_
      refine go_iload_n (at_of tX10_counts 1 6 rfl) rfl ?_
      refine go_icmp_gt (tgt := 174) (at_of tX10_counts 1 7 rfl) (by decide) (fun h35 => ?_) (fun h35 => ?_)
      rotate_left
      · exfalso; omega
      refine go_iload_n (at_of tX10_counts 5 14 rfl) rfl ?_
      exact go_reti (at_of tX10_counts 5 15 rfl) (by rw [if_pos rfl, upX])
    | succ m ih =>
      intro b i t c v5 v6 v7 h0i h1 h2
      have hSc : Str (ctT σ c).2.1 := hS
      have hNc : RepNr (cN (ctT σ c)) R := by rw [cN_ctT]; exact hN
      rw [upX]
      have hlast : i = e → sendB R.1 R.2.1 i = true ∧ R.1 7 i = l := fun q => by subst q; exact ⟨decide_eq_true ⟨he.1, he.2, h3e, h0⟩, hle.symm⟩
      by_cases hq : sendB R.1 R.2.1 i = true
      · have h3 : 0 ≤ i ∧ i ≤ R.2.1 ∧ R.1 3 i = -1 ∧ R.1 0 i = 47 := of_decide_eq_true hq
        obtain ⟨w1, w2, w3, w4, w5, w6⟩ := hE i h3.1 h3.2.1 h3.2.2.2
        have h47 := h3.2.2.2
        have h3i := h3.2.2.1
        by_cases hl : R.1 7 i = l
        · by_cases hn : i = R.2.1
          · skip
            have hcc := ct1_le (lv := R.1 8 i) (rs := R.1 9 i) (K := 99 + i) ⟨w3, w4⟩ h2 (by omega)
            have e9 : ctG R l c i = ct1 (R.1 8 i) (R.1 9 i) c := if_pos ⟨hq, hl⟩
            rw [e9]
            have ev := ctT_at (σ := σ) (c := c) (j := R.1 8 i) ⟨w1, by omega⟩
            have hc8 := h2 (R.1 8 i)
            have fin : ∀ (b : Nat × Nat) (v5 v6 v7 : MV) (t' : Int), t' = (if 0 < R.1 9 i then R.1 9 i else c (R.1 8 i) + 1) → Go (fun _ => 0) 2 mX10_counts b 32 [vA 109, vI e, vI l, vI t', vI (i + 1), v5, v6, v7] [] (ctT σ (ct1 (R.1 8 i) (R.1 9 i) c)) (vI (if m + 1 = 0 then t else upX (ctG R l) m (i + 1) (ct1 (R.1 8 i) (R.1 9 i) c) (R.1 8 e)), ctT σ (upX (ctG R l) m (i + 1) (ct1 (R.1 8 i) (R.1 9 i) c))) := by
              intro b v5 v6 v7 t' ht'
              have z := ih b (i + 1) t' (ct1 (R.1 8 i) (R.1 9 i) c) v5 v6 v7 (by omega) (by omega) (fun j => by have := hcc j; omega)
              have hv : (if m + 1 = 0 then t else upX (ctG R l) m (i + 1) (ct1 (R.1 8 i) (R.1 9 i) c) (R.1 8 e)) = (if m = 0 then t' else upX (ctG R l) m (i + 1) (ct1 (R.1 8 i) (R.1 9 i) c) (R.1 8 e)) := by
                rw [if_neg (by omega)]
                by_cases hm : m = 0
                · rw [if_pos hm]
                  subst hm
                  obtain rfl : i = e := by omega
                  rw [upX, ht']
                  exact if_pos rfl
                · rw [if_neg hm]
              rw [hv]
              exact z
            by_cases hrs : 0 < R.1 9 i
            · skip
              refine go_iload (at_of tX10_counts 1 5 rfl) rfl rfl ?_
              refine go_iload_n (at_of tX10_counts 1 6 rfl) rfl ?_
              refine go_icmp_gt (tgt := 174) (at_of tX10_counts 1 7 rfl) (by decide) (fun h35 => ?_) (fun h35 => ?_)
              · exfalso; omega
              refine go_iload_n (at_of tX10_counts 1 8 rfl) rfl ?_
              refine go_iconst (at_of tX10_counts 1 9 rfl) (by unfold in32; omega) ?_
              refine go_icmp_eq (tgt := 174) (at_of tX10_counts 1 10 rfl) (by decide) (fun h40 => ?_) (fun h40 => ?_)
              · exfalso; omega
              refine go_iload (at_of tX10_counts 1 11 rfl) rfl rfl ?_
              refine go_aload_n (at_of tX10_counts 1 12 rfl) rfl ?_
              refine go_cV (m_many hSc hNc) lk_X10_110 rfl G_109 (at_of tX10_counts 1 13 rfl) rfl (by decide) rfl (Nat.le_of_ble_eq_true rfl) rfl (by first | decide | exact ⟨Nat.zero_le _, Nat.zero_le _⟩) ?_
              refine go_icmp_eq (tgt := 70) (at_of tX10_counts 1 14 rfl) (by decide) (fun h49 => ?_) (fun h49 => ?_)
              rotate_left
              · exfalso; omega
              refine go_aload_n (at_of tX10_counts 2 7 rfl) rfl ?_
              refine go_iload (at_of tX10_counts 2 8 rfl) rfl rfl ?_
              refine go_iconst (at_of tX10_counts 2 9 rfl) (by unfold in32; omega) ?_
              refine go_cV (m_at4 hSc hNc (by omega) h47) lk_X10_106 rfl G_109 (at_of tX10_counts 2 10 rfl) rfl (by decide) rfl (Nat.le_of_ble_eq_true rfl) rfl (by first | decide | exact ⟨Nat.zero_le _, Nat.zero_le _⟩) ?_
              refine go_iload_n (at_of tX10_counts 2 11 rfl) rfl ?_
              refine go_icmp_ne (tgt := 85) (at_of tX10_counts 2 12 rfl) (by decide) (fun h78 => ?_) (fun h78 => ?_)
              · exfalso; omega
              refine go_iconst (at_of tX10_counts 2 13 rfl) (by unfold in32; omega) ?_
              refine go_goto (tgt := 86) (at_of tX10_counts 2 14 rfl) (by decide) ?_
              refine go_istore (at_of tX10_counts 3 0 rfl) rfl rfl ?_
              refine go_iload (at_of tX10_counts 3 1 rfl) rfl rfl ?_
              refine go_if_eq (tgt := 168) (at_of tX10_counts 3 2 rfl) (by decide) (fun h90 => ?_) (fun h90 => ?_)
              · exfalso; omega
              refine go_aload_n (at_of tX10_counts 3 3 rfl) rfl ?_
              refine go_iload (at_of tX10_counts 3 4 rfl) rfl rfl ?_
              refine go_iconst (at_of tX10_counts 3 5 rfl) (by unfold in32; omega) ?_
              refine go_cV (m_at5 hSc hNc (by omega) h47) lk_X10_106 rfl G_109 (at_of tX10_counts 3 6 rfl) rfl (by decide) rfl (Nat.le_of_ble_eq_true rfl) rfl (by first | decide | exact ⟨Nat.zero_le _, Nat.zero_le _⟩) ?_
              refine go_istore (at_of tX10_counts 3 7 rfl) rfl rfl ?_
              refine go_aload_n (at_of tX10_counts 3 8 rfl) rfl ?_
              refine go_iload (at_of tX10_counts 3 9 rfl) rfl rfl ?_
              refine go_bipush (at_of tX10_counts 3 10 rfl) (by decide) ?_
              refine go_cV (m_at6 hSc hNc (by omega) h47) lk_X10_106 rfl G_109 (at_of tX10_counts 3 11 rfl) rfl (by decide) rfl (Nat.le_of_ble_eq_true rfl) rfl (by first | decide | exact ⟨Nat.zero_le _, Nat.zero_le _⟩) ?_
              refine go_if_le (tgt := 124) (at_of tX10_counts 3 12 rfl) (by decide) (fun h110 => ?_) (fun h110 => ?_)
              · exfalso; omega
              refine go_aload_n (at_of tX10_counts 3 13 rfl) rfl ?_
              refine go_iload (at_of tX10_counts 3 14 rfl) rfl rfl ?_
              refine go_bipush (at_of tX10_counts 3 15 rfl) (by decide) ?_
              refine go_cV (m_at6 hSc hNc (by omega) h47) lk_X10_106 rfl G_109 (at_of tX10_counts 4 0 rfl) rfl (by decide) rfl (Nat.le_of_ble_eq_true rfl) rfl (by first | decide | exact ⟨Nat.zero_le _, Nat.zero_le _⟩) ?_
              refine go_goto (tgt := 133) (at_of tX10_counts 4 1 rfl) (by decide) ?_
              refine go_istore_n (at_of tX10_counts 4 8 rfl) rfl rfl ?_
              refine go_aload_n (at_of tX10_counts 4 9 rfl) rfl ?_
              refine go_getr (q := 123) fl_X10_65 rfl G_109 (by first | exact (hS _ _ rfl).trans rfl | exact (hS1 _ _ rfl).trans rfl | exact (hS2 _ _ rfl).trans rfl | exact (hS3 _ _ rfl).trans rfl | exact (hS4 _ _ rfl).trans rfl) (at_of tX10_counts 4 10 rfl) ?_
              refine go_iload (at_of tX10_counts 4 11 rfl) rfl rfl ?_
              refine go_iload_n (at_of tX10_counts 4 12 rfl) rfl ?_
              refine go_iast1 G_123 (by omega) (by omega) (at_of tX10_counts 4 13 rfl) ?_
              rw [ctT_set (by omega)]
              refine go_iload (at_of tX10_counts 4 14 rfl) rfl rfl ?_
              refine go_iconst (at_of tX10_counts 4 15 rfl) (by unfold in32; omega) ?_
              refine go_iadd (at_of tX10_counts 5 0 rfl) (by unfold in32; omega) ?_
              refine go_istore (at_of tX10_counts 5 1 rfl) rfl rfl ?_
              refine key2 (2 - R.1 8 i).toNat _ (R.1 8 i + 1) _ _ _ _ _ _ (by omega) (by omega) (fun b k' => ?_)
              rw [ct1_z (rs := R.1 9 i) ((if_pos hrs).symm)]
              refine go_iinc (at_of tX10_counts 5 12 rfl) rfl (by unfold in32; omega) rfl rfl ?_
              refine go_goto (tgt := 32) (at_of tX10_counts 5 13 rfl) (by decide) ?_
              exact fin _ _ _ _ _ (if_pos hrs).symm
            · skip
              refine go_iload (at_of tX10_counts 1 5 rfl) rfl rfl ?_
              refine go_iload_n (at_of tX10_counts 1 6 rfl) rfl ?_
              refine go_icmp_gt (tgt := 174) (at_of tX10_counts 1 7 rfl) (by decide) (fun h35 => ?_) (fun h35 => ?_)
              · exfalso; omega
              refine go_iload_n (at_of tX10_counts 1 8 rfl) rfl ?_
              refine go_iconst (at_of tX10_counts 1 9 rfl) (by unfold in32; omega) ?_
              refine go_icmp_eq (tgt := 174) (at_of tX10_counts 1 10 rfl) (by decide) (fun h40 => ?_) (fun h40 => ?_)
              · exfalso; omega
              refine go_iload (at_of tX10_counts 1 11 rfl) rfl rfl ?_
              refine go_aload_n (at_of tX10_counts 1 12 rfl) rfl ?_
              refine go_cV (m_many hSc hNc) lk_X10_110 rfl G_109 (at_of tX10_counts 1 13 rfl) rfl (by decide) rfl (Nat.le_of_ble_eq_true rfl) rfl (by first | decide | exact ⟨Nat.zero_le _, Nat.zero_le _⟩) ?_
              refine go_icmp_eq (tgt := 70) (at_of tX10_counts 1 14 rfl) (by decide) (fun h49 => ?_) (fun h49 => ?_)
              rotate_left
              · exfalso; omega
              refine go_aload_n (at_of tX10_counts 2 7 rfl) rfl ?_
              refine go_iload (at_of tX10_counts 2 8 rfl) rfl rfl ?_
              refine go_iconst (at_of tX10_counts 2 9 rfl) (by unfold in32; omega) ?_
              refine go_cV (m_at4 hSc hNc (by omega) h47) lk_X10_106 rfl G_109 (at_of tX10_counts 2 10 rfl) rfl (by decide) rfl (Nat.le_of_ble_eq_true rfl) rfl (by first | decide | exact ⟨Nat.zero_le _, Nat.zero_le _⟩) ?_
              refine go_iload_n (at_of tX10_counts 2 11 rfl) rfl ?_
              refine go_icmp_ne (tgt := 85) (at_of tX10_counts 2 12 rfl) (by decide) (fun h78 => ?_) (fun h78 => ?_)
              · exfalso; omega
              refine go_iconst (at_of tX10_counts 2 13 rfl) (by unfold in32; omega) ?_
              refine go_goto (tgt := 86) (at_of tX10_counts 2 14 rfl) (by decide) ?_
              refine go_istore (at_of tX10_counts 3 0 rfl) rfl rfl ?_
              refine go_iload (at_of tX10_counts 3 1 rfl) rfl rfl ?_
              refine go_if_eq (tgt := 168) (at_of tX10_counts 3 2 rfl) (by decide) (fun h90 => ?_) (fun h90 => ?_)
              · exfalso; omega
              refine go_aload_n (at_of tX10_counts 3 3 rfl) rfl ?_
              refine go_iload (at_of tX10_counts 3 4 rfl) rfl rfl ?_
              refine go_iconst (at_of tX10_counts 3 5 rfl) (by unfold in32; omega) ?_
              refine go_cV (m_at5 hSc hNc (by omega) h47) lk_X10_106 rfl G_109 (at_of tX10_counts 3 6 rfl) rfl (by decide) rfl (Nat.le_of_ble_eq_true rfl) rfl (by first | decide | exact ⟨Nat.zero_le _, Nat.zero_le _⟩) ?_
              refine go_istore (at_of tX10_counts 3 7 rfl) rfl rfl ?_
              refine go_aload_n (at_of tX10_counts 3 8 rfl) rfl ?_
              refine go_iload (at_of tX10_counts 3 9 rfl) rfl rfl ?_
              refine go_bipush (at_of tX10_counts 3 10 rfl) (by decide) ?_
              refine go_cV (m_at6 hSc hNc (by omega) h47) lk_X10_106 rfl G_109 (at_of tX10_counts 3 11 rfl) rfl (by decide) rfl (Nat.le_of_ble_eq_true rfl) rfl (by first | decide | exact ⟨Nat.zero_le _, Nat.zero_le _⟩) ?_
              refine go_if_le (tgt := 124) (at_of tX10_counts 3 12 rfl) (by decide) (fun h110 => ?_) (fun h110 => ?_)
              rotate_left
              · exfalso; omega
              refine go_aload_n (at_of tX10_counts 4 2 rfl) rfl ?_
              refine go_getr (q := 123) fl_X10_65 rfl G_109 (by first | exact (hS _ _ rfl).trans rfl | exact (hS1 _ _ rfl).trans rfl | exact (hS2 _ _ rfl).trans rfl | exact (hS3 _ _ rfl).trans rfl | exact (hS4 _ _ rfl).trans rfl) (at_of tX10_counts 4 3 rfl) ?_
              refine go_iload (at_of tX10_counts 4 4 rfl) rfl rfl ?_
              refine go_iald G_123 (by omega) (by omega) (at_of tX10_counts 4 5 rfl) ?_
              rw [ev]
              refine go_iconst (at_of tX10_counts 4 6 rfl) (by unfold in32; omega) ?_
              refine go_iadd (at_of tX10_counts 4 7 rfl) (by unfold in32; omega) ?_
              refine go_istore_n (at_of tX10_counts 4 8 rfl) rfl rfl ?_
              refine go_aload_n (at_of tX10_counts 4 9 rfl) rfl ?_
              refine go_getr (q := 123) fl_X10_65 rfl G_109 (by first | exact (hS _ _ rfl).trans rfl | exact (hS1 _ _ rfl).trans rfl | exact (hS2 _ _ rfl).trans rfl | exact (hS3 _ _ rfl).trans rfl | exact (hS4 _ _ rfl).trans rfl) (at_of tX10_counts 4 10 rfl) ?_
              refine go_iload (at_of tX10_counts 4 11 rfl) rfl rfl ?_
              refine go_iload_n (at_of tX10_counts 4 12 rfl) rfl ?_
              refine go_iast1 G_123 (by omega) (by omega) (at_of tX10_counts 4 13 rfl) ?_
              rw [ctT_set (by omega)]
              refine go_iload (at_of tX10_counts 4 14 rfl) rfl rfl ?_
              refine go_iconst (at_of tX10_counts 4 15 rfl) (by unfold in32; omega) ?_
              refine go_iadd (at_of tX10_counts 5 0 rfl) (by unfold in32; omega) ?_
              refine go_istore (at_of tX10_counts 5 1 rfl) rfl rfl ?_
              refine key2 (2 - R.1 8 i).toNat _ (R.1 8 i + 1) _ _ _ _ _ _ (by omega) (by omega) (fun b k' => ?_)
              rw [ct1_z (rs := R.1 9 i) ((if_neg hrs).symm)]
              refine go_iinc (at_of tX10_counts 5 12 rfl) rfl (by unfold in32; omega) rfl rfl ?_
              refine go_goto (tgt := 32) (at_of tX10_counts 5 13 rfl) (by decide) ?_
              exact fin _ _ _ _ _ (if_neg hrs).symm

          · skip
            have hcc := ct1_le (lv := R.1 8 i) (rs := R.1 9 i) (K := 99 + i) ⟨w3, w4⟩ h2 (by omega)
            have e9 : ctG R l c i = ct1 (R.1 8 i) (R.1 9 i) c := if_pos ⟨hq, hl⟩
            rw [e9]
            have ev := ctT_at (σ := σ) (c := c) (j := R.1 8 i) ⟨w1, by omega⟩
            have hc8 := h2 (R.1 8 i)
            have fin : ∀ (b : Nat × Nat) (v5 v6 v7 : MV) (t' : Int), t' = (if 0 < R.1 9 i then R.1 9 i else c (R.1 8 i) + 1) → Go (fun _ => 0) 2 mX10_counts b 32 [vA 109, vI e, vI l, vI t', vI (i + 1), v5, v6, v7] [] (ctT σ (ct1 (R.1 8 i) (R.1 9 i) c)) (vI (if m + 1 = 0 then t else upX (ctG R l) m (i + 1) (ct1 (R.1 8 i) (R.1 9 i) c) (R.1 8 e)), ctT σ (upX (ctG R l) m (i + 1) (ct1 (R.1 8 i) (R.1 9 i) c))) := by
              intro b v5 v6 v7 t' ht'
              have z := ih b (i + 1) t' (ct1 (R.1 8 i) (R.1 9 i) c) v5 v6 v7 (by omega) (by omega) (fun j => by have := hcc j; omega)
              have hv : (if m + 1 = 0 then t else upX (ctG R l) m (i + 1) (ct1 (R.1 8 i) (R.1 9 i) c) (R.1 8 e)) = (if m = 0 then t' else upX (ctG R l) m (i + 1) (ct1 (R.1 8 i) (R.1 9 i) c) (R.1 8 e)) := by
                rw [if_neg (by omega)]
                by_cases hm : m = 0
                · rw [if_pos hm]
                  subst hm
                  obtain rfl : i = e := by omega
                  rw [upX, ht']
                  exact if_pos rfl
                · rw [if_neg hm]
              rw [hv]
              exact z
            by_cases hrs : 0 < R.1 9 i
            · skip
              refine go_iload (at_of tX10_counts 1 5 rfl) rfl rfl ?_
              refine go_iload_n (at_of tX10_counts 1 6 rfl) rfl ?_
              refine go_icmp_gt (tgt := 174) (at_of tX10_counts 1 7 rfl) (by decide) (fun h35 => ?_) (fun h35 => ?_)
              · exfalso; omega
              refine go_iload_n (at_of tX10_counts 1 8 rfl) rfl ?_
              refine go_iconst (at_of tX10_counts 1 9 rfl) (by unfold in32; omega) ?_
              refine go_icmp_eq (tgt := 174) (at_of tX10_counts 1 10 rfl) (by decide) (fun h40 => ?_) (fun h40 => ?_)
              · exfalso; omega
              refine go_iload (at_of tX10_counts 1 11 rfl) rfl rfl ?_
              refine go_aload_n (at_of tX10_counts 1 12 rfl) rfl ?_
              refine go_cV (m_many hSc hNc) lk_X10_110 rfl G_109 (at_of tX10_counts 1 13 rfl) rfl (by decide) rfl (Nat.le_of_ble_eq_true rfl) rfl (by first | decide | exact ⟨Nat.zero_le _, Nat.zero_le _⟩) ?_
              refine go_icmp_eq (tgt := 70) (at_of tX10_counts 1 14 rfl) (by decide) (fun h49 => ?_) (fun h49 => ?_)
              · exfalso; omega
              refine go_aload_n (at_of tX10_counts 1 15 rfl) rfl ?_
              refine go_iload (at_of tX10_counts 2 0 rfl) rfl rfl ?_
              refine go_cV (m_isSeen hSc hNc (by omega)) lk_X10_114 rfl G_109 (at_of tX10_counts 2 1 rfl) rfl (by decide) rfl (Nat.le_of_ble_eq_true rfl) rfl (by first | decide | exact ⟨Nat.zero_le _, Nat.zero_le _⟩) ?_
              refine go_if_eq (tgt := 85) (at_of tX10_counts 2 2 rfl) (by decide) (fun h58 => ?_) (fun h58 => ?_)
              · exfalso; exact bI_0.mp h58 h3i
              refine go_aload_n (at_of tX10_counts 2 3 rfl) rfl ?_
              refine go_iload (at_of tX10_counts 2 4 rfl) rfl rfl ?_
              refine go_cV (m_isEnd hSc hNc hSg (by omega)) lk_X10_118 rfl G_109 (at_of tX10_counts 2 5 rfl) rfl (by decide) rfl (Nat.le_of_ble_eq_true rfl) rfl (by first | decide | exact ⟨Nat.zero_le _, Nat.zero_le _⟩) ?_
              refine go_if_eq (tgt := 85) (at_of tX10_counts 2 6 rfl) (by decide) (fun h67 => ?_) (fun h67 => ?_)
              · exfalso; exact bI_0.mp h67 h47
              refine go_aload_n (at_of tX10_counts 2 7 rfl) rfl ?_
              refine go_iload (at_of tX10_counts 2 8 rfl) rfl rfl ?_
              refine go_iconst (at_of tX10_counts 2 9 rfl) (by unfold in32; omega) ?_
              refine go_cV (m_at4 hSc hNc (by omega) h47) lk_X10_106 rfl G_109 (at_of tX10_counts 2 10 rfl) rfl (by decide) rfl (Nat.le_of_ble_eq_true rfl) rfl (by first | decide | exact ⟨Nat.zero_le _, Nat.zero_le _⟩) ?_
              refine go_iload_n (at_of tX10_counts 2 11 rfl) rfl ?_
              refine go_icmp_ne (tgt := 85) (at_of tX10_counts 2 12 rfl) (by decide) (fun h78 => ?_) (fun h78 => ?_)
              · exfalso; omega
              refine go_iconst (at_of tX10_counts 2 13 rfl) (by unfold in32; omega) ?_
              refine go_goto (tgt := 86) (at_of tX10_counts 2 14 rfl) (by decide) ?_
              refine go_istore (at_of tX10_counts 3 0 rfl) rfl rfl ?_
              refine go_iload (at_of tX10_counts 3 1 rfl) rfl rfl ?_
              refine go_if_eq (tgt := 168) (at_of tX10_counts 3 2 rfl) (by decide) (fun h90 => ?_) (fun h90 => ?_)
              · exfalso; omega
              refine go_aload_n (at_of tX10_counts 3 3 rfl) rfl ?_
              refine go_iload (at_of tX10_counts 3 4 rfl) rfl rfl ?_
              refine go_iconst (at_of tX10_counts 3 5 rfl) (by unfold in32; omega) ?_
              refine go_cV (m_at5 hSc hNc (by omega) h47) lk_X10_106 rfl G_109 (at_of tX10_counts 3 6 rfl) rfl (by decide) rfl (Nat.le_of_ble_eq_true rfl) rfl (by first | decide | exact ⟨Nat.zero_le _, Nat.zero_le _⟩) ?_
              refine go_istore (at_of tX10_counts 3 7 rfl) rfl rfl ?_
              refine go_aload_n (at_of tX10_counts 3 8 rfl) rfl ?_
              refine go_iload (at_of tX10_counts 3 9 rfl) rfl rfl ?_
              refine go_bipush (at_of tX10_counts 3 10 rfl) (by decide) ?_
              refine go_cV (m_at6 hSc hNc (by omega) h47) lk_X10_106 rfl G_109 (at_of tX10_counts 3 11 rfl) rfl (by decide) rfl (Nat.le_of_ble_eq_true rfl) rfl (by first | decide | exact ⟨Nat.zero_le _, Nat.zero_le _⟩) ?_
              refine go_if_le (tgt := 124) (at_of tX10_counts 3 12 rfl) (by decide) (fun h110 => ?_) (fun h110 => ?_)
              · exfalso; omega
              refine go_aload_n (at_of tX10_counts 3 13 rfl) rfl ?_
              refine go_iload (at_of tX10_counts 3 14 rfl) rfl rfl ?_
              refine go_bipush (at_of tX10_counts 3 15 rfl) (by decide) ?_
              refine go_cV (m_at6 hSc hNc (by omega) h47) lk_X10_106 rfl G_109 (at_of tX10_counts 4 0 rfl) rfl (by decide) rfl (Nat.le_of_ble_eq_true rfl) rfl (by first | decide | exact ⟨Nat.zero_le _, Nat.zero_le _⟩) ?_
              refine go_goto (tgt := 133) (at_of tX10_counts 4 1 rfl) (by decide) ?_
              refine go_istore_n (at_of tX10_counts 4 8 rfl) rfl rfl ?_
              refine go_aload_n (at_of tX10_counts 4 9 rfl) rfl ?_
              refine go_getr (q := 123) fl_X10_65 rfl G_109 (by first | exact (hS _ _ rfl).trans rfl | exact (hS1 _ _ rfl).trans rfl | exact (hS2 _ _ rfl).trans rfl | exact (hS3 _ _ rfl).trans rfl | exact (hS4 _ _ rfl).trans rfl) (at_of tX10_counts 4 10 rfl) ?_
              refine go_iload (at_of tX10_counts 4 11 rfl) rfl rfl ?_
              refine go_iload_n (at_of tX10_counts 4 12 rfl) rfl ?_
              refine go_iast1 G_123 (by omega) (by omega) (at_of tX10_counts 4 13 rfl) ?_
              rw [ctT_set (by omega)]
              refine go_iload (at_of tX10_counts 4 14 rfl) rfl rfl ?_
              refine go_iconst (at_of tX10_counts 4 15 rfl) (by unfold in32; omega) ?_
              refine go_iadd (at_of tX10_counts 5 0 rfl) (by unfold in32; omega) ?_
              refine go_istore (at_of tX10_counts 5 1 rfl) rfl rfl ?_
              refine key2 (2 - R.1 8 i).toNat _ (R.1 8 i + 1) _ _ _ _ _ _ (by omega) (by omega) (fun b k' => ?_)
              rw [ct1_z (rs := R.1 9 i) ((if_pos hrs).symm)]
              refine go_iinc (at_of tX10_counts 5 12 rfl) rfl (by unfold in32; omega) rfl rfl ?_
              refine go_goto (tgt := 32) (at_of tX10_counts 5 13 rfl) (by decide) ?_
              exact fin _ _ _ _ _ (if_pos hrs).symm
            · skip
              refine go_iload (at_of tX10_counts 1 5 rfl) rfl rfl ?_
              refine go_iload_n (at_of tX10_counts 1 6 rfl) rfl ?_
              refine go_icmp_gt (tgt := 174) (at_of tX10_counts 1 7 rfl) (by decide) (fun h35 => ?_) (fun h35 => ?_)
              · exfalso; omega
              refine go_iload_n (at_of tX10_counts 1 8 rfl) rfl ?_
              refine go_iconst (at_of tX10_counts 1 9 rfl) (by unfold in32; omega) ?_
              refine go_icmp_eq (tgt := 174) (at_of tX10_counts 1 10 rfl) (by decide) (fun h40 => ?_) (fun h40 => ?_)
              · exfalso; omega
              refine go_iload (at_of tX10_counts 1 11 rfl) rfl rfl ?_
              refine go_aload_n (at_of tX10_counts 1 12 rfl) rfl ?_
              refine go_cV (m_many hSc hNc) lk_X10_110 rfl G_109 (at_of tX10_counts 1 13 rfl) rfl (by decide) rfl (Nat.le_of_ble_eq_true rfl) rfl (by first | decide | exact ⟨Nat.zero_le _, Nat.zero_le _⟩) ?_
              refine go_icmp_eq (tgt := 70) (at_of tX10_counts 1 14 rfl) (by decide) (fun h49 => ?_) (fun h49 => ?_)
              · exfalso; omega
              refine go_aload_n (at_of tX10_counts 1 15 rfl) rfl ?_
              refine go_iload (at_of tX10_counts 2 0 rfl) rfl rfl ?_
              refine go_cV (m_isSeen hSc hNc (by omega)) lk_X10_114 rfl G_109 (at_of tX10_counts 2 1 rfl) rfl (by decide) rfl (Nat.le_of_ble_eq_true rfl) rfl (by first | decide | exact ⟨Nat.zero_le _, Nat.zero_le _⟩) ?_
              refine go_if_eq (tgt := 85) (at_of tX10_counts 2 2 rfl) (by decide) (fun h58 => ?_) (fun h58 => ?_)
              · exfalso; exact bI_0.mp h58 h3i
              refine go_aload_n (at_of tX10_counts 2 3 rfl) rfl ?_
              refine go_iload (at_of tX10_counts 2 4 rfl) rfl rfl ?_
              refine go_cV (m_isEnd hSc hNc hSg (by omega)) lk_X10_118 rfl G_109 (at_of tX10_counts 2 5 rfl) rfl (by decide) rfl (Nat.le_of_ble_eq_true rfl) rfl (by first | decide | exact ⟨Nat.zero_le _, Nat.zero_le _⟩) ?_
              refine go_if_eq (tgt := 85) (at_of tX10_counts 2 6 rfl) (by decide) (fun h67 => ?_) (fun h67 => ?_)
              · exfalso; exact bI_0.mp h67 h47
              refine go_aload_n (at_of tX10_counts 2 7 rfl) rfl ?_
              refine go_iload (at_of tX10_counts 2 8 rfl) rfl rfl ?_
              refine go_iconst (at_of tX10_counts 2 9 rfl) (by unfold in32; omega) ?_
              refine go_cV (m_at4 hSc hNc (by omega) h47) lk_X10_106 rfl G_109 (at_of tX10_counts 2 10 rfl) rfl (by decide) rfl (Nat.le_of_ble_eq_true rfl) rfl (by first | decide | exact ⟨Nat.zero_le _, Nat.zero_le _⟩) ?_
              refine go_iload_n (at_of tX10_counts 2 11 rfl) rfl ?_
              refine go_icmp_ne (tgt := 85) (at_of tX10_counts 2 12 rfl) (by decide) (fun h78 => ?_) (fun h78 => ?_)
              · exfalso; omega
              refine go_iconst (at_of tX10_counts 2 13 rfl) (by unfold in32; omega) ?_
              refine go_goto (tgt := 86) (at_of tX10_counts 2 14 rfl) (by decide) ?_
              refine go_istore (at_of tX10_counts 3 0 rfl) rfl rfl ?_
              refine go_iload (at_of tX10_counts 3 1 rfl) rfl rfl ?_
              refine go_if_eq (tgt := 168) (at_of tX10_counts 3 2 rfl) (by decide) (fun h90 => ?_) (fun h90 => ?_)
              · exfalso; omega
              refine go_aload_n (at_of tX10_counts 3 3 rfl) rfl ?_
              refine go_iload (at_of tX10_counts 3 4 rfl) rfl rfl ?_
              refine go_iconst (at_of tX10_counts 3 5 rfl) (by unfold in32; omega) ?_
              refine go_cV (m_at5 hSc hNc (by omega) h47) lk_X10_106 rfl G_109 (at_of tX10_counts 3 6 rfl) rfl (by decide) rfl (Nat.le_of_ble_eq_true rfl) rfl (by first | decide | exact ⟨Nat.zero_le _, Nat.zero_le _⟩) ?_
              refine go_istore (at_of tX10_counts 3 7 rfl) rfl rfl ?_
              refine go_aload_n (at_of tX10_counts 3 8 rfl) rfl ?_
              refine go_iload (at_of tX10_counts 3 9 rfl) rfl rfl ?_
              refine go_bipush (at_of tX10_counts 3 10 rfl) (by decide) ?_
              refine go_cV (m_at6 hSc hNc (by omega) h47) lk_X10_106 rfl G_109 (at_of tX10_counts 3 11 rfl) rfl (by decide) rfl (Nat.le_of_ble_eq_true rfl) rfl (by first | decide | exact ⟨Nat.zero_le _, Nat.zero_le _⟩) ?_
              refine go_if_le (tgt := 124) (at_of tX10_counts 3 12 rfl) (by decide) (fun h110 => ?_) (fun h110 => ?_)
              rotate_left
              · exfalso; omega
              refine go_aload_n (at_of tX10_counts 4 2 rfl) rfl ?_
              refine go_getr (q := 123) fl_X10_65 rfl G_109 (by first | exact (hS _ _ rfl).trans rfl | exact (hS1 _ _ rfl).trans rfl | exact (hS2 _ _ rfl).trans rfl | exact (hS3 _ _ rfl).trans rfl | exact (hS4 _ _ rfl).trans rfl) (at_of tX10_counts 4 3 rfl) ?_
              refine go_iload (at_of tX10_counts 4 4 rfl) rfl rfl ?_
              refine go_iald G_123 (by omega) (by omega) (at_of tX10_counts 4 5 rfl) ?_
              rw [ev]
              refine go_iconst (at_of tX10_counts 4 6 rfl) (by unfold in32; omega) ?_
              refine go_iadd (at_of tX10_counts 4 7 rfl) (by unfold in32; omega) ?_
              refine go_istore_n (at_of tX10_counts 4 8 rfl) rfl rfl ?_
              refine go_aload_n (at_of tX10_counts 4 9 rfl) rfl ?_
              refine go_getr (q := 123) fl_X10_65 rfl G_109 (by first | exact (hS _ _ rfl).trans rfl | exact (hS1 _ _ rfl).trans rfl | exact (hS2 _ _ rfl).trans rfl | exact (hS3 _ _ rfl).trans rfl | exact (hS4 _ _ rfl).trans rfl) (at_of tX10_counts 4 10 rfl) ?_
              refine go_iload (at_of tX10_counts 4 11 rfl) rfl rfl ?_
              refine go_iload_n (at_of tX10_counts 4 12 rfl) rfl ?_
              refine go_iast1 G_123 (by omega) (by omega) (at_of tX10_counts 4 13 rfl) ?_
              rw [ctT_set (by omega)]
              refine go_iload (at_of tX10_counts 4 14 rfl) rfl rfl ?_
              refine go_iconst (at_of tX10_counts 4 15 rfl) (by unfold in32; omega) ?_
              refine go_iadd (at_of tX10_counts 5 0 rfl) (by unfold in32; omega) ?_
              refine go_istore (at_of tX10_counts 5 1 rfl) rfl rfl ?_
              refine key2 (2 - R.1 8 i).toNat _ (R.1 8 i + 1) _ _ _ _ _ _ (by omega) (by omega) (fun b k' => ?_)
              rw [ct1_z (rs := R.1 9 i) ((if_neg hrs).symm)]
              refine go_iinc (at_of tX10_counts 5 12 rfl) rfl (by unfold in32; omega) rfl rfl ?_
              refine go_goto (tgt := 32) (at_of tX10_counts 5 13 rfl) (by decide) ?_
              exact fin _ _ _ _ _ (if_neg hrs).symm

        · have hme : m ≠ 0 := fun q => hl (hlast (by omega)).2
          have e9 : ctG R l c i = c := if_neg (fun q => hl q.2)
          rw [e9, if_neg (by omega)]
          have hsk : ∀ (b : Nat × Nat) (v5 v6 v7 : MV), Go (fun _ => 0) 2 mX10_counts b 32 [vA 109, vI e, vI l, vI t, vI (i + 1), v5, v6, v7] [] (ctT σ c) (vI (upX (ctG R l) m (i + 1) c (R.1 8 e)), ctT σ (upX (ctG R l) m (i + 1) c)) := fun b v5 v6 v7 => by
            have z := ih b (i + 1) t c v5 v6 v7 (by omega) (by omega) (fun j => by have := h2 j; omega)
            rw [if_neg hme] at z
            exact z
          by_cases hn : i = R.2.1
          · skip
            refine go_iload (at_of tX10_counts 1 5 rfl) rfl rfl ?_
            refine go_iload_n (at_of tX10_counts 1 6 rfl) rfl ?_
            refine go_icmp_gt (tgt := 174) (at_of tX10_counts 1 7 rfl) (by decide) (fun h35 => ?_) (fun h35 => ?_)
            · exfalso; omega
            refine go_iload_n (at_of tX10_counts 1 8 rfl) rfl ?_
            refine go_iconst (at_of tX10_counts 1 9 rfl) (by unfold in32; omega) ?_
            refine go_icmp_eq (tgt := 174) (at_of tX10_counts 1 10 rfl) (by decide) (fun h40 => ?_) (fun h40 => ?_)
            · exfalso; omega
            refine go_iload (at_of tX10_counts 1 11 rfl) rfl rfl ?_
            refine go_aload_n (at_of tX10_counts 1 12 rfl) rfl ?_
            refine go_cV (m_many hSc hNc) lk_X10_110 rfl G_109 (at_of tX10_counts 1 13 rfl) rfl (by decide) rfl (Nat.le_of_ble_eq_true rfl) rfl (by first | decide | exact ⟨Nat.zero_le _, Nat.zero_le _⟩) ?_
            refine go_icmp_eq (tgt := 70) (at_of tX10_counts 1 14 rfl) (by decide) (fun h49 => ?_) (fun h49 => ?_)
            rotate_left
            · exfalso; omega
            refine go_aload_n (at_of tX10_counts 2 7 rfl) rfl ?_
            refine go_iload (at_of tX10_counts 2 8 rfl) rfl rfl ?_
            refine go_iconst (at_of tX10_counts 2 9 rfl) (by unfold in32; omega) ?_
            refine go_cV (m_at4 hSc hNc (by omega) h47) lk_X10_106 rfl G_109 (at_of tX10_counts 2 10 rfl) rfl (by decide) rfl (Nat.le_of_ble_eq_true rfl) rfl (by first | decide | exact ⟨Nat.zero_le _, Nat.zero_le _⟩) ?_
            refine go_iload_n (at_of tX10_counts 2 11 rfl) rfl ?_
            refine go_icmp_ne (tgt := 85) (at_of tX10_counts 2 12 rfl) (by decide) (fun h78 => ?_) (fun h78 => ?_)
            rotate_left
            · exfalso; omega
            refine go_iconst (at_of tX10_counts 2 15 rfl) (by unfold in32; omega) ?_
            refine go_istore (at_of tX10_counts 3 0 rfl) rfl rfl ?_
            refine go_iload (at_of tX10_counts 3 1 rfl) rfl rfl ?_
            refine go_if_eq (tgt := 168) (at_of tX10_counts 3 2 rfl) (by decide) (fun h90 => ?_) (fun h90 => ?_)
            rotate_left
            · exfalso; omega
            refine go_iinc (at_of tX10_counts 5 12 rfl) rfl (by unfold in32; omega) rfl rfl ?_
            refine go_goto (tgt := 32) (at_of tX10_counts 5 13 rfl) (by decide) ?_
            exact hsk _ _ _ _
          · skip
            refine go_iload (at_of tX10_counts 1 5 rfl) rfl rfl ?_
            refine go_iload_n (at_of tX10_counts 1 6 rfl) rfl ?_
            refine go_icmp_gt (tgt := 174) (at_of tX10_counts 1 7 rfl) (by decide) (fun h35 => ?_) (fun h35 => ?_)
            · exfalso; omega
            refine go_iload_n (at_of tX10_counts 1 8 rfl) rfl ?_
            refine go_iconst (at_of tX10_counts 1 9 rfl) (by unfold in32; omega) ?_
            refine go_icmp_eq (tgt := 174) (at_of tX10_counts 1 10 rfl) (by decide) (fun h40 => ?_) (fun h40 => ?_)
            · exfalso; omega
            refine go_iload (at_of tX10_counts 1 11 rfl) rfl rfl ?_
            refine go_aload_n (at_of tX10_counts 1 12 rfl) rfl ?_
            refine go_cV (m_many hSc hNc) lk_X10_110 rfl G_109 (at_of tX10_counts 1 13 rfl) rfl (by decide) rfl (Nat.le_of_ble_eq_true rfl) rfl (by first | decide | exact ⟨Nat.zero_le _, Nat.zero_le _⟩) ?_
            refine go_icmp_eq (tgt := 70) (at_of tX10_counts 1 14 rfl) (by decide) (fun h49 => ?_) (fun h49 => ?_)
            · exfalso; omega
            refine go_aload_n (at_of tX10_counts 1 15 rfl) rfl ?_
            refine go_iload (at_of tX10_counts 2 0 rfl) rfl rfl ?_
            refine go_cV (m_isSeen hSc hNc (by omega)) lk_X10_114 rfl G_109 (at_of tX10_counts 2 1 rfl) rfl (by decide) rfl (Nat.le_of_ble_eq_true rfl) rfl (by first | decide | exact ⟨Nat.zero_le _, Nat.zero_le _⟩) ?_
            refine go_if_eq (tgt := 85) (at_of tX10_counts 2 2 rfl) (by decide) (fun h58 => ?_) (fun h58 => ?_)
            · exfalso; exact bI_0.mp h58 h3i
            refine go_aload_n (at_of tX10_counts 2 3 rfl) rfl ?_
            refine go_iload (at_of tX10_counts 2 4 rfl) rfl rfl ?_
            refine go_cV (m_isEnd hSc hNc hSg (by omega)) lk_X10_118 rfl G_109 (at_of tX10_counts 2 5 rfl) rfl (by decide) rfl (Nat.le_of_ble_eq_true rfl) rfl (by first | decide | exact ⟨Nat.zero_le _, Nat.zero_le _⟩) ?_
            refine go_if_eq (tgt := 85) (at_of tX10_counts 2 6 rfl) (by decide) (fun h67 => ?_) (fun h67 => ?_)
            · exfalso; exact bI_0.mp h67 h47
            refine go_aload_n (at_of tX10_counts 2 7 rfl) rfl ?_
            refine go_iload (at_of tX10_counts 2 8 rfl) rfl rfl ?_
            refine go_iconst (at_of tX10_counts 2 9 rfl) (by unfold in32; omega) ?_
            refine go_cV (m_at4 hSc hNc (by omega) h47) lk_X10_106 rfl G_109 (at_of tX10_counts 2 10 rfl) rfl (by decide) rfl (Nat.le_of_ble_eq_true rfl) rfl (by first | decide | exact ⟨Nat.zero_le _, Nat.zero_le _⟩) ?_
            refine go_iload_n (at_of tX10_counts 2 11 rfl) rfl ?_
            refine go_icmp_ne (tgt := 85) (at_of tX10_counts 2 12 rfl) (by decide) (fun h78 => ?_) (fun h78 => ?_)
            rotate_left
            · exfalso; omega
            refine go_iconst (at_of tX10_counts 2 15 rfl) (by unfold in32; omega) ?_
            refine go_istore (at_of tX10_counts 3 0 rfl) rfl rfl ?_
            refine go_iload (at_of tX10_counts 3 1 rfl) rfl rfl ?_
            refine go_if_eq (tgt := 168) (at_of tX10_counts 3 2 rfl) (by decide) (fun h90 => ?_) (fun h90 => ?_)
            rotate_left
            · exfalso; omega
            refine go_iinc (at_of tX10_counts 5 12 rfl) rfl (by unfold in32; omega) rfl rfl ?_
            refine go_goto (tgt := 32) (at_of tX10_counts 5 13 rfl) (by decide) ?_
            exact hsk _ _ _ _
      · have hme : m ≠ 0 := fun q => hq (hlast (by omega)).1
        have e9 : ctG R l c i = c := if_neg (fun q => hq q.1)
        rw [e9, if_neg (by omega)]
        have hsk : ∀ (b : Nat × Nat) (v5 v6 v7 : MV), Go (fun _ => 0) 2 mX10_counts b 32 [vA 109, vI e, vI l, vI t, vI (i + 1), v5, v6, v7] [] (ctT σ c) (vI (upX (ctG R l) m (i + 1) c (R.1 8 e)), ctT σ (upX (ctG R l) m (i + 1) c)) := fun b v5 v6 v7 => by
          have z := ih b (i + 1) t c v5 v6 v7 (by omega) (by omega) (fun j => by have := h2 j; omega)
          rw [if_neg hme] at z
          exact z
        have hn : i ≠ R.2.1 := fun q => hq (decide_eq_true ⟨h0i, by omega, by rw [q]; assumption, by rw [q]; assumption⟩)
        by_cases hs : R.1 3 i = -1
        · have hx : R.1 0 i ≠ 47 := fun q => hq (decide_eq_true ⟨h0i, by omega, hs, q⟩)
          refine go_iload (at_of tX10_counts 1 5 rfl) rfl rfl ?_
          refine go_iload_n (at_of tX10_counts 1 6 rfl) rfl ?_
          refine go_icmp_gt (tgt := 174) (at_of tX10_counts 1 7 rfl) (by decide) (fun h35 => ?_) (fun h35 => ?_)
          · exfalso; omega
          refine go_iload_n (at_of tX10_counts 1 8 rfl) rfl ?_
          refine go_iconst (at_of tX10_counts 1 9 rfl) (by unfold in32; omega) ?_
          refine go_icmp_eq (tgt := 174) (at_of tX10_counts 1 10 rfl) (by decide) (fun h40 => ?_) (fun h40 => ?_)
          · exfalso; omega
          refine go_iload (at_of tX10_counts 1 11 rfl) rfl rfl ?_
          refine go_aload_n (at_of tX10_counts 1 12 rfl) rfl ?_
          refine go_cV (m_many hSc hNc) lk_X10_110 rfl G_109 (at_of tX10_counts 1 13 rfl) rfl (by decide) rfl (Nat.le_of_ble_eq_true rfl) rfl (by first | decide | exact ⟨Nat.zero_le _, Nat.zero_le _⟩) ?_
          refine go_icmp_eq (tgt := 70) (at_of tX10_counts 1 14 rfl) (by decide) (fun h49 => ?_) (fun h49 => ?_)
          · exfalso; omega
          refine go_aload_n (at_of tX10_counts 1 15 rfl) rfl ?_
          refine go_iload (at_of tX10_counts 2 0 rfl) rfl rfl ?_
          refine go_cV (m_isSeen hSc hNc (by omega)) lk_X10_114 rfl G_109 (at_of tX10_counts 2 1 rfl) rfl (by decide) rfl (Nat.le_of_ble_eq_true rfl) rfl (by first | decide | exact ⟨Nat.zero_le _, Nat.zero_le _⟩) ?_
          refine go_if_eq (tgt := 85) (at_of tX10_counts 2 2 rfl) (by decide) (fun h58 => ?_) (fun h58 => ?_)
          · exfalso; exact bI_0.mp h58 hs
          refine go_aload_n (at_of tX10_counts 2 3 rfl) rfl ?_
          refine go_iload (at_of tX10_counts 2 4 rfl) rfl rfl ?_
          refine go_cV (m_isEnd hSc hNc hSg (by omega)) lk_X10_118 rfl G_109 (at_of tX10_counts 2 5 rfl) rfl (by decide) rfl (Nat.le_of_ble_eq_true rfl) rfl (by first | decide | exact ⟨Nat.zero_le _, Nat.zero_le _⟩) ?_
          refine go_if_eq (tgt := 85) (at_of tX10_counts 2 6 rfl) (by decide) (fun h67 => ?_) (fun h67 => ?_)
          rotate_left
          · exfalso; exact hx (bI_1.mp h67)
          refine go_iconst (at_of tX10_counts 2 15 rfl) (by unfold in32; omega) ?_
          refine go_istore (at_of tX10_counts 3 0 rfl) rfl rfl ?_
          refine go_iload (at_of tX10_counts 3 1 rfl) rfl rfl ?_
          refine go_if_eq (tgt := 168) (at_of tX10_counts 3 2 rfl) (by decide) (fun h90 => ?_) (fun h90 => ?_)
          rotate_left
          · exfalso; omega
          refine go_iinc (at_of tX10_counts 5 12 rfl) rfl (by unfold in32; omega) rfl rfl ?_
          refine go_goto (tgt := 32) (at_of tX10_counts 5 13 rfl) (by decide) ?_
          exact hsk _ _ _ _
        · skip
          refine go_iload (at_of tX10_counts 1 5 rfl) rfl rfl ?_
          refine go_iload_n (at_of tX10_counts 1 6 rfl) rfl ?_
          refine go_icmp_gt (tgt := 174) (at_of tX10_counts 1 7 rfl) (by decide) (fun h35 => ?_) (fun h35 => ?_)
          · exfalso; omega
          refine go_iload_n (at_of tX10_counts 1 8 rfl) rfl ?_
          refine go_iconst (at_of tX10_counts 1 9 rfl) (by unfold in32; omega) ?_
          refine go_icmp_eq (tgt := 174) (at_of tX10_counts 1 10 rfl) (by decide) (fun h40 => ?_) (fun h40 => ?_)
          · exfalso; omega
          refine go_iload (at_of tX10_counts 1 11 rfl) rfl rfl ?_
          refine go_aload_n (at_of tX10_counts 1 12 rfl) rfl ?_
          refine go_cV (m_many hSc hNc) lk_X10_110 rfl G_109 (at_of tX10_counts 1 13 rfl) rfl (by decide) rfl (Nat.le_of_ble_eq_true rfl) rfl (by first | decide | exact ⟨Nat.zero_le _, Nat.zero_le _⟩) ?_
          refine go_icmp_eq (tgt := 70) (at_of tX10_counts 1 14 rfl) (by decide) (fun h49 => ?_) (fun h49 => ?_)
          · exfalso; omega
          refine go_aload_n (at_of tX10_counts 1 15 rfl) rfl ?_
          refine go_iload (at_of tX10_counts 2 0 rfl) rfl rfl ?_
          refine go_cV (m_isSeen hSc hNc (by omega)) lk_X10_114 rfl G_109 (at_of tX10_counts 2 1 rfl) rfl (by decide) rfl (Nat.le_of_ble_eq_true rfl) rfl (by first | decide | exact ⟨Nat.zero_le _, Nat.zero_le _⟩) ?_
          refine go_if_eq (tgt := 85) (at_of tX10_counts 2 2 rfl) (by decide) (fun h58 => ?_) (fun h58 => ?_)
          rotate_left
          · exfalso; exact hs (bI_1.mp h58)
          refine go_iconst (at_of tX10_counts 2 15 rfl) (by unfold in32; omega) ?_
          refine go_istore (at_of tX10_counts 3 0 rfl) rfl rfl ?_
          refine go_iload (at_of tX10_counts 3 1 rfl) rfl rfl ?_
          refine go_if_eq (tgt := 168) (at_of tX10_counts 3 2 rfl) (by decide) (fun h90 => ?_) (fun h90 => ?_)
          rotate_left
          · exfalso; omega
          refine go_iinc (at_of tX10_counts 5 12 rfl) rfl (by unfold in32; omega) rfl rfl ?_
          refine go_goto (tgt := 32) (at_of tX10_counts 5 13 rfl) (by decide) ?_
          exact hsk _ _ _ _
  refine con_of_go mfX10_counts.1 trivial (Nat.le_of_ble_eq_true rfl) rfl (by decide) ?_
  show Go _ _ _ _ 0 [vA _, vI _, vT 9 0, vT 9 0, vT 9 0, vT 9 0, vT 9 0, vT 9 0] [] _ _
  refine go_iconst (at_of tX10_counts 0 0 rfl) (by unfold in32; omega) ?_
  refine go_istore_n (at_of tX10_counts 0 1 rfl) rfl rfl ?_
  refine go_iload_n (at_of tX10_counts 0 2 rfl) rfl ?_
  refine go_iconst (at_of tX10_counts 0 3 rfl) (by unfold in32; omega) ?_
  refine go_icmp_ge (tgt := 20) (at_of tX10_counts 0 4 rfl) (by decide) (fun h4 => ?_) (fun h4 => ?_)
  · exfalso; omega
  refine go_aload_n (at_of tX10_counts 0 5 rfl) rfl ?_
  refine go_getr (q := 123) fl_X10_65 rfl G_109 (by first | exact (hS _ _ rfl).trans rfl | exact (hS1 _ _ rfl).trans rfl | exact (hS2 _ _ rfl).trans rfl | exact (hS3 _ _ rfl).trans rfl | exact (hS4 _ _ rfl).trans rfl) (at_of tX10_counts 0 6 rfl) ?_
  refine go_iload_n (at_of tX10_counts 0 7 rfl) rfl ?_
  refine go_iconst (at_of tX10_counts 0 8 rfl) (by unfold in32; omega) ?_
  refine go_iast1 G_123 (by omega) (by omega) (at_of tX10_counts 0 9 rfl) ?_
  refine go_iinc (at_of tX10_counts 0 10 rfl) rfl (by unfold in32; omega) rfl rfl ?_
  refine go_goto (tgt := 2) (at_of tX10_counts 0 11 rfl) (by decide) ?_
  refine go_iload_n (at_of tX10_counts 0 2 rfl) rfl ?_
  refine go_iconst (at_of tX10_counts 0 3 rfl) (by unfold in32; omega) ?_
  refine go_icmp_ge (tgt := 20) (at_of tX10_counts 0 4 rfl) (by decide) (fun h4 => ?_) (fun h4 => ?_)
  · exfalso; omega
  refine go_aload_n (at_of tX10_counts 0 5 rfl) rfl ?_
  refine go_getr (q := 123) fl_X10_65 rfl G_109 (by first | exact (hS _ _ rfl).trans rfl | exact (hS1 _ _ rfl).trans rfl | exact (hS2 _ _ rfl).trans rfl | exact (hS3 _ _ rfl).trans rfl | exact (hS4 _ _ rfl).trans rfl) (at_of tX10_counts 0 6 rfl) ?_
  refine go_iload_n (at_of tX10_counts 0 7 rfl) rfl ?_
  refine go_iconst (at_of tX10_counts 0 8 rfl) (by unfold in32; omega) ?_
  refine go_iast1 G_123 (by omega) (by omega) (at_of tX10_counts 0 9 rfl) ?_
  refine go_iinc (at_of tX10_counts 0 10 rfl) rfl (by unfold in32; omega) rfl rfl ?_
  refine go_goto (tgt := 2) (at_of tX10_counts 0 11 rfl) (by decide) ?_
  refine go_iload_n (at_of tX10_counts 0 2 rfl) rfl ?_
  refine go_iconst (at_of tX10_counts 0 3 rfl) (by unfold in32; omega) ?_
  refine go_icmp_ge (tgt := 20) (at_of tX10_counts 0 4 rfl) (by decide) (fun h4 => ?_) (fun h4 => ?_)
  · exfalso; omega
  refine go_aload_n (at_of tX10_counts 0 5 rfl) rfl ?_
  refine go_getr (q := 123) fl_X10_65 rfl G_109 (by first | exact (hS _ _ rfl).trans rfl | exact (hS1 _ _ rfl).trans rfl | exact (hS2 _ _ rfl).trans rfl | exact (hS3 _ _ rfl).trans rfl | exact (hS4 _ _ rfl).trans rfl) (at_of tX10_counts 0 6 rfl) ?_
  refine go_iload_n (at_of tX10_counts 0 7 rfl) rfl ?_
  refine go_iconst (at_of tX10_counts 0 8 rfl) (by unfold in32; omega) ?_
  refine go_iast1 G_123 (by omega) (by omega) (at_of tX10_counts 0 9 rfl) ?_
  refine go_iinc (at_of tX10_counts 0 10 rfl) rfl (by unfold in32; omega) rfl rfl ?_
  refine go_goto (tgt := 2) (at_of tX10_counts 0 11 rfl) (by decide) ?_
  refine go_iload_n (at_of tX10_counts 0 2 rfl) rfl ?_
  refine go_iconst (at_of tX10_counts 0 3 rfl) (by unfold in32; omega) ?_
  refine go_icmp_ge (tgt := 20) (at_of tX10_counts 0 4 rfl) (by decide) (fun h4 => ?_) (fun h4 => ?_)
  rotate_left
  · exfalso; omega
  refine go_aload_n (at_of tX10_counts 0 12 rfl) rfl ?_
  refine go_iload_n (at_of tX10_counts 0 13 rfl) rfl ?_
  refine go_iconst (at_of tX10_counts 0 14 rfl) (by unfold in32; omega) ?_
  rw [ctT_zero]
  refine go_cV (m_at4 (by exact hS) (by rw [cN_ctT]; exact hN) (by omega) h0) lk_X10_106 rfl G_109 (at_of tX10_counts 0 15 rfl) rfl (by decide) rfl (Nat.le_of_ble_eq_true rfl) rfl (by first | decide | exact ⟨Nat.zero_le _, Nat.zero_le _⟩) ?_
  rw [← hle]
  refine go_istore_n (at_of tX10_counts 1 0 rfl) rfl rfl ?_
  refine go_iconst (at_of tX10_counts 1 1 rfl) (by unfold in32; omega) ?_
  refine go_istore_n (at_of tX10_counts 1 2 rfl) rfl rfl ?_
  refine go_iconst (at_of tX10_counts 1 3 rfl) (by unfold in32; omega) ?_
  refine go_istore (at_of tX10_counts 1 4 rfl) rfl rfl ?_
  have z := fun b v5 v6 v7 => key (e + 1).toNat b 0 0 (fun _ => 0) v5 v6 v7 (by omega) (by omega) (fun j => ⟨by omega, by omega⟩)
  rw [if_neg (by omega)] at z
  exact z _ _ _ _
theorem m_counts_0 (hS : Str σ.2.1) (hN : RepNr (cN σ) R) (hL : LastE R) (hSg : SgW R) (hE : EndW R) {e : Int} (he : 0 ≤ e ∧ e ≤ R.2.1) (h0 : R.1 0 e = 47) (h7 : R.1 7 e = -1) : Con 2 mX10_counts 0 0 [vA 109, vI e] σ (vI 0, ctT σ (fun _ => 0)) := by
  obtain ⟨e1, e2, e3, e4⟩ := id hL
  have key : ∀ (m : Nat) (b : Nat × Nat) (i : Int) (v5 v6 v7 : MV), 0 ≤ i → i + m = e + 1 → Go (fun _ => 0) 2 mX10_counts b 32 [vA 109, vI e, vI (-1), vI 0, vI i, v5, v6, v7] [] (ctT σ (fun _ => 0)) (vI 0, ctT σ (fun _ => 0)) := by
    intro m
    induction m with
    | zero =>
      intro b i v5 v6 v7 h0 h1
      refine go_iload (at_of tX10_counts 1 5 rfl) rfl rfl ?_
      refine go_iload_n (at_of tX10_counts 1 6 rfl) rfl ?_
      refine go_icmp_gt (tgt := 174) (at_of tX10_counts 1 7 rfl) (by decide) (fun h35 => ?_) (fun h35 => ?_)
      rotate_left
      · exfalso; omega
      refine go_iload_n (at_of tX10_counts 5 14 rfl) rfl ?_
      first | exact go_reti (at_of tX10_counts 5 15 rfl) rfl | exact go_reti (at_of tX10_counts 5 15 rfl) (le_i (by omega)) | exact go_reti (at_of tX10_counts 5 15 rfl) (le_i (by first | exact bI_t (by omega) | exact bI_f (by omega)))
    | succ m ih =>
      intro b i v5 v6 v7 h0 h1
      refine go_iload (at_of tX10_counts 1 5 rfl) rfl rfl ?_
      refine go_iload_n (at_of tX10_counts 1 6 rfl) rfl ?_
      refine go_icmp_gt (tgt := 174) (at_of tX10_counts 1 7 rfl) (by decide) (fun h35 => ?_) (fun h35 => ?_)
      · exfalso; omega
      refine go_iload_n (at_of tX10_counts 1 8 rfl) rfl ?_
      refine go_iconst (at_of tX10_counts 1 9 rfl) (by unfold in32; omega) ?_
      refine go_icmp_eq (tgt := 174) (at_of tX10_counts 1 10 rfl) (by decide) (fun h40 => ?_) (fun h40 => ?_)
      rotate_left
      · exfalso; omega
      refine go_iload_n (at_of tX10_counts 5 14 rfl) rfl ?_
      first | exact go_reti (at_of tX10_counts 5 15 rfl) rfl | exact go_reti (at_of tX10_counts 5 15 rfl) (le_i (by omega)) | exact go_reti (at_of tX10_counts 5 15 rfl) (le_i (by first | exact bI_t (by omega) | exact bI_f (by omega)))
  refine con_of_go mfX10_counts.1 trivial (Nat.le_of_ble_eq_true rfl) rfl (by decide) ?_
  show Go _ _ _ _ 0 [vA _, vI _, vT 9 0, vT 9 0, vT 9 0, vT 9 0, vT 9 0, vT 9 0] [] _ _
  refine go_iconst (at_of tX10_counts 0 0 rfl) (by unfold in32; omega) ?_
  refine go_istore_n (at_of tX10_counts 0 1 rfl) rfl rfl ?_
  refine go_iload_n (at_of tX10_counts 0 2 rfl) rfl ?_
  refine go_iconst (at_of tX10_counts 0 3 rfl) (by unfold in32; omega) ?_
  refine go_icmp_ge (tgt := 20) (at_of tX10_counts 0 4 rfl) (by decide) (fun h4 => ?_) (fun h4 => ?_)
  · exfalso; omega
  refine go_aload_n (at_of tX10_counts 0 5 rfl) rfl ?_
  refine go_getr (q := 123) fl_X10_65 rfl G_109 (by first | exact (hS _ _ rfl).trans rfl | exact (hS1 _ _ rfl).trans rfl | exact (hS2 _ _ rfl).trans rfl | exact (hS3 _ _ rfl).trans rfl | exact (hS4 _ _ rfl).trans rfl) (at_of tX10_counts 0 6 rfl) ?_
  refine go_iload_n (at_of tX10_counts 0 7 rfl) rfl ?_
  refine go_iconst (at_of tX10_counts 0 8 rfl) (by unfold in32; omega) ?_
  refine go_iast1 G_123 (by omega) (by omega) (at_of tX10_counts 0 9 rfl) ?_
  refine go_iinc (at_of tX10_counts 0 10 rfl) rfl (by unfold in32; omega) rfl rfl ?_
  refine go_goto (tgt := 2) (at_of tX10_counts 0 11 rfl) (by decide) ?_
  refine go_iload_n (at_of tX10_counts 0 2 rfl) rfl ?_
  refine go_iconst (at_of tX10_counts 0 3 rfl) (by unfold in32; omega) ?_
  refine go_icmp_ge (tgt := 20) (at_of tX10_counts 0 4 rfl) (by decide) (fun h4 => ?_) (fun h4 => ?_)
  · exfalso; omega
  refine go_aload_n (at_of tX10_counts 0 5 rfl) rfl ?_
  refine go_getr (q := 123) fl_X10_65 rfl G_109 (by first | exact (hS _ _ rfl).trans rfl | exact (hS1 _ _ rfl).trans rfl | exact (hS2 _ _ rfl).trans rfl | exact (hS3 _ _ rfl).trans rfl | exact (hS4 _ _ rfl).trans rfl) (at_of tX10_counts 0 6 rfl) ?_
  refine go_iload_n (at_of tX10_counts 0 7 rfl) rfl ?_
  refine go_iconst (at_of tX10_counts 0 8 rfl) (by unfold in32; omega) ?_
  refine go_iast1 G_123 (by omega) (by omega) (at_of tX10_counts 0 9 rfl) ?_
  refine go_iinc (at_of tX10_counts 0 10 rfl) rfl (by unfold in32; omega) rfl rfl ?_
  refine go_goto (tgt := 2) (at_of tX10_counts 0 11 rfl) (by decide) ?_
  refine go_iload_n (at_of tX10_counts 0 2 rfl) rfl ?_
  refine go_iconst (at_of tX10_counts 0 3 rfl) (by unfold in32; omega) ?_
  refine go_icmp_ge (tgt := 20) (at_of tX10_counts 0 4 rfl) (by decide) (fun h4 => ?_) (fun h4 => ?_)
  · exfalso; omega
  refine go_aload_n (at_of tX10_counts 0 5 rfl) rfl ?_
  refine go_getr (q := 123) fl_X10_65 rfl G_109 (by first | exact (hS _ _ rfl).trans rfl | exact (hS1 _ _ rfl).trans rfl | exact (hS2 _ _ rfl).trans rfl | exact (hS3 _ _ rfl).trans rfl | exact (hS4 _ _ rfl).trans rfl) (at_of tX10_counts 0 6 rfl) ?_
  refine go_iload_n (at_of tX10_counts 0 7 rfl) rfl ?_
  refine go_iconst (at_of tX10_counts 0 8 rfl) (by unfold in32; omega) ?_
  refine go_iast1 G_123 (by omega) (by omega) (at_of tX10_counts 0 9 rfl) ?_
  refine go_iinc (at_of tX10_counts 0 10 rfl) rfl (by unfold in32; omega) rfl rfl ?_
  refine go_goto (tgt := 2) (at_of tX10_counts 0 11 rfl) (by decide) ?_
  refine go_iload_n (at_of tX10_counts 0 2 rfl) rfl ?_
  refine go_iconst (at_of tX10_counts 0 3 rfl) (by unfold in32; omega) ?_
  refine go_icmp_ge (tgt := 20) (at_of tX10_counts 0 4 rfl) (by decide) (fun h4 => ?_) (fun h4 => ?_)
  rotate_left
  · exfalso; omega
  refine go_aload_n (at_of tX10_counts 0 12 rfl) rfl ?_
  refine go_iload_n (at_of tX10_counts 0 13 rfl) rfl ?_
  refine go_iconst (at_of tX10_counts 0 14 rfl) (by unfold in32; omega) ?_
  rw [ctT_zero]
  refine go_cV (m_at4 (by exact hS) (by rw [cN_ctT]; exact hN) (by omega) h0) lk_X10_106 rfl G_109 (at_of tX10_counts 0 15 rfl) rfl (by decide) rfl (Nat.le_of_ble_eq_true rfl) rfl (by first | decide | exact ⟨Nat.zero_le _, Nat.zero_le _⟩) ?_
  rw [h7]
  refine go_istore_n (at_of tX10_counts 1 0 rfl) rfl rfl ?_
  refine go_iconst (at_of tX10_counts 1 1 rfl) (by unfold in32; omega) ?_
  refine go_istore_n (at_of tX10_counts 1 2 rfl) rfl rfl ?_
  refine go_iconst (at_of tX10_counts 1 3 rfl) (by unfold in32; omega) ?_
  refine go_istore (at_of tX10_counts 1 4 rfl) rfl rfl ?_
  exact key (e + 1).toNat _ 0 _ _ _ (by omega) (by omega)
theorem m_numberOf_no (hS : Str σ.2.1) (hN : RepNr (cN σ) R) (hL : LastE R) (hSg : SgW R) (hE : EndW R) {p : Int} (h : ¬ (0 ≤ p ∧ p ≤ endsA R.1 R.2.1 R.2.1)) : Con 4 mX10_numberOf 0 0 [vA 109, vI p] σ (vI 0, P1 σ 109 0 1) := by
  obtain ⟨e1, e2, e3, e4⟩ := id hL
  refine con_of_go mfX10_numberOf.1 trivial (Nat.le_of_ble_eq_true rfl) rfl (by decide) ?_
  show Go _ _ _ _ 0 [vA _, vI _] [] _ _
  refine go_aload_n (at_of tX10_numberOf 0 0 rfl) rfl ?_
  refine go_aload_n (at_of tX10_numberOf 0 1 rfl) rfl ?_
  refine go_iload_n (at_of tX10_numberOf 0 2 rfl) rfl ?_
  refine go_cV (m_isParagraph hS hN hL hSg) lk_X10_203 rfl G_109 (at_of tX10_numberOf 0 3 rfl) rfl (by decide) rfl (Nat.le_of_ble_eq_true rfl) rfl (by first | decide | exact ⟨Nat.zero_le _, Nat.zero_le _⟩) ?_
  refine go_if_eq (tgt := 13) (at_of tX10_numberOf 0 4 rfl) (by decide) (fun h6 => ?_) (fun h6 => ?_)
  rotate_left
  · exfalso; exact h (bI_1.mp h6)
  refine go_iconst (at_of tX10_numberOf 0 7 rfl) (by unfold in32; omega) ?_
  refine go_cV (m_goesOn) lk_X10_141 rfl G_109 (at_of tX10_numberOf 0 8 rfl) rfl (by decide) rfl (Nat.le_of_ble_eq_true rfl) rfl (by first | decide | exact ⟨Nat.zero_le _, Nat.zero_le _⟩) ?_
  refine go_if_eq (tgt := 32) (at_of tX10_numberOf 0 9 rfl) (by decide) (fun h17 => ?_) (fun h17 => ?_)
  rotate_left
  · exfalso; exact h17 (bI_f (by decide))
  refine go_iconst (at_of tX10_numberOf 1 0 rfl) (by unfold in32; omega) ?_
  first | exact go_reti (at_of tX10_numberOf 1 1 rfl) rfl | exact go_reti (at_of tX10_numberOf 1 1 rfl) (le_i (by omega)) | exact go_reti (at_of tX10_numberOf 1 1 rfl) (le_i (by first | exact bI_t (by omega) | exact bI_f (by omega)))
theorem m_numberOf_0 (hS : Str σ.2.1) (hN : RepNr (cN σ) R) (hL : LastE R) (hSg : SgW R) (hE : EndW R) {p : Int} (h : 0 ≤ p ∧ p ≤ endsA R.1 R.2.1 R.2.1) (h7 : R.1 7 (ixEnd R.1 R.2.1 p) = -1) : Con 4 mX10_numberOf 0 0 [vA 109, vI p] σ (vI 0, ctT (P1 σ 109 0 0) (fun _ => 0)) := by
  obtain ⟨e1, e2, e3, e4⟩ := id hL
  obtain ⟨u1, u2, u3, h47⟩ := ixEnd_end e1 ((ixEnd_iff hL).mpr h)
  have hS1 : Str (P1 σ 109 0 0).2.1 := hS
  have hN1 : RepNr (cN (P1 σ 109 0 0)) R := by rw [cN_P1]; exact hN
  have me := m_endOfParagraph hS1 hN1 hL hSg h.1 h.2
  refine con_of_go mfX10_numberOf.1 trivial (Nat.le_of_ble_eq_true rfl) rfl (by decide) ?_
  show Go _ _ _ _ 0 [vA _, vI _] [] _ _
  refine go_aload_n (at_of tX10_numberOf 0 0 rfl) rfl ?_
  refine go_aload_n (at_of tX10_numberOf 0 1 rfl) rfl ?_
  refine go_iload_n (at_of tX10_numberOf 0 2 rfl) rfl ?_
  refine go_cV (m_isParagraph hS hN hL hSg) lk_X10_203 rfl G_109 (at_of tX10_numberOf 0 3 rfl) rfl (by decide) rfl (Nat.le_of_ble_eq_true rfl) rfl (by first | decide | exact ⟨Nat.zero_le _, Nat.zero_le _⟩) ?_
  refine go_if_eq (tgt := 13) (at_of tX10_numberOf 0 4 rfl) (by decide) (fun h6 => ?_) (fun h6 => ?_)
  · exfalso; exact bI_0.mp h6 h
  refine go_iconst (at_of tX10_numberOf 0 5 rfl) (by unfold in32; omega) ?_
  refine go_goto (tgt := 14) (at_of tX10_numberOf 0 6 rfl) (by decide) ?_
  refine go_cV (m_goesOn) lk_X10_141 rfl G_109 (at_of tX10_numberOf 0 8 rfl) rfl (by decide) rfl (Nat.le_of_ble_eq_true rfl) rfl (by first | decide | exact ⟨Nat.zero_le _, Nat.zero_le _⟩) ?_
  refine go_if_eq (tgt := 32) (at_of tX10_numberOf 0 9 rfl) (by decide) (fun h17 => ?_) (fun h17 => ?_)
  · exfalso; exact absurd h17 (by rw [bI_t rfl]; decide)
  refine go_aload_n (at_of tX10_numberOf 0 10 rfl) rfl ?_
  refine go_aload_n (at_of tX10_numberOf 0 11 rfl) rfl ?_
  refine go_iload_n (at_of tX10_numberOf 0 12 rfl) rfl ?_
  refine go_cV (me) lk_X10_197 rfl G_109 (at_of tX10_numberOf 0 13 rfl) rfl (by decide) rfl (Nat.le_of_ble_eq_true rfl) rfl (by first | decide | exact ⟨Nat.zero_le _, Nat.zero_le _⟩) ?_
  refine go_cV (m_counts_0 hS1 hN1 hL hSg hE ⟨u1, u2⟩ h47 h7) lk_X10_238 rfl G_109 (at_of tX10_numberOf 0 14 rfl) rfl (by decide) rfl (Nat.le_of_ble_eq_true rfl) rfl (by first | decide | exact ⟨Nat.zero_le _, Nat.zero_le _⟩) ?_
  refine go_goto (tgt := 33) (at_of tX10_numberOf 0 15 rfl) (by decide) ?_
  first | exact go_reti (at_of tX10_numberOf 1 1 rfl) rfl | exact go_reti (at_of tX10_numberOf 1 1 rfl) (le_i (by omega)) | exact go_reti (at_of tX10_numberOf 1 1 rfl) (le_i (by first | exact bI_t (by omega) | exact bI_f (by omega)))
theorem m_numberOf (hS : Str σ.2.1) (hN : RepNr (cN σ) R) (hL : LastE R) (hSg : SgW R) (hE : EndW R) {p : Int} (h : 0 ≤ p ∧ p ≤ endsA R.1 R.2.1 R.2.1) (h7 : R.1 7 (ixEnd R.1 R.2.1 p) ≠ -1) : Con 4 mX10_numberOf 0 0 [vA 109, vI p] σ (vI (ctF R (ixEnd R.1 R.2.1 p) (R.1 8 (ixEnd R.1 R.2.1 p))), ctT (P1 σ 109 0 0) (ctF R (ixEnd R.1 R.2.1 p))) := by
  obtain ⟨e1, e2, e3, e4⟩ := id hL
  obtain ⟨u1, u2, u3, h47⟩ := ixEnd_end e1 ((ixEnd_iff hL).mpr h)
  have hS1 : Str (P1 σ 109 0 0).2.1 := hS
  have hN1 : RepNr (cN (P1 σ 109 0 0)) R := by rw [cN_P1]; exact hN
  have me := m_endOfParagraph hS1 hN1 hL hSg h.1 h.2
  refine con_of_go mfX10_numberOf.1 trivial (Nat.le_of_ble_eq_true rfl) rfl (by decide) ?_
  show Go _ _ _ _ 0 [vA _, vI _] [] _ _
  refine go_aload_n (at_of tX10_numberOf 0 0 rfl) rfl ?_
  refine go_aload_n (at_of tX10_numberOf 0 1 rfl) rfl ?_
  refine go_iload_n (at_of tX10_numberOf 0 2 rfl) rfl ?_
  refine go_cV (m_isParagraph hS hN hL hSg) lk_X10_203 rfl G_109 (at_of tX10_numberOf 0 3 rfl) rfl (by decide) rfl (Nat.le_of_ble_eq_true rfl) rfl (by first | decide | exact ⟨Nat.zero_le _, Nat.zero_le _⟩) ?_
  refine go_if_eq (tgt := 13) (at_of tX10_numberOf 0 4 rfl) (by decide) (fun h6 => ?_) (fun h6 => ?_)
  · exfalso; exact bI_0.mp h6 h
  refine go_iconst (at_of tX10_numberOf 0 5 rfl) (by unfold in32; omega) ?_
  refine go_goto (tgt := 14) (at_of tX10_numberOf 0 6 rfl) (by decide) ?_
  refine go_cV (m_goesOn) lk_X10_141 rfl G_109 (at_of tX10_numberOf 0 8 rfl) rfl (by decide) rfl (Nat.le_of_ble_eq_true rfl) rfl (by first | decide | exact ⟨Nat.zero_le _, Nat.zero_le _⟩) ?_
  refine go_if_eq (tgt := 32) (at_of tX10_numberOf 0 9 rfl) (by decide) (fun h17 => ?_) (fun h17 => ?_)
  · exfalso; exact absurd h17 (by rw [bI_t rfl]; decide)
  refine go_aload_n (at_of tX10_numberOf 0 10 rfl) rfl ?_
  refine go_aload_n (at_of tX10_numberOf 0 11 rfl) rfl ?_
  refine go_iload_n (at_of tX10_numberOf 0 12 rfl) rfl ?_
  refine go_cV (me) lk_X10_197 rfl G_109 (at_of tX10_numberOf 0 13 rfl) rfl (by decide) rfl (Nat.le_of_ble_eq_true rfl) rfl (by first | decide | exact ⟨Nat.zero_le _, Nat.zero_le _⟩) ?_
  refine go_cV (m_counts hS1 hN1 hL hSg hE ⟨u1, u2⟩ u3 h47 h7) lk_X10_238 rfl G_109 (at_of tX10_numberOf 0 14 rfl) rfl (by decide) rfl (Nat.le_of_ble_eq_true rfl) rfl (by first | decide | exact ⟨Nat.zero_le _, Nat.zero_le _⟩) ?_
  refine go_goto (tgt := 33) (at_of tX10_numberOf 0 15 rfl) (by decide) ?_
  first | exact go_reti (at_of tX10_numberOf 1 1 rfl) rfl | exact go_reti (at_of tX10_numberOf 1 1 rfl) (le_i (by omega)) | exact go_reti (at_of tX10_numberOf 1 1 rfl) (le_i (by first | exact bI_t (by omega) | exact bI_f (by omega)))
def pmS (σ : St) (c : Int) : St := P1 (M1 σ 122 (σ.1 109 21) c) 109 21 (σ.1 109 21 + 1)
def pmL (σ : St) (l : List Int) : St := l.foldl pmS σ
theorem pmS_n {c : Int} : (pmS σ c).1 109 21 = σ.1 109 21 + 1 := P1_eq
theorem pmL_n : ∀ {l : List Int} {σ : St}, (pmL σ l).1 109 21 = σ.1 109 21 + l.length := by
  intro l
  induction l with
  | nil => intro σ; show σ.1 109 21 = σ.1 109 21 + ((0 : Nat) : Int); omega
  | cons c l ih => intro σ; show (pmL (pmS σ c) l).1 109 21 = _; rw [ih, pmS_n, List.length_cons]; omega
theorem pmL_app {l l' : List Int} : pmL σ (l ++ l') = pmL (pmL σ l) l' := List.foldl_append
theorem pmL_ne : ∀ {l : List Int} {σ : St} {a j : Nat}, a ≠ 109 → a ≠ 122 → (pmL σ l).1 a j = σ.1 a j := by
  intro l
  induction l with
  | nil => intro σ a j _ _; rfl
  | cons c l ih => intro σ a j h1 h2; show (pmL (pmS σ c) l).1 a j = _; rw [ih h1 h2]; unfold pmS; rw [P1_ne h1, M1_ne h2]
theorem pmL_2 : ∀ {l : List Int} {σ : St}, (pmL σ l).2 = σ.2 := by
  intro l
  induction l with
  | nil => intro σ; rfl
  | cons c l ih => intro σ; show (pmL (pmS σ c) l).2 = _; rw [ih]; rfl
theorem pmL_lo : ∀ {l : List Int} {σ : St} {j : Nat}, 0 ≤ σ.1 109 21 → (j : Int) < σ.1 109 21 → (pmL σ l).1 122 j = σ.1 122 j := by
  intro l
  induction l with
  | nil => intro σ j _ _; rfl
  | cons c l ih =>
    intro σ j h0 h1
    show (pmL (pmS σ c) l).1 122 j = _
    rw [ih (by rw [pmS_n]; omega) (by rw [pmS_n]; omega)]
    unfold pmS
    rw [P1_ne (by omega), M1_nj (by omega)]
theorem pmL_at : ∀ {l : List Int} {σ : St} {j : Nat}, 0 ≤ σ.1 109 21 → σ.1 109 21 ≤ j → (j : Int) < σ.1 109 21 + l.length → (pmL σ l).1 122 j = l.getD (j - (σ.1 109 21).toNat) 0 := by
  intro l
  induction l with
  | nil => intro σ j _ h1 h2; have h2 : (j : Int) < σ.1 109 21 + ((0 : Nat) : Int) := h2; omega
  | cons c l ih =>
    intro σ j h0 h1 h2
    rw [List.length_cons] at h2
    show (pmL (pmS σ c) l).1 122 j = _
    by_cases e : (j : Int) = σ.1 109 21
    · rw [pmL_lo (by rw [pmS_n]; omega) (by rw [pmS_n]; omega), show j - (σ.1 109 21).toNat = 0 by omega]
      unfold pmS
      rw [P1_ne (by omega), M1_eq (by omega)]
      rfl
    · rw [ih (by rw [pmS_n]; omega) (by rw [pmS_n]; omega) (by rw [pmS_n]; omega), pmS_n, show j - (σ.1 109 21).toNat = (j - (σ.1 109 21 + 1).toNat) + 1 by omega]
      rfl

theorem m_puts (hS : Str σ.2.1) (h : 0 ≤ σ.1 109 21 ∧ σ.1 109 21 < 128) {c : Int} (hc : 0 ≤ c ∧ c < 65536) : Con 0 mX10_puts 0 0 [vA 109, vI c] σ (vT 8 0, pmS σ c) := by
  refine con_of_go mfX10_puts.1 trivial (Nat.le_of_ble_eq_true rfl) rfl (by decide) ?_
  show Go _ _ _ _ 0 [vA _, vI _] [] _ _
  refine go_aload_n (at_of tX10_puts 0 0 rfl) rfl ?_
  refine go_getr (q := 122) fl_X10_62 rfl G_109 (by first | exact (hS _ _ rfl).trans rfl | exact (hS1 _ _ rfl).trans rfl | exact (hS2 _ _ rfl).trans rfl | exact (hS3 _ _ rfl).trans rfl | exact (hS4 _ _ rfl).trans rfl) (at_of tX10_puts 0 1 rfl) ?_
  refine go_aload_n (at_of tX10_puts 0 2 rfl) rfl ?_
  refine go_getf fl_X10_241 rfl G_109 (at_of tX10_puts 0 3 rfl) ?_
  refine go_iload_n (at_of tX10_puts 0 4 rfl) rfl ?_
  refine go_cast1 G_122 (by omega) (by omega) (by omega) (at_of tX10_puts 0 5 rfl) ?_
  refine go_aload_n (at_of tX10_puts 0 6 rfl) rfl ?_
  refine go_dup (at_of tX10_puts 0 7 rfl) rfl ?_
  refine go_getf fl_X10_241 rfl G_109 (at_of tX10_puts 0 8 rfl) ?_
  rw [M1_ne (by omega)]
  refine go_iconst (at_of tX10_puts 0 9 rfl) (by unfold in32; omega) ?_
  refine go_iadd (at_of tX10_puts 0 10 rfl) (by unfold in32; omega) ?_
  refine go_put1 fp_X10_241 rfl (Or.inl rfl) G_109 (Or.inl rfl) (at_of tX10_puts 0 11 rfl) ?_
  exact go_retv (at_of tX10_puts 0 12 rfl) rfl
def dgR : Nat → Int → List Int
  | 0, n => [(48 + n % 10) % 65536]
  | m + 1, n => if n ≤ 9 then [(48 + n % 10) % 65536] else dgR m (n / 10) ++ [(48 + n % 10) % 65536]
theorem dgR_len : ∀ (m : Nat) (n : Int), (dgR m n).length ≤ m + 1 := by
  intro m
  induction m with
  | zero => intro n; exact Nat.le_refl _
  | succ m ih =>
    intro n
    rw [dgR]
    split
    · show 1 ≤ _; omega
    · rw [List.length_append]
      have := ih (n / 10)
      show _ + 1 ≤ _
      omega
theorem dgR_eq {n : Int} (h : 0 ≤ n ∧ n ≤ 400) : dgR 2 n = digC n := by
  have key : ∀ m : Fin 401, dgR 2 (m.val : Int) = digC (m.val : Int) := by decide +kernel
  have := key ⟨n.toNat, by omega⟩
  have e : ((n.toNat : Nat) : Int) = n := by omega
  rw [show (((⟨n.toNat, by omega⟩ : Fin 401).val : Nat) : Int) = n from e] at this
  exact this
theorem m_dig0 (hS : Str σ.2.1) {n : Int} (hn : 0 ≤ n ∧ n ≤ 9) (h : 0 ≤ σ.1 109 21 ∧ σ.1 109 21 + 1 ≤ 128) : Con 1 mX10_putsDigits 0 0 [vA 109, vI n] σ (vT 8 0, pmL σ (dgR 0 n)) := by
  refine con_of_go mfX10_putsDigits.1 trivial (Nat.le_of_ble_eq_true rfl) rfl (by decide) ?_
  show Go _ _ _ _ 0 [vA _, vI _] [] _ _
  refine go_iload_n (at_of tX10_putsDigits 0 0 rfl) rfl ?_
  refine go_bipush (at_of tX10_putsDigits 0 1 rfl) (by decide) ?_
  refine go_icmp_le (tgt := 14) (at_of tX10_putsDigits 0 2 rfl) (by decide) (fun h3 => ?_) (fun h3 => ?_)
  rotate_left
  · exfalso; omega
  refine go_aload_n (at_of tX10_putsDigits 0 8 rfl) rfl ?_
  refine go_bipush (at_of tX10_putsDigits 0 9 rfl) (by decide) ?_
  refine go_iload_n (at_of tX10_putsDigits 0 10 rfl) rfl ?_
  refine go_bipush (at_of tX10_putsDigits 0 11 rfl) (by decide) ?_
  refine go_irem (at_of tX10_putsDigits 0 12 rfl) (by omega) (by omega) ?_
  refine go_iadd (at_of tX10_putsDigits 0 13 rfl) (by unfold in32; omega) ?_
  refine go_i2c (at_of tX10_putsDigits 0 14 rfl) ?_
  refine go_cV (m_puts hS (by omega) (by omega)) lk_X10_247 rfl G_109 (at_of tX10_putsDigits 0 15 rfl) rfl (by decide) rfl (Nat.le_of_ble_eq_true rfl) rfl (by first | decide | exact ⟨Nat.zero_le _, Nat.zero_le _⟩) ?_
  exact go_retv (at_of tX10_putsDigits 1 0 rfl) rfl
theorem m_dig1 (hS : Str σ.2.1) {n : Int} (hn : 0 ≤ n ∧ n ≤ 99) (h : 0 ≤ σ.1 109 21 ∧ σ.1 109 21 + 2 ≤ 128) : Con 2 mX10_putsDigits 0 0 [vA 109, vI n] σ (vT 8 0, pmL σ (dgR 1 n)) := by
  have n2 := @pmL_n (dgR 0 (n / 10)) σ
  have n3 := dgR_len 0 (n / 10)
  have S2 : Str (pmL σ (dgR 0 (n / 10))).2.1 := by rw [pmL_2]; exact hS
  rw [dgR]
  by_cases h9 : n ≤ 9
  · rw [if_pos h9]
    refine con_of_go mfX10_putsDigits.1 trivial (Nat.le_of_ble_eq_true rfl) rfl (by decide) ?_
    show Go _ _ _ _ 0 [vA _, vI _] [] _ _
    refine go_iload_n (at_of tX10_putsDigits 0 0 rfl) rfl ?_
    refine go_bipush (at_of tX10_putsDigits 0 1 rfl) (by decide) ?_
    refine go_icmp_le (tgt := 14) (at_of tX10_putsDigits 0 2 rfl) (by decide) (fun h3 => ?_) (fun h3 => ?_)
    rotate_left
    · exfalso; omega
    refine go_aload_n (at_of tX10_putsDigits 0 8 rfl) rfl ?_
    refine go_bipush (at_of tX10_putsDigits 0 9 rfl) (by decide) ?_
    refine go_iload_n (at_of tX10_putsDigits 0 10 rfl) rfl ?_
    refine go_bipush (at_of tX10_putsDigits 0 11 rfl) (by decide) ?_
    refine go_irem (at_of tX10_putsDigits 0 12 rfl) (by omega) (by omega) ?_
    refine go_iadd (at_of tX10_putsDigits 0 13 rfl) (by unfold in32; omega) ?_
    refine go_i2c (at_of tX10_putsDigits 0 14 rfl) ?_
    refine go_cV (m_puts hS (by omega) (by omega)) lk_X10_247 rfl G_109 (at_of tX10_putsDigits 0 15 rfl) rfl (by decide) rfl (Nat.le_of_ble_eq_true rfl) rfl (by first | decide | exact ⟨Nat.zero_le _, Nat.zero_le _⟩) ?_
    exact go_retv (at_of tX10_putsDigits 1 0 rfl) rfl
  · rw [if_neg h9, pmL_app]
    refine con_of_go mfX10_putsDigits.1 trivial (Nat.le_of_ble_eq_true rfl) rfl (by decide) ?_
    show Go _ _ _ _ 0 [vA _, vI _] [] _ _
    refine go_iload_n (at_of tX10_putsDigits 0 0 rfl) rfl ?_
    refine go_bipush (at_of tX10_putsDigits 0 1 rfl) (by decide) ?_
    refine go_icmp_le (tgt := 14) (at_of tX10_putsDigits 0 2 rfl) (by decide) (fun h3 => ?_) (fun h3 => ?_)
    · exfalso; omega
    refine go_aload_n (at_of tX10_putsDigits 0 3 rfl) rfl ?_
    refine go_iload_n (at_of tX10_putsDigits 0 4 rfl) rfl ?_
    refine go_bipush (at_of tX10_putsDigits 0 5 rfl) (by decide) ?_
    refine go_idiv (at_of tX10_putsDigits 0 6 rfl) (by omega) (by omega) ?_
    refine go_cV (m_dig0 hS (by omega) (by omega)) lk_X10_244 rfl G_109 (at_of tX10_putsDigits 0 7 rfl) rfl (by decide) rfl (Nat.le_of_ble_eq_true rfl) rfl (by first | decide | exact ⟨Nat.zero_le _, Nat.zero_le _⟩) ?_
    refine go_aload_n (at_of tX10_putsDigits 0 8 rfl) rfl ?_
    refine go_bipush (at_of tX10_putsDigits 0 9 rfl) (by decide) ?_
    refine go_iload_n (at_of tX10_putsDigits 0 10 rfl) rfl ?_
    refine go_bipush (at_of tX10_putsDigits 0 11 rfl) (by decide) ?_
    refine go_irem (at_of tX10_putsDigits 0 12 rfl) (by omega) (by omega) ?_
    refine go_iadd (at_of tX10_putsDigits 0 13 rfl) (by unfold in32; omega) ?_
    refine go_i2c (at_of tX10_putsDigits 0 14 rfl) ?_
    refine go_cV (m_puts S2 (by omega) (by omega)) lk_X10_247 rfl G_109 (at_of tX10_putsDigits 0 15 rfl) rfl (by decide) rfl (Nat.le_of_ble_eq_true rfl) rfl (by first | decide | exact ⟨Nat.zero_le _, Nat.zero_le _⟩) ?_
    exact go_retv (at_of tX10_putsDigits 1 0 rfl) rfl
theorem m_dig2 (hS : Str σ.2.1) {n : Int} (hn : 0 ≤ n ∧ n ≤ 999) (h : 0 ≤ σ.1 109 21 ∧ σ.1 109 21 + 3 ≤ 128) : Con 3 mX10_putsDigits 0 0 [vA 109, vI n] σ (vT 8 0, pmL σ (dgR 2 n)) := by
  have n2 := @pmL_n (dgR 1 (n / 10)) σ
  have n3 := dgR_len 1 (n / 10)
  have S2 : Str (pmL σ (dgR 1 (n / 10))).2.1 := by rw [pmL_2]; exact hS
  rw [dgR]
  by_cases h9 : n ≤ 9
  · rw [if_pos h9]
    refine con_of_go mfX10_putsDigits.1 trivial (Nat.le_of_ble_eq_true rfl) rfl (by decide) ?_
    show Go _ _ _ _ 0 [vA _, vI _] [] _ _
    refine go_iload_n (at_of tX10_putsDigits 0 0 rfl) rfl ?_
    refine go_bipush (at_of tX10_putsDigits 0 1 rfl) (by decide) ?_
    refine go_icmp_le (tgt := 14) (at_of tX10_putsDigits 0 2 rfl) (by decide) (fun h3 => ?_) (fun h3 => ?_)
    rotate_left
    · exfalso; omega
    refine go_aload_n (at_of tX10_putsDigits 0 8 rfl) rfl ?_
    refine go_bipush (at_of tX10_putsDigits 0 9 rfl) (by decide) ?_
    refine go_iload_n (at_of tX10_putsDigits 0 10 rfl) rfl ?_
    refine go_bipush (at_of tX10_putsDigits 0 11 rfl) (by decide) ?_
    refine go_irem (at_of tX10_putsDigits 0 12 rfl) (by omega) (by omega) ?_
    refine go_iadd (at_of tX10_putsDigits 0 13 rfl) (by unfold in32; omega) ?_
    refine go_i2c (at_of tX10_putsDigits 0 14 rfl) ?_
    refine go_cV (m_puts hS (by omega) (by omega)) lk_X10_247 rfl G_109 (at_of tX10_putsDigits 0 15 rfl) rfl (by decide) rfl (Nat.le_of_ble_eq_true rfl) rfl (by first | decide | exact ⟨Nat.zero_le _, Nat.zero_le _⟩) ?_
    exact go_retv (at_of tX10_putsDigits 1 0 rfl) rfl
  · rw [if_neg h9, pmL_app]
    refine con_of_go mfX10_putsDigits.1 trivial (Nat.le_of_ble_eq_true rfl) rfl (by decide) ?_
    show Go _ _ _ _ 0 [vA _, vI _] [] _ _
    refine go_iload_n (at_of tX10_putsDigits 0 0 rfl) rfl ?_
    refine go_bipush (at_of tX10_putsDigits 0 1 rfl) (by decide) ?_
    refine go_icmp_le (tgt := 14) (at_of tX10_putsDigits 0 2 rfl) (by decide) (fun h3 => ?_) (fun h3 => ?_)
    · exfalso; omega
    refine go_aload_n (at_of tX10_putsDigits 0 3 rfl) rfl ?_
    refine go_iload_n (at_of tX10_putsDigits 0 4 rfl) rfl ?_
    refine go_bipush (at_of tX10_putsDigits 0 5 rfl) (by decide) ?_
    refine go_idiv (at_of tX10_putsDigits 0 6 rfl) (by omega) (by omega) ?_
    refine go_cV (m_dig1 hS (by omega) (by omega)) lk_X10_244 rfl G_109 (at_of tX10_putsDigits 0 7 rfl) rfl (by decide) rfl (Nat.le_of_ble_eq_true rfl) rfl (by first | decide | exact ⟨Nat.zero_le _, Nat.zero_le _⟩) ?_
    refine go_aload_n (at_of tX10_putsDigits 0 8 rfl) rfl ?_
    refine go_bipush (at_of tX10_putsDigits 0 9 rfl) (by decide) ?_
    refine go_iload_n (at_of tX10_putsDigits 0 10 rfl) rfl ?_
    refine go_bipush (at_of tX10_putsDigits 0 11 rfl) (by decide) ?_
    refine go_irem (at_of tX10_putsDigits 0 12 rfl) (by omega) (by omega) ?_
    refine go_iadd (at_of tX10_putsDigits 0 13 rfl) (by unfold in32; omega) ?_
    refine go_i2c (at_of tX10_putsDigits 0 14 rfl) ?_
    refine go_cV (m_puts S2 (by omega) (by omega)) lk_X10_247 rfl G_109 (at_of tX10_putsDigits 0 15 rfl) rfl (by decide) rfl (Nat.le_of_ble_eq_true rfl) rfl (by first | decide | exact ⟨Nat.zero_le _, Nat.zero_le _⟩) ?_
    exact go_retv (at_of tX10_putsDigits 1 0 rfl) rfl
theorem m_putsLetters (hS : Str σ.2.1) {n : Int} (hn : 1 ≤ n ∧ n ≤ 400) (h : 0 ≤ σ.1 109 21 ∧ σ.1 109 21 + 16 ≤ 128) : Con 1 mX10_putsLetters 0 0 [vA 109, vI n] σ (vT 8 0, pmL σ (letC n)) := by
  have key : ∀ (m : Nat) (b : Nat × Nat) (i : Int) (σ : St), Str σ.2.1 → 0 ≤ i → i + m = (n - 1) / 26 + 1 → 0 ≤ σ.1 109 21 → σ.1 109 21 + m ≤ 128 → Go (fun _ => 0) 1 mX10_putsLetters b 2 [vA 109, vI n, vI i] [] σ (vT 8 0, pmL σ (List.replicate m ((97 + (n - 1) % 26) % 65536))) := by
    intro m
    induction m with
    | zero =>
      intro b i σ hS h0 h1 h2 h3
      refine go_iload_n (at_of tX10_putsLetters 0 2 rfl) rfl ?_
      refine go_iload_n (at_of tX10_putsLetters 0 3 rfl) rfl ?_
      refine go_iconst (at_of tX10_putsLetters 0 4 rfl) (by unfold in32; omega) ?_
      refine go_isub (at_of tX10_putsLetters 0 5 rfl) (by unfold in32; omega) ?_
      refine go_bipush (at_of tX10_putsLetters 0 6 rfl) (by decide) ?_
      refine go_idiv (at_of tX10_putsLetters 0 7 rfl) (by omega) (by omega) ?_
      refine go_icmp_gt (tgt := 32) (at_of tX10_putsLetters 0 8 rfl) (by decide) (fun h9 => ?_) (fun h9 => ?_)
      rotate_left
      · exfalso; omega
      exact go_retv (at_of tX10_putsLetters 1 5 rfl) rfl
    | succ m ih =>
      intro b i σ hS h0 h1 h2 h3
      rw [List.replicate_succ]
      refine go_iload_n (at_of tX10_putsLetters 0 2 rfl) rfl ?_
      refine go_iload_n (at_of tX10_putsLetters 0 3 rfl) rfl ?_
      refine go_iconst (at_of tX10_putsLetters 0 4 rfl) (by unfold in32; omega) ?_
      refine go_isub (at_of tX10_putsLetters 0 5 rfl) (by unfold in32; omega) ?_
      refine go_bipush (at_of tX10_putsLetters 0 6 rfl) (by decide) ?_
      refine go_idiv (at_of tX10_putsLetters 0 7 rfl) (by omega) (by omega) ?_
      refine go_icmp_gt (tgt := 32) (at_of tX10_putsLetters 0 8 rfl) (by decide) (fun h9 => ?_) (fun h9 => ?_)
      · exfalso; omega
      refine go_aload_n (at_of tX10_putsLetters 0 9 rfl) rfl ?_
      refine go_bipush (at_of tX10_putsLetters 0 10 rfl) (by decide) ?_
      refine go_iload_n (at_of tX10_putsLetters 0 11 rfl) rfl ?_
      refine go_iconst (at_of tX10_putsLetters 0 12 rfl) (by unfold in32; omega) ?_
      refine go_isub (at_of tX10_putsLetters 0 13 rfl) (by unfold in32; omega) ?_
      refine go_bipush (at_of tX10_putsLetters 0 14 rfl) (by decide) ?_
      refine go_irem (at_of tX10_putsLetters 0 15 rfl) (by omega) (by omega) ?_
      refine go_iadd (at_of tX10_putsLetters 1 0 rfl) (by unfold in32; omega) ?_
      refine go_i2c (at_of tX10_putsLetters 1 1 rfl) ?_
      refine go_cV (m_puts hS (by omega) (by omega)) lk_X10_247 rfl G_109 (at_of tX10_putsLetters 1 2 rfl) rfl (by decide) rfl (Nat.le_of_ble_eq_true rfl) rfl (by first | decide | exact ⟨Nat.zero_le _, Nat.zero_le _⟩) ?_
      refine go_iinc (at_of tX10_putsLetters 1 3 rfl) rfl (by unfold in32; omega) rfl rfl ?_
      refine go_goto (tgt := 2) (at_of tX10_putsLetters 1 4 rfl) (by decide) ?_
      exact ih _ _ (pmS σ _) hS (by omega) (by omega) (by rw [pmS_n]; omega) (by rw [pmS_n]; omega)
  refine con_of_go mfX10_putsLetters.1 trivial (Nat.le_of_ble_eq_true rfl) rfl (by decide) ?_
  show Go _ _ _ _ 0 [vA _, vI _, vT 9 0] [] _ _
  refine go_iconst (at_of tX10_putsLetters 0 0 rfl) (by unfold in32; omega) ?_
  refine go_istore_n (at_of tX10_putsLetters 0 1 rfl) rfl rfl ?_
  exact key ((n - 1) / 26 + 1).toNat _ 0 σ hS (by omega) (by omega) (by omega) (by omega)
/-- the signs that come next, and what is left then -/
def roN (z : Int) : Int × Int := if 100 ≤ z then (99, z - 100) else if 90 ≤ z then (120, z + 10) else if 50 ≤ z then (108, z - 50) else if 40 ≤ z then (120, z + 10) else if 10 ≤ z then (120, z - 10) else if z = 9 then (105, 10) else if 5 ≤ z then (118, z - 5) else if z = 4 then (105, 5) else (105, z - 1)
def roR : Nat → Int → Option (List Int)
  | 0, z => if z ≤ 0 then some [] else none
  | m + 1, z => if z ≤ 0 then some [] else (roR m (roN z).2).map ((roN z).1 :: ·)
theorem roR_eq {n : Int} (h : 1 ≤ n ∧ n ≤ 399) : roR 16 n = some (romC n) := by
  have key : ∀ m : Fin 400, m.val = 0 ∨ roR 16 (m.val : Int) = some (romC (m.val : Int)) := by decide +kernel
  have := key ⟨n.toNat, by omega⟩
  have e : ((n.toNat : Nat) : Int) = n := by omega
  rw [show (((⟨n.toNat, by omega⟩ : Fin 400).val : Nat) : Int) = n from e] at this
  exact this.resolve_left (fun q => by have q : n.toNat = 0 := q; omega)
theorem m_putsRoman (hS : Str σ.2.1) {n : Int} (hn : 1 ≤ n ∧ n ≤ 399) (h : 0 ≤ σ.1 109 21 ∧ σ.1 109 21 + 16 ≤ 128) : Con 1 mX10_putsRoman 0 0 [vA 109, vI n] σ (vT 8 0, pmL σ (romC n)) := by
  have key : ∀ (m : Nat) (b : Nat × Nat) (z : Int) (l : List Int) (σ : St), Str σ.2.1 → 0 ≤ σ.1 109 21 → σ.1 109 21 + m ≤ 128 → z ≤ 1000 → roR m z = some l → Go (fun _ => 0) 1 mX10_putsRoman b 2 [vA 109, vI n, vI z] [] σ (vT 8 0, pmL σ l) := by
    intro m
    induction m with
    | zero =>
      intro b z l σ hS h2 h3 h4 hl
      rw [roR] at hl
      by_cases hz : z ≤ 0
      · rw [if_pos hz] at hl
        obtain rfl : [] = l := Option.some.inj hl
        refine go_iload_n (at_of tX10_putsRoman 0 2 rfl) rfl ?_
        refine go_if_le (tgt := 159) (at_of tX10_putsRoman 0 3 rfl) (by decide) (fun h3 => ?_) (fun h3 => ?_)
        rotate_left
        · exfalso; omega
        exact go_retv (at_of tX10_putsRoman 4 11 rfl) rfl
      · rw [if_neg hz] at hl
        cases hl
    | succ m ih =>
      intro b z l σ hS h2 h3 h4 hl
      rw [roR] at hl
      by_cases hz : z ≤ 0
      · rw [if_pos hz] at hl
        obtain rfl : [] = l := Option.some.inj hl
        refine go_iload_n (at_of tX10_putsRoman 0 2 rfl) rfl ?_
        refine go_if_le (tgt := 159) (at_of tX10_putsRoman 0 3 rfl) (by decide) (fun h3 => ?_) (fun h3 => ?_)
        rotate_left
        · exfalso; omega
        exact go_retv (at_of tX10_putsRoman 4 11 rfl) rfl
      · rw [if_neg hz] at hl
        by_cases c0 : 100 ≤ z
        · skip
          have hr : roN z = (99, z - 100) := by unfold roN; rw [if_pos c0]
          rw [hr] at hl
          obtain ⟨l', hl', rfl⟩ := Option.map_eq_some_iff.mp hl
          refine go_iload_n (at_of tX10_putsRoman 0 2 rfl) rfl ?_
          refine go_if_le (tgt := 159) (at_of tX10_putsRoman 0 3 rfl) (by decide) (fun h3 => ?_) (fun h3 => ?_)
          · exfalso; omega
          refine go_iload_n (at_of tX10_putsRoman 0 4 rfl) rfl ?_
          refine go_bipush (at_of tX10_putsRoman 0 5 rfl) (by decide) ?_
          refine go_icmp_lt (tgt := 24) (at_of tX10_putsRoman 0 6 rfl) (by decide) (fun h9 => ?_) (fun h9 => ?_)
          · exfalso; omega
          refine go_aload_n (at_of tX10_putsRoman 0 7 rfl) rfl ?_
          refine go_bipush (at_of tX10_putsRoman 0 8 rfl) (by decide) ?_
          refine go_cV (m_puts hS (by omega) (by omega)) lk_X10_247 rfl G_109 (at_of tX10_putsRoman 0 9 rfl) rfl (by decide) rfl (Nat.le_of_ble_eq_true rfl) rfl (by first | decide | exact ⟨Nat.zero_le _, Nat.zero_le _⟩) ?_
          refine go_iinc (at_of tX10_putsRoman 0 10 rfl) rfl (by unfold in32; omega) rfl rfl ?_
          refine go_goto (tgt := 2) (at_of tX10_putsRoman 0 11 rfl) (by decide) ?_
          rw [show z + (-100) = z - 100 by omega]
          exact ih _ _ l' (pmS σ _) hS (by rw [pmS_n]; omega) (by rw [pmS_n]; omega) (by omega) hl'
        · skip
          by_cases c1 : 90 ≤ z
          · skip
            have hr : roN z = (120, z + 10) := by unfold roN; rw [if_neg c0]; rw [if_pos c1]
            rw [hr] at hl
            obtain ⟨l', hl', rfl⟩ := Option.map_eq_some_iff.mp hl
            refine go_iload_n (at_of tX10_putsRoman 0 2 rfl) rfl ?_
            refine go_if_le (tgt := 159) (at_of tX10_putsRoman 0 3 rfl) (by decide) (fun h3 => ?_) (fun h3 => ?_)
            · exfalso; omega
            refine go_iload_n (at_of tX10_putsRoman 0 4 rfl) rfl ?_
            refine go_bipush (at_of tX10_putsRoman 0 5 rfl) (by decide) ?_
            refine go_icmp_lt (tgt := 24) (at_of tX10_putsRoman 0 6 rfl) (by decide) (fun h9 => ?_) (fun h9 => ?_)
            rotate_left
            · exfalso; omega
            refine go_iload_n (at_of tX10_putsRoman 0 12 rfl) rfl ?_
            refine go_bipush (at_of tX10_putsRoman 0 13 rfl) (by decide) ?_
            refine go_icmp_lt (tgt := 42) (at_of tX10_putsRoman 0 14 rfl) (by decide) (fun h27 => ?_) (fun h27 => ?_)
            · exfalso; omega
            refine go_aload_n (at_of tX10_putsRoman 0 15 rfl) rfl ?_
            refine go_bipush (at_of tX10_putsRoman 1 0 rfl) (by decide) ?_
            refine go_cV (m_puts hS (by omega) (by omega)) lk_X10_247 rfl G_109 (at_of tX10_putsRoman 1 1 rfl) rfl (by decide) rfl (Nat.le_of_ble_eq_true rfl) rfl (by first | decide | exact ⟨Nat.zero_le _, Nat.zero_le _⟩) ?_
            refine go_iinc (at_of tX10_putsRoman 1 2 rfl) rfl (by unfold in32; omega) rfl rfl ?_
            refine go_goto (tgt := 2) (at_of tX10_putsRoman 1 3 rfl) (by decide) ?_
            exact ih _ _ l' (pmS σ _) hS (by rw [pmS_n]; omega) (by rw [pmS_n]; omega) (by omega) hl'
          · skip
            by_cases c2 : 50 ≤ z
            · skip
              have hr : roN z = (108, z - 50) := by unfold roN; rw [if_neg c0]; rw [if_neg c1]; rw [if_pos c2]
              rw [hr] at hl
              obtain ⟨l', hl', rfl⟩ := Option.map_eq_some_iff.mp hl
              refine go_iload_n (at_of tX10_putsRoman 0 2 rfl) rfl ?_
              refine go_if_le (tgt := 159) (at_of tX10_putsRoman 0 3 rfl) (by decide) (fun h3 => ?_) (fun h3 => ?_)
              · exfalso; omega
              refine go_iload_n (at_of tX10_putsRoman 0 4 rfl) rfl ?_
              refine go_bipush (at_of tX10_putsRoman 0 5 rfl) (by decide) ?_
              refine go_icmp_lt (tgt := 24) (at_of tX10_putsRoman 0 6 rfl) (by decide) (fun h9 => ?_) (fun h9 => ?_)
              rotate_left
              · exfalso; omega
              refine go_iload_n (at_of tX10_putsRoman 0 12 rfl) rfl ?_
              refine go_bipush (at_of tX10_putsRoman 0 13 rfl) (by decide) ?_
              refine go_icmp_lt (tgt := 42) (at_of tX10_putsRoman 0 14 rfl) (by decide) (fun h27 => ?_) (fun h27 => ?_)
              rotate_left
              · exfalso; omega
              refine go_iload_n (at_of tX10_putsRoman 1 4 rfl) rfl ?_
              refine go_bipush (at_of tX10_putsRoman 1 5 rfl) (by decide) ?_
              refine go_icmp_lt (tgt := 60) (at_of tX10_putsRoman 1 6 rfl) (by decide) (fun h45 => ?_) (fun h45 => ?_)
              · exfalso; omega
              refine go_aload_n (at_of tX10_putsRoman 1 7 rfl) rfl ?_
              refine go_bipush (at_of tX10_putsRoman 1 8 rfl) (by decide) ?_
              refine go_cV (m_puts hS (by omega) (by omega)) lk_X10_247 rfl G_109 (at_of tX10_putsRoman 1 9 rfl) rfl (by decide) rfl (Nat.le_of_ble_eq_true rfl) rfl (by first | decide | exact ⟨Nat.zero_le _, Nat.zero_le _⟩) ?_
              refine go_iinc (at_of tX10_putsRoman 1 10 rfl) rfl (by unfold in32; omega) rfl rfl ?_
              refine go_goto (tgt := 2) (at_of tX10_putsRoman 1 11 rfl) (by decide) ?_
              rw [show z + (-50) = z - 50 by omega]
              exact ih _ _ l' (pmS σ _) hS (by rw [pmS_n]; omega) (by rw [pmS_n]; omega) (by omega) hl'
            · skip
              by_cases c3 : 40 ≤ z
              · skip
                have hr : roN z = (120, z + 10) := by unfold roN; rw [if_neg c0]; rw [if_neg c1]; rw [if_neg c2]; rw [if_pos c3]
                rw [hr] at hl
                obtain ⟨l', hl', rfl⟩ := Option.map_eq_some_iff.mp hl
                refine go_iload_n (at_of tX10_putsRoman 0 2 rfl) rfl ?_
                refine go_if_le (tgt := 159) (at_of tX10_putsRoman 0 3 rfl) (by decide) (fun h3 => ?_) (fun h3 => ?_)
                · exfalso; omega
                refine go_iload_n (at_of tX10_putsRoman 0 4 rfl) rfl ?_
                refine go_bipush (at_of tX10_putsRoman 0 5 rfl) (by decide) ?_
                refine go_icmp_lt (tgt := 24) (at_of tX10_putsRoman 0 6 rfl) (by decide) (fun h9 => ?_) (fun h9 => ?_)
                rotate_left
                · exfalso; omega
                refine go_iload_n (at_of tX10_putsRoman 0 12 rfl) rfl ?_
                refine go_bipush (at_of tX10_putsRoman 0 13 rfl) (by decide) ?_
                refine go_icmp_lt (tgt := 42) (at_of tX10_putsRoman 0 14 rfl) (by decide) (fun h27 => ?_) (fun h27 => ?_)
                rotate_left
                · exfalso; omega
                refine go_iload_n (at_of tX10_putsRoman 1 4 rfl) rfl ?_
                refine go_bipush (at_of tX10_putsRoman 1 5 rfl) (by decide) ?_
                refine go_icmp_lt (tgt := 60) (at_of tX10_putsRoman 1 6 rfl) (by decide) (fun h45 => ?_) (fun h45 => ?_)
                rotate_left
                · exfalso; omega
                refine go_iload_n (at_of tX10_putsRoman 1 12 rfl) rfl ?_
                refine go_bipush (at_of tX10_putsRoman 1 13 rfl) (by decide) ?_
                refine go_icmp_lt (tgt := 78) (at_of tX10_putsRoman 1 14 rfl) (by decide) (fun h63 => ?_) (fun h63 => ?_)
                · exfalso; omega
                refine go_aload_n (at_of tX10_putsRoman 1 15 rfl) rfl ?_
                refine go_bipush (at_of tX10_putsRoman 2 0 rfl) (by decide) ?_
                refine go_cV (m_puts hS (by omega) (by omega)) lk_X10_247 rfl G_109 (at_of tX10_putsRoman 2 1 rfl) rfl (by decide) rfl (Nat.le_of_ble_eq_true rfl) rfl (by first | decide | exact ⟨Nat.zero_le _, Nat.zero_le _⟩) ?_
                refine go_iinc (at_of tX10_putsRoman 2 2 rfl) rfl (by unfold in32; omega) rfl rfl ?_
                refine go_goto (tgt := 2) (at_of tX10_putsRoman 2 3 rfl) (by decide) ?_
                exact ih _ _ l' (pmS σ _) hS (by rw [pmS_n]; omega) (by rw [pmS_n]; omega) (by omega) hl'
              · skip
                by_cases c4 : 10 ≤ z
                · skip
                  have hr : roN z = (120, z - 10) := by unfold roN; rw [if_neg c0]; rw [if_neg c1]; rw [if_neg c2]; rw [if_neg c3]; rw [if_pos c4]
                  rw [hr] at hl
                  obtain ⟨l', hl', rfl⟩ := Option.map_eq_some_iff.mp hl
                  refine go_iload_n (at_of tX10_putsRoman 0 2 rfl) rfl ?_
                  refine go_if_le (tgt := 159) (at_of tX10_putsRoman 0 3 rfl) (by decide) (fun h3 => ?_) (fun h3 => ?_)
                  · exfalso; omega
                  refine go_iload_n (at_of tX10_putsRoman 0 4 rfl) rfl ?_
                  refine go_bipush (at_of tX10_putsRoman 0 5 rfl) (by decide) ?_
                  refine go_icmp_lt (tgt := 24) (at_of tX10_putsRoman 0 6 rfl) (by decide) (fun h9 => ?_) (fun h9 => ?_)
                  rotate_left
                  · exfalso; omega
                  refine go_iload_n (at_of tX10_putsRoman 0 12 rfl) rfl ?_
                  refine go_bipush (at_of tX10_putsRoman 0 13 rfl) (by decide) ?_
                  refine go_icmp_lt (tgt := 42) (at_of tX10_putsRoman 0 14 rfl) (by decide) (fun h27 => ?_) (fun h27 => ?_)
                  rotate_left
                  · exfalso; omega
                  refine go_iload_n (at_of tX10_putsRoman 1 4 rfl) rfl ?_
                  refine go_bipush (at_of tX10_putsRoman 1 5 rfl) (by decide) ?_
                  refine go_icmp_lt (tgt := 60) (at_of tX10_putsRoman 1 6 rfl) (by decide) (fun h45 => ?_) (fun h45 => ?_)
                  rotate_left
                  · exfalso; omega
                  refine go_iload_n (at_of tX10_putsRoman 1 12 rfl) rfl ?_
                  refine go_bipush (at_of tX10_putsRoman 1 13 rfl) (by decide) ?_
                  refine go_icmp_lt (tgt := 78) (at_of tX10_putsRoman 1 14 rfl) (by decide) (fun h63 => ?_) (fun h63 => ?_)
                  rotate_left
                  · exfalso; omega
                  refine go_iload_n (at_of tX10_putsRoman 2 4 rfl) rfl ?_
                  refine go_bipush (at_of tX10_putsRoman 2 5 rfl) (by decide) ?_
                  refine go_icmp_lt (tgt := 96) (at_of tX10_putsRoman 2 6 rfl) (by decide) (fun h81 => ?_) (fun h81 => ?_)
                  · exfalso; omega
                  refine go_aload_n (at_of tX10_putsRoman 2 7 rfl) rfl ?_
                  refine go_bipush (at_of tX10_putsRoman 2 8 rfl) (by decide) ?_
                  refine go_cV (m_puts hS (by omega) (by omega)) lk_X10_247 rfl G_109 (at_of tX10_putsRoman 2 9 rfl) rfl (by decide) rfl (Nat.le_of_ble_eq_true rfl) rfl (by first | decide | exact ⟨Nat.zero_le _, Nat.zero_le _⟩) ?_
                  refine go_iinc (at_of tX10_putsRoman 2 10 rfl) rfl (by unfold in32; omega) rfl rfl ?_
                  refine go_goto (tgt := 2) (at_of tX10_putsRoman 2 11 rfl) (by decide) ?_
                  rw [show z + (-10) = z - 10 by omega]
                  exact ih _ _ l' (pmS σ _) hS (by rw [pmS_n]; omega) (by rw [pmS_n]; omega) (by omega) hl'
                · skip
                  by_cases c5 : z = 9
                  · skip
                    have hr : roN z = (105, 10) := by unfold roN; rw [if_neg c0]; rw [if_neg c1]; rw [if_neg c2]; rw [if_neg c3]; rw [if_neg c4]; rw [if_pos c5]
                    rw [hr] at hl
                    obtain ⟨l', hl', rfl⟩ := Option.map_eq_some_iff.mp hl
                    refine go_iload_n (at_of tX10_putsRoman 0 2 rfl) rfl ?_
                    refine go_if_le (tgt := 159) (at_of tX10_putsRoman 0 3 rfl) (by decide) (fun h3 => ?_) (fun h3 => ?_)
                    · exfalso; omega
                    refine go_iload_n (at_of tX10_putsRoman 0 4 rfl) rfl ?_
                    refine go_bipush (at_of tX10_putsRoman 0 5 rfl) (by decide) ?_
                    refine go_icmp_lt (tgt := 24) (at_of tX10_putsRoman 0 6 rfl) (by decide) (fun h9 => ?_) (fun h9 => ?_)
                    rotate_left
                    · exfalso; omega
                    refine go_iload_n (at_of tX10_putsRoman 0 12 rfl) rfl ?_
                    refine go_bipush (at_of tX10_putsRoman 0 13 rfl) (by decide) ?_
                    refine go_icmp_lt (tgt := 42) (at_of tX10_putsRoman 0 14 rfl) (by decide) (fun h27 => ?_) (fun h27 => ?_)
                    rotate_left
                    · exfalso; omega
                    refine go_iload_n (at_of tX10_putsRoman 1 4 rfl) rfl ?_
                    refine go_bipush (at_of tX10_putsRoman 1 5 rfl) (by decide) ?_
                    refine go_icmp_lt (tgt := 60) (at_of tX10_putsRoman 1 6 rfl) (by decide) (fun h45 => ?_) (fun h45 => ?_)
                    rotate_left
                    · exfalso; omega
                    refine go_iload_n (at_of tX10_putsRoman 1 12 rfl) rfl ?_
                    refine go_bipush (at_of tX10_putsRoman 1 13 rfl) (by decide) ?_
                    refine go_icmp_lt (tgt := 78) (at_of tX10_putsRoman 1 14 rfl) (by decide) (fun h63 => ?_) (fun h63 => ?_)
                    rotate_left
                    · exfalso; omega
                    refine go_iload_n (at_of tX10_putsRoman 2 4 rfl) rfl ?_
                    refine go_bipush (at_of tX10_putsRoman 2 5 rfl) (by decide) ?_
                    refine go_icmp_lt (tgt := 96) (at_of tX10_putsRoman 2 6 rfl) (by decide) (fun h81 => ?_) (fun h81 => ?_)
                    rotate_left
                    · exfalso; omega
                    refine go_iload_n (at_of tX10_putsRoman 2 12 rfl) rfl ?_
                    refine go_bipush (at_of tX10_putsRoman 2 13 rfl) (by decide) ?_
                    refine go_icmp_ne (tgt := 114) (at_of tX10_putsRoman 2 14 rfl) (by decide) (fun h99 => ?_) (fun h99 => ?_)
                    · exfalso; omega
                    refine go_aload_n (at_of tX10_putsRoman 2 15 rfl) rfl ?_
                    refine go_bipush (at_of tX10_putsRoman 3 0 rfl) (by decide) ?_
                    refine go_cV (m_puts hS (by omega) (by omega)) lk_X10_247 rfl G_109 (at_of tX10_putsRoman 3 1 rfl) rfl (by decide) rfl (Nat.le_of_ble_eq_true rfl) rfl (by first | decide | exact ⟨Nat.zero_le _, Nat.zero_le _⟩) ?_
                    refine go_bipush (at_of tX10_putsRoman 3 2 rfl) (by decide) ?_
                    refine go_istore_n (at_of tX10_putsRoman 3 3 rfl) rfl rfl ?_
                    refine go_goto (tgt := 2) (at_of tX10_putsRoman 3 4 rfl) (by decide) ?_
                    exact ih _ _ l' (pmS σ _) hS (by rw [pmS_n]; omega) (by rw [pmS_n]; omega) (by omega) hl'
                  · skip
                    by_cases c6 : 5 ≤ z
                    · skip
                      have hr : roN z = (118, z - 5) := by unfold roN; rw [if_neg c0]; rw [if_neg c1]; rw [if_neg c2]; rw [if_neg c3]; rw [if_neg c4]; rw [if_neg c5]; rw [if_pos c6]
                      rw [hr] at hl
                      obtain ⟨l', hl', rfl⟩ := Option.map_eq_some_iff.mp hl
                      refine go_iload_n (at_of tX10_putsRoman 0 2 rfl) rfl ?_
                      refine go_if_le (tgt := 159) (at_of tX10_putsRoman 0 3 rfl) (by decide) (fun h3 => ?_) (fun h3 => ?_)
                      · exfalso; omega
                      refine go_iload_n (at_of tX10_putsRoman 0 4 rfl) rfl ?_
                      refine go_bipush (at_of tX10_putsRoman 0 5 rfl) (by decide) ?_
                      refine go_icmp_lt (tgt := 24) (at_of tX10_putsRoman 0 6 rfl) (by decide) (fun h9 => ?_) (fun h9 => ?_)
                      rotate_left
                      · exfalso; omega
                      refine go_iload_n (at_of tX10_putsRoman 0 12 rfl) rfl ?_
                      refine go_bipush (at_of tX10_putsRoman 0 13 rfl) (by decide) ?_
                      refine go_icmp_lt (tgt := 42) (at_of tX10_putsRoman 0 14 rfl) (by decide) (fun h27 => ?_) (fun h27 => ?_)
                      rotate_left
                      · exfalso; omega
                      refine go_iload_n (at_of tX10_putsRoman 1 4 rfl) rfl ?_
                      refine go_bipush (at_of tX10_putsRoman 1 5 rfl) (by decide) ?_
                      refine go_icmp_lt (tgt := 60) (at_of tX10_putsRoman 1 6 rfl) (by decide) (fun h45 => ?_) (fun h45 => ?_)
                      rotate_left
                      · exfalso; omega
                      refine go_iload_n (at_of tX10_putsRoman 1 12 rfl) rfl ?_
                      refine go_bipush (at_of tX10_putsRoman 1 13 rfl) (by decide) ?_
                      refine go_icmp_lt (tgt := 78) (at_of tX10_putsRoman 1 14 rfl) (by decide) (fun h63 => ?_) (fun h63 => ?_)
                      rotate_left
                      · exfalso; omega
                      refine go_iload_n (at_of tX10_putsRoman 2 4 rfl) rfl ?_
                      refine go_bipush (at_of tX10_putsRoman 2 5 rfl) (by decide) ?_
                      refine go_icmp_lt (tgt := 96) (at_of tX10_putsRoman 2 6 rfl) (by decide) (fun h81 => ?_) (fun h81 => ?_)
                      rotate_left
                      · exfalso; omega
                      refine go_iload_n (at_of tX10_putsRoman 2 12 rfl) rfl ?_
                      refine go_bipush (at_of tX10_putsRoman 2 13 rfl) (by decide) ?_
                      refine go_icmp_ne (tgt := 114) (at_of tX10_putsRoman 2 14 rfl) (by decide) (fun h99 => ?_) (fun h99 => ?_)
                      rotate_left
                      · exfalso; omega
                      refine go_iload_n (at_of tX10_putsRoman 3 5 rfl) rfl ?_
                      refine go_iconst (at_of tX10_putsRoman 3 6 rfl) (by unfold in32; omega) ?_
                      refine go_icmp_lt (tgt := 131) (at_of tX10_putsRoman 3 7 rfl) (by decide) (fun h116 => ?_) (fun h116 => ?_)
                      · exfalso; omega
                      refine go_aload_n (at_of tX10_putsRoman 3 8 rfl) rfl ?_
                      refine go_bipush (at_of tX10_putsRoman 3 9 rfl) (by decide) ?_
                      refine go_cV (m_puts hS (by omega) (by omega)) lk_X10_247 rfl G_109 (at_of tX10_putsRoman 3 10 rfl) rfl (by decide) rfl (Nat.le_of_ble_eq_true rfl) rfl (by first | decide | exact ⟨Nat.zero_le _, Nat.zero_le _⟩) ?_
                      refine go_iinc (at_of tX10_putsRoman 3 11 rfl) rfl (by unfold in32; omega) rfl rfl ?_
                      refine go_goto (tgt := 2) (at_of tX10_putsRoman 3 12 rfl) (by decide) ?_
                      rw [show z + (-5) = z - 5 by omega]
                      exact ih _ _ l' (pmS σ _) hS (by rw [pmS_n]; omega) (by rw [pmS_n]; omega) (by omega) hl'
                    · skip
                      by_cases c7 : z = 4
                      · skip
                        have hr : roN z = (105, 5) := by unfold roN; rw [if_neg c0]; rw [if_neg c1]; rw [if_neg c2]; rw [if_neg c3]; rw [if_neg c4]; rw [if_neg c5]; rw [if_neg c6]; rw [if_pos c7]
                        rw [hr] at hl
                        obtain ⟨l', hl', rfl⟩ := Option.map_eq_some_iff.mp hl
                        refine go_iload_n (at_of tX10_putsRoman 0 2 rfl) rfl ?_
                        refine go_if_le (tgt := 159) (at_of tX10_putsRoman 0 3 rfl) (by decide) (fun h3 => ?_) (fun h3 => ?_)
                        · exfalso; omega
                        refine go_iload_n (at_of tX10_putsRoman 0 4 rfl) rfl ?_
                        refine go_bipush (at_of tX10_putsRoman 0 5 rfl) (by decide) ?_
                        refine go_icmp_lt (tgt := 24) (at_of tX10_putsRoman 0 6 rfl) (by decide) (fun h9 => ?_) (fun h9 => ?_)
                        rotate_left
                        · exfalso; omega
                        refine go_iload_n (at_of tX10_putsRoman 0 12 rfl) rfl ?_
                        refine go_bipush (at_of tX10_putsRoman 0 13 rfl) (by decide) ?_
                        refine go_icmp_lt (tgt := 42) (at_of tX10_putsRoman 0 14 rfl) (by decide) (fun h27 => ?_) (fun h27 => ?_)
                        rotate_left
                        · exfalso; omega
                        refine go_iload_n (at_of tX10_putsRoman 1 4 rfl) rfl ?_
                        refine go_bipush (at_of tX10_putsRoman 1 5 rfl) (by decide) ?_
                        refine go_icmp_lt (tgt := 60) (at_of tX10_putsRoman 1 6 rfl) (by decide) (fun h45 => ?_) (fun h45 => ?_)
                        rotate_left
                        · exfalso; omega
                        refine go_iload_n (at_of tX10_putsRoman 1 12 rfl) rfl ?_
                        refine go_bipush (at_of tX10_putsRoman 1 13 rfl) (by decide) ?_
                        refine go_icmp_lt (tgt := 78) (at_of tX10_putsRoman 1 14 rfl) (by decide) (fun h63 => ?_) (fun h63 => ?_)
                        rotate_left
                        · exfalso; omega
                        refine go_iload_n (at_of tX10_putsRoman 2 4 rfl) rfl ?_
                        refine go_bipush (at_of tX10_putsRoman 2 5 rfl) (by decide) ?_
                        refine go_icmp_lt (tgt := 96) (at_of tX10_putsRoman 2 6 rfl) (by decide) (fun h81 => ?_) (fun h81 => ?_)
                        rotate_left
                        · exfalso; omega
                        refine go_iload_n (at_of tX10_putsRoman 2 12 rfl) rfl ?_
                        refine go_bipush (at_of tX10_putsRoman 2 13 rfl) (by decide) ?_
                        refine go_icmp_ne (tgt := 114) (at_of tX10_putsRoman 2 14 rfl) (by decide) (fun h99 => ?_) (fun h99 => ?_)
                        rotate_left
                        · exfalso; omega
                        refine go_iload_n (at_of tX10_putsRoman 3 5 rfl) rfl ?_
                        refine go_iconst (at_of tX10_putsRoman 3 6 rfl) (by unfold in32; omega) ?_
                        refine go_icmp_lt (tgt := 131) (at_of tX10_putsRoman 3 7 rfl) (by decide) (fun h116 => ?_) (fun h116 => ?_)
                        rotate_left
                        · exfalso; omega
                        refine go_iload_n (at_of tX10_putsRoman 3 13 rfl) rfl ?_
                        refine go_iconst (at_of tX10_putsRoman 3 14 rfl) (by unfold in32; omega) ?_
                        refine go_icmp_ne (tgt := 147) (at_of tX10_putsRoman 3 15 rfl) (by decide) (fun h133 => ?_) (fun h133 => ?_)
                        · exfalso; omega
                        refine go_aload_n (at_of tX10_putsRoman 4 0 rfl) rfl ?_
                        refine go_bipush (at_of tX10_putsRoman 4 1 rfl) (by decide) ?_
                        refine go_cV (m_puts hS (by omega) (by omega)) lk_X10_247 rfl G_109 (at_of tX10_putsRoman 4 2 rfl) rfl (by decide) rfl (Nat.le_of_ble_eq_true rfl) rfl (by first | decide | exact ⟨Nat.zero_le _, Nat.zero_le _⟩) ?_
                        refine go_iconst (at_of tX10_putsRoman 4 3 rfl) (by unfold in32; omega) ?_
                        refine go_istore_n (at_of tX10_putsRoman 4 4 rfl) rfl rfl ?_
                        refine go_goto (tgt := 2) (at_of tX10_putsRoman 4 5 rfl) (by decide) ?_
                        exact ih _ _ l' (pmS σ _) hS (by rw [pmS_n]; omega) (by rw [pmS_n]; omega) (by omega) hl'
                      · skip
                        have hr : roN z = (105, z - 1) := by unfold roN; rw [if_neg c0]; rw [if_neg c1]; rw [if_neg c2]; rw [if_neg c3]; rw [if_neg c4]; rw [if_neg c5]; rw [if_neg c6]; rw [if_neg c7]
                        rw [hr] at hl
                        obtain ⟨l', hl', rfl⟩ := Option.map_eq_some_iff.mp hl
                        refine go_iload_n (at_of tX10_putsRoman 0 2 rfl) rfl ?_
                        refine go_if_le (tgt := 159) (at_of tX10_putsRoman 0 3 rfl) (by decide) (fun h3 => ?_) (fun h3 => ?_)
                        · exfalso; omega
                        refine go_iload_n (at_of tX10_putsRoman 0 4 rfl) rfl ?_
                        refine go_bipush (at_of tX10_putsRoman 0 5 rfl) (by decide) ?_
                        refine go_icmp_lt (tgt := 24) (at_of tX10_putsRoman 0 6 rfl) (by decide) (fun h9 => ?_) (fun h9 => ?_)
                        rotate_left
                        · exfalso; omega
                        refine go_iload_n (at_of tX10_putsRoman 0 12 rfl) rfl ?_
                        refine go_bipush (at_of tX10_putsRoman 0 13 rfl) (by decide) ?_
                        refine go_icmp_lt (tgt := 42) (at_of tX10_putsRoman 0 14 rfl) (by decide) (fun h27 => ?_) (fun h27 => ?_)
                        rotate_left
                        · exfalso; omega
                        refine go_iload_n (at_of tX10_putsRoman 1 4 rfl) rfl ?_
                        refine go_bipush (at_of tX10_putsRoman 1 5 rfl) (by decide) ?_
                        refine go_icmp_lt (tgt := 60) (at_of tX10_putsRoman 1 6 rfl) (by decide) (fun h45 => ?_) (fun h45 => ?_)
                        rotate_left
                        · exfalso; omega
                        refine go_iload_n (at_of tX10_putsRoman 1 12 rfl) rfl ?_
                        refine go_bipush (at_of tX10_putsRoman 1 13 rfl) (by decide) ?_
                        refine go_icmp_lt (tgt := 78) (at_of tX10_putsRoman 1 14 rfl) (by decide) (fun h63 => ?_) (fun h63 => ?_)
                        rotate_left
                        · exfalso; omega
                        refine go_iload_n (at_of tX10_putsRoman 2 4 rfl) rfl ?_
                        refine go_bipush (at_of tX10_putsRoman 2 5 rfl) (by decide) ?_
                        refine go_icmp_lt (tgt := 96) (at_of tX10_putsRoman 2 6 rfl) (by decide) (fun h81 => ?_) (fun h81 => ?_)
                        rotate_left
                        · exfalso; omega
                        refine go_iload_n (at_of tX10_putsRoman 2 12 rfl) rfl ?_
                        refine go_bipush (at_of tX10_putsRoman 2 13 rfl) (by decide) ?_
                        refine go_icmp_ne (tgt := 114) (at_of tX10_putsRoman 2 14 rfl) (by decide) (fun h99 => ?_) (fun h99 => ?_)
                        rotate_left
                        · exfalso; omega
                        refine go_iload_n (at_of tX10_putsRoman 3 5 rfl) rfl ?_
                        refine go_iconst (at_of tX10_putsRoman 3 6 rfl) (by unfold in32; omega) ?_
                        refine go_icmp_lt (tgt := 131) (at_of tX10_putsRoman 3 7 rfl) (by decide) (fun h116 => ?_) (fun h116 => ?_)
                        rotate_left
                        · exfalso; omega
                        refine go_iload_n (at_of tX10_putsRoman 3 13 rfl) rfl ?_
                        refine go_iconst (at_of tX10_putsRoman 3 14 rfl) (by unfold in32; omega) ?_
                        refine go_icmp_ne (tgt := 147) (at_of tX10_putsRoman 3 15 rfl) (by decide) (fun h133 => ?_) (fun h133 => ?_)
                        rotate_left
                        · exfalso; omega
                        refine go_aload_n (at_of tX10_putsRoman 4 6 rfl) rfl ?_
                        refine go_bipush (at_of tX10_putsRoman 4 7 rfl) (by decide) ?_
                        refine go_cV (m_puts hS (by omega) (by omega)) lk_X10_247 rfl G_109 (at_of tX10_putsRoman 4 8 rfl) rfl (by decide) rfl (Nat.le_of_ble_eq_true rfl) rfl (by first | decide | exact ⟨Nat.zero_le _, Nat.zero_le _⟩) ?_
                        refine go_iinc (at_of tX10_putsRoman 4 9 rfl) rfl (by unfold in32; omega) rfl rfl ?_
                        refine go_goto (tgt := 2) (at_of tX10_putsRoman 4 10 rfl) (by decide) ?_
                        rw [show z + (-1) = z - 1 by omega]
                        exact ih _ _ l' (pmS σ _) hS (by rw [pmS_n]; omega) (by rw [pmS_n]; omega) (by omega) hl'
  refine con_of_go mfX10_putsRoman.1 trivial (Nat.le_of_ble_eq_true rfl) rfl (by decide) ?_
  show Go _ _ _ _ 0 [vA _, vI _, vT 9 0] [] _ _
  refine go_iload_n (at_of tX10_putsRoman 0 0 rfl) rfl ?_
  refine go_istore_n (at_of tX10_putsRoman 0 1 rfl) rfl rfl ?_
  exact key 16 _ n _ σ hS (by omega) (by omega) (by omega) (roR_eq hn)
def kdM (σ : St) (l : Int) : Int → Int := fun v => if σ.1 117 l.toNat ≠ 0 then 100 else σ.1 116 (3 * l + v).toNat
def lineM (σ : St) (R : RowD) (e : Int) : List Int := linF (kdM σ (R.1 7 e)) (ctF R e) (R.1 8 e + 1).toNat 0
theorem cN_pmL {l : List Int} : cN (pmL σ l) = cN σ := funext fun x => pmL_ne (by omega) (by omega)
theorem cN_pmS {c : Int} : cN (pmS σ c) = cN σ := funext fun x => by
  show (pmS σ c).1 110 x.toNat = σ.1 110 x.toNat
  unfold pmS
  rw [P1_ne (by omega), M1_ne (by omega)]
theorem m_writeNumber_1 (hS : Str σ.2.1) (hN : RepNr (cN σ) R) (hL : LastE R) (hSg : SgW R) (hE : EndW R) {p : Int} (h : ¬ (0 ≤ p ∧ p ≤ endsA R.1 R.2.1 R.2.1)) : Con 5 mX10_writeNumber 0 0 [vA 109, vI p] σ (vI 0, P1 σ 109 0 1) := by
  obtain ⟨e1, e2, e3, e4⟩ := id hL
  have hp1 : bI (0 ≤ p ∧ p ≤ endsA R.1 R.2.1 R.2.1) = 0 := bI_f h
  refine con_of_go mfX10_writeNumber.1 trivial (Nat.le_of_ble_eq_true rfl) rfl (by decide) ?_
  show Go _ _ _ _ 0 [vA _, vI _, vT 9 0, vT 9 0, vT 9 0, vT 9 0, vT 9 0, vT 9 0, vT 9 0] [] _ _
  refine go_aload_n (at_of tX10_writeNumber 0 0 rfl) rfl ?_
  refine go_iload_n (at_of tX10_writeNumber 0 1 rfl) rfl ?_
  refine go_cV (m_isParagraph hS hN hL hSg) lk_X10_203 rfl G_109 (at_of tX10_writeNumber 0 2 rfl) rfl (by decide) rfl (Nat.le_of_ble_eq_true rfl) rfl (by first | decide | exact ⟨Nat.zero_le _, Nat.zero_le _⟩) ?_
  rw [hp1]
  refine go_istore_n (at_of tX10_writeNumber 0 3 rfl) rfl rfl ?_
  refine go_iload_n (at_of tX10_writeNumber 0 4 rfl) rfl ?_
  refine go_if_eq (tgt := 18) (at_of tX10_writeNumber 0 5 rfl) (by decide) (fun h7 => ?_) (fun h7 => ?_)
  rotate_left
  · exfalso; omega
  refine go_iconst (at_of tX10_writeNumber 0 10 rfl) (by unfold in32; omega) ?_
  refine go_istore_n (at_of tX10_writeNumber 0 11 rfl) rfl rfl ?_
  refine go_aload_n (at_of tX10_writeNumber 0 12 rfl) rfl ?_
  refine go_iload_n (at_of tX10_writeNumber 0 13 rfl) rfl ?_
  refine go_if_ne (tgt := 29) (at_of tX10_writeNumber 0 14 rfl) (by decide) (fun h22 => ?_) (fun h22 => ?_)
  · exfalso; omega
  refine go_iconst (at_of tX10_writeNumber 0 15 rfl) (by unfold in32; omega) ?_
  refine go_goto (tgt := 44) (at_of tX10_writeNumber 1 0 rfl) (by decide) ?_
  refine go_cV (m_goesOn) lk_X10_141 rfl G_109 (at_of tX10_writeNumber 1 10 rfl) rfl (by decide) rfl (Nat.le_of_ble_eq_true rfl) rfl (by first | decide | exact ⟨Nat.zero_le _, Nat.zero_le _⟩) ?_
  refine go_if_ne (tgt := 52) (at_of tX10_writeNumber 1 11 rfl) (by decide) (fun h47 => ?_) (fun h47 => ?_)
  · exfalso; exact h47 (bI_f (by decide))
  refine go_iconst (at_of tX10_writeNumber 1 12 rfl) (by unfold in32; omega) ?_
  first | exact go_reti (at_of tX10_writeNumber 1 13 rfl) rfl | exact go_reti (at_of tX10_writeNumber 1 13 rfl) (le_i (by omega)) | exact go_reti (at_of tX10_writeNumber 1 13 rfl) (le_i (by first | exact bI_t (by omega) | exact bI_f (by omega)))
theorem m_writeNumber_2 (hS : Str σ.2.1) (hN : RepNr (cN σ) R) (hL : LastE R) (hSg : SgW R) (hE : EndW R) {p : Int} (h : 0 ≤ p ∧ p ≤ endsA R.1 R.2.1 R.2.1) (h7 : R.1 7 (ixEnd R.1 R.2.1 p) = -1) : Con 5 mX10_writeNumber 0 0 [vA 109, vI p] σ (vI 0, P1 σ 109 0 2) := by
  obtain ⟨e1, e2, e3, e4⟩ := id hL
  obtain ⟨u1, u2, u3, h47⟩ := ixEnd_end e1 ((ixEnd_iff hL).mpr h)
  have hS1 : Str (P1 σ 109 0 0).2.1 := hS
  have hN1 : RepNr (cN (P1 σ 109 0 0)) R := by rw [cN_P1]; exact hN
  have me := m_endOfParagraph hS hN hL hSg h.1 h.2
  obtain ⟨e, he⟩ : ∃ e, e = (ixEnd R.1 R.2.1 p) := ⟨_, rfl⟩
  rw [← he] at me u1 u2 u3 h47 h7
  have hp1 : bI (0 ≤ p ∧ p ≤ endsA R.1 R.2.1 R.2.1) = 1 := bI_t h
  refine con_of_go mfX10_writeNumber.1 trivial (Nat.le_of_ble_eq_true rfl) rfl (by decide) ?_
  show Go _ _ _ _ 0 [vA _, vI _, vT 9 0, vT 9 0, vT 9 0, vT 9 0, vT 9 0, vT 9 0, vT 9 0] [] _ _
  refine go_aload_n (at_of tX10_writeNumber 0 0 rfl) rfl ?_
  refine go_iload_n (at_of tX10_writeNumber 0 1 rfl) rfl ?_
  refine go_cV (m_isParagraph hS hN hL hSg) lk_X10_203 rfl G_109 (at_of tX10_writeNumber 0 2 rfl) rfl (by decide) rfl (Nat.le_of_ble_eq_true rfl) rfl (by first | decide | exact ⟨Nat.zero_le _, Nat.zero_le _⟩) ?_
  rw [hp1]
  refine go_istore_n (at_of tX10_writeNumber 0 3 rfl) rfl rfl ?_
  refine go_iload_n (at_of tX10_writeNumber 0 4 rfl) rfl ?_
  refine go_if_eq (tgt := 18) (at_of tX10_writeNumber 0 5 rfl) (by decide) (fun h7 => ?_) (fun h7 => ?_)
  · exfalso; omega
  refine go_aload_n (at_of tX10_writeNumber 0 6 rfl) rfl ?_
  refine go_iload_n (at_of tX10_writeNumber 0 7 rfl) rfl ?_
  refine go_cV (me) lk_X10_197 rfl G_109 (at_of tX10_writeNumber 0 8 rfl) rfl (by decide) rfl (Nat.le_of_ble_eq_true rfl) rfl (by first | decide | exact ⟨Nat.zero_le _, Nat.zero_le _⟩) ?_
  refine go_goto (tgt := 19) (at_of tX10_writeNumber 0 9 rfl) (by decide) ?_
  refine go_istore_n (at_of tX10_writeNumber 0 11 rfl) rfl rfl ?_
  refine go_aload_n (at_of tX10_writeNumber 0 12 rfl) rfl ?_
  refine go_iload_n (at_of tX10_writeNumber 0 13 rfl) rfl ?_
  refine go_if_ne (tgt := 29) (at_of tX10_writeNumber 0 14 rfl) (by decide) (fun h22 => ?_) (fun h22 => ?_)
  rotate_left
  · exfalso; omega
  refine go_aload_n (at_of tX10_writeNumber 1 1 rfl) rfl ?_
  refine go_iload_n (at_of tX10_writeNumber 1 2 rfl) rfl ?_
  refine go_iconst (at_of tX10_writeNumber 1 3 rfl) (by unfold in32; omega) ?_
  refine go_cV (m_at4 hS hN (by omega) h47) lk_X10_106 rfl G_109 (at_of tX10_writeNumber 1 4 rfl) rfl (by decide) rfl (Nat.le_of_ble_eq_true rfl) rfl (by first | decide | exact ⟨Nat.zero_le _, Nat.zero_le _⟩) ?_
  refine go_iconst (at_of tX10_writeNumber 1 5 rfl) (by unfold in32; omega) ?_
  refine go_icmp_ne (tgt := 43) (at_of tX10_writeNumber 1 6 rfl) (by decide) (fun h36 => ?_) (fun h36 => ?_)
  · exfalso; omega
  refine go_iconst (at_of tX10_writeNumber 1 7 rfl) (by unfold in32; omega) ?_
  refine go_goto (tgt := 44) (at_of tX10_writeNumber 1 8 rfl) (by decide) ?_
  refine go_cV (m_goesOn) lk_X10_141 rfl G_109 (at_of tX10_writeNumber 1 10 rfl) rfl (by decide) rfl (Nat.le_of_ble_eq_true rfl) rfl (by first | decide | exact ⟨Nat.zero_le _, Nat.zero_le _⟩) ?_
  refine go_if_ne (tgt := 52) (at_of tX10_writeNumber 1 11 rfl) (by decide) (fun hgo => ?_) (fun hgo => ?_)
  · exfalso; exact hgo (bI_f (by decide))
  refine go_iconst (at_of tX10_writeNumber 1 12 rfl) (by unfold in32; omega) ?_
  first | exact go_reti (at_of tX10_writeNumber 1 13 rfl) rfl | exact go_reti (at_of tX10_writeNumber 1 13 rfl) (le_i (by omega)) | exact go_reti (at_of tX10_writeNumber 1 13 rfl) (le_i (by first | exact bI_t (by omega) | exact bI_f (by omega)))
theorem m_writeNumber (hS : Str σ.2.1) (hN : RepNr (cN σ) R) (hL : LastE R) (hSg : SgW R) (hE : EndW R) {p : Int} (hkd : ∀ l v : Int, 0 ≤ l → l ≤ 2 → 0 ≤ v → v ≤ 2 → (kdM σ l v = 100 ∨ kdM σ l v = 97 ∨ kdM σ l v = 114)) (h : 0 ≤ p ∧ p ≤ endsA R.1 R.2.1 R.2.1) (h7 : R.1 7 (ixEnd R.1 R.2.1 p) ≠ -1) : Con 5 mX10_writeNumber 0 0 [vA 109, vI p] σ (vI (lineM σ R (ixEnd R.1 R.2.1 p)).length, pmL (P1 (ctT (P1 σ 109 0 0) (ctF R (ixEnd R.1 R.2.1 p))) 109 21 0) (lineM σ R (ixEnd R.1 R.2.1 p))) := by
  obtain ⟨e1, e2, e3, e4⟩ := id hL
  obtain ⟨u1, u2, u3, h47⟩ := ixEnd_end e1 ((ixEnd_iff hL).mpr h)
  have hS1 : Str (P1 σ 109 0 0).2.1 := hS
  have hN1 : RepNr (cN (P1 σ 109 0 0)) R := by rw [cN_P1]; exact hN
  have me := m_endOfParagraph hS hN hL hSg h.1 h.2
  obtain ⟨e, he⟩ : ∃ e, e = (ixEnd R.1 R.2.1 p) := ⟨_, rfl⟩
  rw [← he] at me u1 u2 u3 h47 h7 ⊢
  have hp1 : bI (0 ≤ p ∧ p ≤ endsA R.1 R.2.1 R.2.1) = 1 := bI_t h
  obtain ⟨w1, w2, w3, w4, w5, w6⟩ := hE e u1 u2 h47
  have hcl := ctF_le hE ⟨u1, u2⟩ e2
  have hps := ctF_pos hE ⟨u1, u2⟩ u3 h47
  unfold lineM
  obtain ⟨l, hl⟩ : ∃ l, l = R.1 7 e := ⟨_, rfl⟩
  obtain ⟨w, hw⟩ : ∃ w, w = ctF R e (R.1 8 e) := ⟨_, rfl⟩
  rw [← hl] at h7 w5 w6 ⊢
  have hkd := hkd l
  replace hkd : ∀ v : Int, 0 ≤ v → v ≤ 2 → (kdM σ l v = 100 ∨ kdM σ l v = 97 ∨ kdM σ l v = 114) := fun v a b => hkd v (by omega) w6 a b
  have key : ∀ (m : Nat) (b : Nat × Nat) (v : Int) (v7 v8 : MV) (σv : St), Str σv.2.1 → RepNr (cN σv) R → 0 ≤ v → v + m = R.1 8 e + 1 → 0 ≤ σv.1 109 21 → σv.1 109 21 + 17 * m ≤ 128 → (∀ j, 0 ≤ j → j < 3 → σv.1 123 j.toNat = ctF R e j) → kdM σv l = kdM σ l → Go (fun _ => 0) 5 mX10_writeNumber b 75 [vA 109, vI p, vI 1, vI e, vI w, vI l, vI v, v7, v8] [] σv (vI ((pmL σv (linF (kdM σ l) (ctF R e) m v)).1 109 21), pmL σv (linF (kdM σ l) (ctF R e) m v)) := by
    intro m
    induction m with
    | zero =>
      intro b v v7 v8 σv hS2 hNv q0 q1 q2 q3 q4 q5
      refine go_iload (at_of tX10_writeNumber 2 12 rfl) rfl rfl ?_
      refine go_aload_n (at_of tX10_writeNumber 2 13 rfl) rfl ?_
      refine go_iload_n (at_of tX10_writeNumber 2 14 rfl) rfl ?_
      refine go_iconst (at_of tX10_writeNumber 2 15 rfl) (by unfold in32; omega) ?_
      refine go_cV (m_at5 hS2 hNv (by omega) h47) lk_X10_106 rfl G_109 (at_of tX10_writeNumber 3 0 rfl) rfl (by decide) rfl (Nat.le_of_ble_eq_true rfl) rfl (by first | decide | exact ⟨Nat.zero_le _, Nat.zero_le _⟩) ?_
      refine go_icmp_gt (tgt := 209) (at_of tX10_writeNumber 3 1 rfl) (by decide) (fun h83 => ?_) (fun h83 => ?_)
      rotate_left
      · exfalso; omega
      refine go_aload_n (at_of tX10_writeNumber 6 14 rfl) rfl ?_
      refine go_getf fl_X10_241 rfl G_109 (at_of tX10_writeNumber 6 15 rfl) ?_
      exact go_reti (at_of tX10_writeNumber 7 0 rfl) rfl
    | succ m ih =>
      intro b v v7 v8 σv hS2 hNv q0 q1 q2 q3 q4 q5
      have q6 := q4 v q0 (by omega)
      have q7 := hcl v
      have hkv := hkd v q0 (by omega)
      have hcase : (σv.1 117 l.toNat ≠ 0 ∧ kdM σ l v = 100) ∨ (σv.1 117 l.toNat = 0 ∧ σv.1 116 (3 * l + v).toNat = kdM σ l v) := by
        rw [← q5]
        unfold kdM
        by_cases hg : σv.1 117 l.toNat ≠ 0
        · exact Or.inl ⟨hg, if_pos hg⟩
        · exact Or.inr ⟨by omega, (if_neg hg).symm⟩
      obtain ⟨kd, hkdd⟩ : ∃ kd, kd = kdM σ l v := ⟨_, rfl⟩
      obtain ⟨z, hz⟩ : ∃ z, z = (if 1 < ctF R e v then ctF R e v else 1) := ⟨_, rfl⟩
      have hz1 : 1 ≤ z ∧ z ≤ 300 := by rw [hz]; split <;> omega
      have n16 := numC_len (kd := kd) (n := z) (by omega)
      have hnum : ∀ (b : Nat × Nat) (σx : St), Str σx.2.1 → RepNr (cN σx) R → 0 ≤ σx.1 109 21 → σx.1 109 21 + 16 + 17 * m ≤ 128 → (∀ j, 0 ≤ j → j < 3 → σx.1 123 j.toNat = ctF R e j) → kdM σx l = kdM σ l → Go (fun _ => 0) 5 mX10_writeNumber b 165 [vA 109, vI p, vI 1, vI e, vI w, vI l, vI v, vI z, vI kd] [] σx (vI ((pmL (pmL σx (numC kd z)) (linF (kdM σ l) (ctF R e) m (v + 1))).1 109 21), pmL (pmL σx (numC kd z)) (linF (kdM σ l) (ctF R e) m (v + 1))) := by
        intro b σx hSx hNx r2 r3 r4 r5
        have n2 := @pmL_n (numC kd z) σx
        have nxt : ∀ b, Go (fun _ => 0) 5 mX10_writeNumber b 75 [vA 109, vI p, vI 1, vI e, vI w, vI l, vI (v + 1), vI z, vI kd] [] (pmL σx (numC kd z)) (vI ((pmL (pmL σx (numC kd z)) (linF (kdM σ l) (ctF R e) m (v + 1))).1 109 21), pmL (pmL σx (numC kd z)) (linF (kdM σ l) (ctF R e) m (v + 1))) := fun b => ih b (v + 1) (vI z) (vI kd) (pmL σx (numC kd z)) (by rw [pmL_2]; exact hSx) (by rw [cN_pmL]; exact hNx) (by omega) (by omega) (by omega) (by omega) (fun j j0 j3 => by rw [pmL_ne (by omega) (by omega)]; exact r4 j j0 j3) (by rw [← r5]; unfold kdM; funext w; rw [pmL_ne (by omega) (by omega), pmL_ne (by omega) (by omega)])
        rcases hkv with hk | hk | hk
        · have e9 : numC kd z = digC z := by unfold numC; rw [if_neg (by omega), if_neg (by omega)]
          have md := m_dig2 hSx (n := z) (by omega) (by omega)
          rw [dgR_eq (by omega), ← e9] at md
          refine go_iload (at_of tX10_writeNumber 5 11 rfl) rfl rfl ?_
          refine go_bipush (at_of tX10_writeNumber 5 12 rfl) (by decide) ?_
          refine go_icmp_ne (tgt := 181) (at_of tX10_writeNumber 5 13 rfl) (by decide) (fun h169 => ?_) (fun h169 => ?_)
          · exfalso; omega
          refine go_aload_n (at_of tX10_writeNumber 5 14 rfl) rfl ?_
          refine go_iload (at_of tX10_writeNumber 5 15 rfl) rfl rfl ?_
          refine go_cV (md) lk_X10_244 rfl G_109 (at_of tX10_writeNumber 6 0 rfl) rfl (by decide) rfl (Nat.le_of_ble_eq_true rfl) rfl (by first | decide | exact ⟨Nat.zero_le _, Nat.zero_le _⟩) ?_
          refine go_goto (tgt := 203) (at_of tX10_writeNumber 6 1 rfl) (by decide) ?_
          refine go_iinc (at_of tX10_writeNumber 6 12 rfl) rfl (by unfold in32; omega) rfl rfl ?_
          refine go_goto (tgt := 75) (at_of tX10_writeNumber 6 13 rfl) (by decide) ?_
          exact nxt _
        · have e9 : numC kd z = letC z := by unfold numC; rw [if_pos (by omega)]
          have md := m_putsLetters hSx (n := z) (by omega) (by omega)
          rw [← e9] at md
          refine go_iload (at_of tX10_writeNumber 5 11 rfl) rfl rfl ?_
          refine go_bipush (at_of tX10_writeNumber 5 12 rfl) (by decide) ?_
          refine go_icmp_ne (tgt := 181) (at_of tX10_writeNumber 5 13 rfl) (by decide) (fun h169 => ?_) (fun h169 => ?_)
          rotate_left
          · exfalso; omega
          refine go_iload (at_of tX10_writeNumber 6 2 rfl) rfl rfl ?_
          refine go_bipush (at_of tX10_writeNumber 6 3 rfl) (by decide) ?_
          refine go_icmp_ne (tgt := 197) (at_of tX10_writeNumber 6 4 rfl) (by decide) (fun h185 => ?_) (fun h185 => ?_)
          · exfalso; omega
          refine go_aload_n (at_of tX10_writeNumber 6 5 rfl) rfl ?_
          refine go_iload (at_of tX10_writeNumber 6 6 rfl) rfl rfl ?_
          refine go_cV (md) lk_X10_251 rfl G_109 (at_of tX10_writeNumber 6 7 rfl) rfl (by decide) rfl (Nat.le_of_ble_eq_true rfl) rfl (by first | decide | exact ⟨Nat.zero_le _, Nat.zero_le _⟩) ?_
          refine go_goto (tgt := 203) (at_of tX10_writeNumber 6 8 rfl) (by decide) ?_
          refine go_iinc (at_of tX10_writeNumber 6 12 rfl) rfl (by unfold in32; omega) rfl rfl ?_
          refine go_goto (tgt := 75) (at_of tX10_writeNumber 6 13 rfl) (by decide) ?_
          exact nxt _
        · have e9 : numC kd z = romC z := by unfold numC; rw [if_neg (by omega), if_pos (by omega)]
          have md := m_putsRoman hSx (n := z) (by omega) (by omega)
          rw [← e9] at md
          refine go_iload (at_of tX10_writeNumber 5 11 rfl) rfl rfl ?_
          refine go_bipush (at_of tX10_writeNumber 5 12 rfl) (by decide) ?_
          refine go_icmp_ne (tgt := 181) (at_of tX10_writeNumber 5 13 rfl) (by decide) (fun h169 => ?_) (fun h169 => ?_)
          rotate_left
          · exfalso; omega
          refine go_iload (at_of tX10_writeNumber 6 2 rfl) rfl rfl ?_
          refine go_bipush (at_of tX10_writeNumber 6 3 rfl) (by decide) ?_
          refine go_icmp_ne (tgt := 197) (at_of tX10_writeNumber 6 4 rfl) (by decide) (fun h185 => ?_) (fun h185 => ?_)
          rotate_left
          · exfalso; omega
          refine go_aload_n (at_of tX10_writeNumber 6 9 rfl) rfl ?_
          refine go_iload (at_of tX10_writeNumber 6 10 rfl) rfl rfl ?_
          refine go_cV (md) lk_X10_254 rfl G_109 (at_of tX10_writeNumber 6 11 rfl) rfl (by decide) rfl (Nat.le_of_ble_eq_true rfl) rfl (by first | decide | exact ⟨Nat.zero_le _, Nat.zero_le _⟩) ?_
          refine go_iinc (at_of tX10_writeNumber 6 12 rfl) rfl (by unfold in32; omega) rfl rfl ?_
          refine go_goto (tgt := 75) (at_of tX10_writeNumber 6 13 rfl) (by decide) ?_
          exact nxt _
      have hdot : ∀ b, Go (fun _ => 0) 5 mX10_writeNumber b 154 [vA 109, vI p, vI 1, vI e, vI w, vI l, vI v, vI z, vI kd] [] σv (vI ((pmL σv (linF (kdM σ l) (ctF R e) (m + 1) v)).1 109 21), pmL σv (linF (kdM σ l) (ctF R e) (m + 1) v)) := by
        intro b
        rw [linF, pmL_app, pmL_app, ← hkdd, ← hz]
        by_cases hv : 0 < v
        · rw [if_pos hv]
          have e1 := @pmS_n σv 46
          refine go_iload (at_of tX10_writeNumber 5 6 rfl) rfl rfl ?_
          refine go_if_le (tgt := 165) (at_of tX10_writeNumber 5 7 rfl) (by decide) (fun h156 => ?_) (fun h156 => ?_)
          · exfalso; omega
          refine go_aload_n (at_of tX10_writeNumber 5 8 rfl) rfl ?_
          refine go_bipush (at_of tX10_writeNumber 5 9 rfl) (by decide) ?_
          refine go_cV (m_puts hS2 (by omega) (by omega)) lk_X10_247 rfl G_109 (at_of tX10_writeNumber 5 10 rfl) rfl (by decide) rfl (Nat.le_of_ble_eq_true rfl) rfl (by first | decide | exact ⟨Nat.zero_le _, Nat.zero_le _⟩) ?_
          exact hnum _ (pmS σv 46) hS2 (by rw [cN_pmS]; exact hNv) (by omega) (by omega) (fun j j0 j3 => by unfold pmS; rw [P1_ne (by omega), M1_ne (by omega)]; exact q4 j j0 j3) (by rw [← q5]; unfold kdM; funext w; unfold pmS; rw [P1_ne (by omega), P1_ne (by omega), M1_ne (by omega), M1_ne (by omega)])
        · rw [if_neg hv]
          refine go_iload (at_of tX10_writeNumber 5 6 rfl) rfl rfl ?_
          refine go_if_le (tgt := 165) (at_of tX10_writeNumber 5 7 rfl) (by decide) (fun h156 => ?_) (fun h156 => ?_)
          rotate_left
          · exfalso; omega
          exact hnum _ σv hS2 hNv (by omega) (by omega) q4 q5
      have hzz : ∀ b, Go (fun _ => 0) 5 mX10_writeNumber b 125 [vA 109, vI p, vI 1, vI e, vI w, vI l, vI v, vI z, v8] [] σv (vI ((pmL σv (linF (kdM σ l) (ctF R e) (m + 1) v)).1 109 21), pmL σv (linF (kdM σ l) (ctF R e) (m + 1) v)) := by
        intro b
        rcases hcase with ⟨c1, c2⟩ | ⟨c1, c2⟩
        · obtain rfl : kd = 100 := by omega
          refine go_aload_n (at_of tX10_writeNumber 4 6 rfl) rfl ?_
          refine go_getr (q := 117) fl_X10_41 rfl G_109 (by first | exact (hS _ _ rfl).trans rfl | exact (hS1 _ _ rfl).trans rfl | exact (hS2 _ _ rfl).trans rfl | exact (hS3 _ _ rfl).trans rfl | exact (hS4 _ _ rfl).trans rfl) (at_of tX10_writeNumber 4 7 rfl) ?_
          refine go_iload (at_of tX10_writeNumber 4 8 rfl) rfl rfl ?_
          refine go_bald G_117 (by omega) (by omega) (at_of tX10_writeNumber 4 9 rfl) ?_
          refine go_if_eq (tgt := 140) (at_of tX10_writeNumber 4 10 rfl) (by decide) (fun h132 => ?_) (fun h132 => ?_)
          · exfalso; omega
          refine go_bipush (at_of tX10_writeNumber 4 11 rfl) (by decide) ?_
          refine go_goto (tgt := 152) (at_of tX10_writeNumber 4 12 rfl) (by decide) ?_
          refine go_istore (at_of tX10_writeNumber 5 5 rfl) rfl rfl ?_
          exact hdot _
        · skip
          refine go_aload_n (at_of tX10_writeNumber 4 6 rfl) rfl ?_
          refine go_getr (q := 117) fl_X10_41 rfl G_109 (by first | exact (hS _ _ rfl).trans rfl | exact (hS1 _ _ rfl).trans rfl | exact (hS2 _ _ rfl).trans rfl | exact (hS3 _ _ rfl).trans rfl | exact (hS4 _ _ rfl).trans rfl) (at_of tX10_writeNumber 4 7 rfl) ?_
          refine go_iload (at_of tX10_writeNumber 4 8 rfl) rfl rfl ?_
          refine go_bald G_117 (by omega) (by omega) (at_of tX10_writeNumber 4 9 rfl) ?_
          refine go_if_eq (tgt := 140) (at_of tX10_writeNumber 4 10 rfl) (by decide) (fun h132 => ?_) (fun h132 => ?_)
          rotate_left
          · exfalso; omega
          refine go_aload_n (at_of tX10_writeNumber 4 13 rfl) rfl ?_
          refine go_getr (q := 116) fl_X10_37 rfl G_109 (by first | exact (hS _ _ rfl).trans rfl | exact (hS1 _ _ rfl).trans rfl | exact (hS2 _ _ rfl).trans rfl | exact (hS3 _ _ rfl).trans rfl | exact (hS4 _ _ rfl).trans rfl) (at_of tX10_writeNumber 4 14 rfl) ?_
          refine go_iconst (at_of tX10_writeNumber 4 15 rfl) (by unfold in32; omega) ?_
          refine go_iload (at_of tX10_writeNumber 5 0 rfl) rfl rfl ?_
          refine go_imul (at_of tX10_writeNumber 5 1 rfl) (by unfold in32; omega) ?_
          refine go_iload (at_of tX10_writeNumber 5 2 rfl) rfl rfl ?_
          refine go_iadd (at_of tX10_writeNumber 5 3 rfl) (by unfold in32; omega) ?_
          refine go_cald G_116 (by omega) (by omega) (at_of tX10_writeNumber 5 4 rfl) ?_
          rw [show σv.1 116 (3 * l + v).toNat = kd by rw [hkdd]; exact c2]
          refine go_istore (at_of tX10_writeNumber 5 5 rfl) rfl rfl ?_
          exact hdot _
      by_cases hve : v = R.1 8 e
      · have hzw : z = w := by rw [hz, hve, ← hw]; split <;> omega
        refine go_iload (at_of tX10_writeNumber 2 12 rfl) rfl rfl ?_
        refine go_aload_n (at_of tX10_writeNumber 2 13 rfl) rfl ?_
        refine go_iload_n (at_of tX10_writeNumber 2 14 rfl) rfl ?_
        refine go_iconst (at_of tX10_writeNumber 2 15 rfl) (by unfold in32; omega) ?_
        refine go_cV (m_at5 hS2 hNv (by omega) h47) lk_X10_106 rfl G_109 (at_of tX10_writeNumber 3 0 rfl) rfl (by decide) rfl (Nat.le_of_ble_eq_true rfl) rfl (by first | decide | exact ⟨Nat.zero_le _, Nat.zero_le _⟩) ?_
        refine go_icmp_gt (tgt := 209) (at_of tX10_writeNumber 3 1 rfl) (by decide) (fun h83 => ?_) (fun h83 => ?_)
        · exfalso; omega
        refine go_iload (at_of tX10_writeNumber 3 2 rfl) rfl rfl ?_
        refine go_aload_n (at_of tX10_writeNumber 3 3 rfl) rfl ?_
        refine go_iload_n (at_of tX10_writeNumber 3 4 rfl) rfl ?_
        refine go_iconst (at_of tX10_writeNumber 3 5 rfl) (by unfold in32; omega) ?_
        refine go_cV (m_at5 hS2 hNv (by omega) h47) lk_X10_106 rfl G_109 (at_of tX10_writeNumber 3 6 rfl) rfl (by decide) rfl (Nat.le_of_ble_eq_true rfl) rfl (by first | decide | exact ⟨Nat.zero_le _, Nat.zero_le _⟩) ?_
        refine go_icmp_ne (tgt := 102) (at_of tX10_writeNumber 3 7 rfl) (by decide) (fun h94 => ?_) (fun h94 => ?_)
        · exfalso; omega
        refine go_iload (at_of tX10_writeNumber 3 8 rfl) rfl rfl ?_
        refine go_goto (tgt := 123) (at_of tX10_writeNumber 3 9 rfl) (by decide) ?_
        refine go_istore (at_of tX10_writeNumber 4 5 rfl) rfl rfl ?_
        have y := hzz
        rw [hzw] at y
        exact y _
      · by_cases h00 : ctF R e v = 0
        · have hz0 : z = 1 := by rw [hz]; exact if_neg (by omega)
          refine go_iload (at_of tX10_writeNumber 2 12 rfl) rfl rfl ?_
          refine go_aload_n (at_of tX10_writeNumber 2 13 rfl) rfl ?_
          refine go_iload_n (at_of tX10_writeNumber 2 14 rfl) rfl ?_
          refine go_iconst (at_of tX10_writeNumber 2 15 rfl) (by unfold in32; omega) ?_
          refine go_cV (m_at5 hS2 hNv (by omega) h47) lk_X10_106 rfl G_109 (at_of tX10_writeNumber 3 0 rfl) rfl (by decide) rfl (Nat.le_of_ble_eq_true rfl) rfl (by first | decide | exact ⟨Nat.zero_le _, Nat.zero_le _⟩) ?_
          refine go_icmp_gt (tgt := 209) (at_of tX10_writeNumber 3 1 rfl) (by decide) (fun h83 => ?_) (fun h83 => ?_)
          · exfalso; omega
          refine go_iload (at_of tX10_writeNumber 3 2 rfl) rfl rfl ?_
          refine go_aload_n (at_of tX10_writeNumber 3 3 rfl) rfl ?_
          refine go_iload_n (at_of tX10_writeNumber 3 4 rfl) rfl ?_
          refine go_iconst (at_of tX10_writeNumber 3 5 rfl) (by unfold in32; omega) ?_
          refine go_cV (m_at5 hS2 hNv (by omega) h47) lk_X10_106 rfl G_109 (at_of tX10_writeNumber 3 6 rfl) rfl (by decide) rfl (Nat.le_of_ble_eq_true rfl) rfl (by first | decide | exact ⟨Nat.zero_le _, Nat.zero_le _⟩) ?_
          refine go_icmp_ne (tgt := 102) (at_of tX10_writeNumber 3 7 rfl) (by decide) (fun h94 => ?_) (fun h94 => ?_)
          rotate_left
          · exfalso; omega
          refine go_aload_n (at_of tX10_writeNumber 3 10 rfl) rfl ?_
          refine go_getr (q := 123) fl_X10_65 rfl G_109 (by first | exact (hS _ _ rfl).trans rfl | exact (hS1 _ _ rfl).trans rfl | exact (hS2 _ _ rfl).trans rfl | exact (hS3 _ _ rfl).trans rfl | exact (hS4 _ _ rfl).trans rfl) (at_of tX10_writeNumber 3 11 rfl) ?_
          refine go_iload (at_of tX10_writeNumber 3 12 rfl) rfl rfl ?_
          refine go_iald G_123 (by omega) (by omega) (at_of tX10_writeNumber 3 13 rfl) ?_
          refine go_if_ne (tgt := 116) (at_of tX10_writeNumber 3 14 rfl) (by decide) (fun h109 => ?_) (fun h109 => ?_)
          · exfalso; omega
          refine go_iconst (at_of tX10_writeNumber 3 15 rfl) (by unfold in32; omega) ?_
          refine go_goto (tgt := 123) (at_of tX10_writeNumber 4 0 rfl) (by decide) ?_
          refine go_istore (at_of tX10_writeNumber 4 5 rfl) rfl rfl ?_
          have y := hzz
          rw [hz0] at y
          exact y _
        · have hz0 : z = ctF R e v := by rw [hz]; split <;> omega
          refine go_iload (at_of tX10_writeNumber 2 12 rfl) rfl rfl ?_
          refine go_aload_n (at_of tX10_writeNumber 2 13 rfl) rfl ?_
          refine go_iload_n (at_of tX10_writeNumber 2 14 rfl) rfl ?_
          refine go_iconst (at_of tX10_writeNumber 2 15 rfl) (by unfold in32; omega) ?_
          refine go_cV (m_at5 hS2 hNv (by omega) h47) lk_X10_106 rfl G_109 (at_of tX10_writeNumber 3 0 rfl) rfl (by decide) rfl (Nat.le_of_ble_eq_true rfl) rfl (by first | decide | exact ⟨Nat.zero_le _, Nat.zero_le _⟩) ?_
          refine go_icmp_gt (tgt := 209) (at_of tX10_writeNumber 3 1 rfl) (by decide) (fun h83 => ?_) (fun h83 => ?_)
          · exfalso; omega
          refine go_iload (at_of tX10_writeNumber 3 2 rfl) rfl rfl ?_
          refine go_aload_n (at_of tX10_writeNumber 3 3 rfl) rfl ?_
          refine go_iload_n (at_of tX10_writeNumber 3 4 rfl) rfl ?_
          refine go_iconst (at_of tX10_writeNumber 3 5 rfl) (by unfold in32; omega) ?_
          refine go_cV (m_at5 hS2 hNv (by omega) h47) lk_X10_106 rfl G_109 (at_of tX10_writeNumber 3 6 rfl) rfl (by decide) rfl (Nat.le_of_ble_eq_true rfl) rfl (by first | decide | exact ⟨Nat.zero_le _, Nat.zero_le _⟩) ?_
          refine go_icmp_ne (tgt := 102) (at_of tX10_writeNumber 3 7 rfl) (by decide) (fun h94 => ?_) (fun h94 => ?_)
          rotate_left
          · exfalso; omega
          refine go_aload_n (at_of tX10_writeNumber 3 10 rfl) rfl ?_
          refine go_getr (q := 123) fl_X10_65 rfl G_109 (by first | exact (hS _ _ rfl).trans rfl | exact (hS1 _ _ rfl).trans rfl | exact (hS2 _ _ rfl).trans rfl | exact (hS3 _ _ rfl).trans rfl | exact (hS4 _ _ rfl).trans rfl) (at_of tX10_writeNumber 3 11 rfl) ?_
          refine go_iload (at_of tX10_writeNumber 3 12 rfl) rfl rfl ?_
          refine go_iald G_123 (by omega) (by omega) (at_of tX10_writeNumber 3 13 rfl) ?_
          refine go_if_ne (tgt := 116) (at_of tX10_writeNumber 3 14 rfl) (by decide) (fun h109 => ?_) (fun h109 => ?_)
          rotate_left
          · exfalso; omega
          refine go_aload_n (at_of tX10_writeNumber 4 1 rfl) rfl ?_
          refine go_getr (q := 123) fl_X10_65 rfl G_109 (by first | exact (hS _ _ rfl).trans rfl | exact (hS1 _ _ rfl).trans rfl | exact (hS2 _ _ rfl).trans rfl | exact (hS3 _ _ rfl).trans rfl | exact (hS4 _ _ rfl).trans rfl) (at_of tX10_writeNumber 4 2 rfl) ?_
          refine go_iload (at_of tX10_writeNumber 4 3 rfl) rfl rfl ?_
          refine go_iald G_123 (by omega) (by omega) (at_of tX10_writeNumber 4 4 rfl) ?_
          rw [q6, ← hz0]
          refine go_istore (at_of tX10_writeNumber 4 5 rfl) rfl rfl ?_
          exact hzz _
  have hln := linF_len (kd := kdM σ l) (c := ctF R e) (fun j => by have := hcl j; omega) (R.1 8 e + 1).toNat 0
  have hlen := @pmL_n (linF (kdM σ l) (ctF R e) (R.1 8 e + 1).toNat 0) (P1 (ctT (P1 σ 109 0 0) (ctF R e)) 109 21 0)
  rw [P1_eq, Int.zero_add] at hlen
  rw [← hlen]
  have hSc : Str (ctT (P1 σ 109 0 0) (ctF R e)).2.1 := hS
  have hNc : RepNr (cN (ctT (P1 σ 109 0 0) (ctF R e))) R := by rw [cN_ctT]; exact hN1
  refine con_of_go mfX10_writeNumber.1 trivial (Nat.le_of_ble_eq_true rfl) rfl (by decide) ?_
  show Go _ _ _ _ 0 [vA _, vI _, vT 9 0, vT 9 0, vT 9 0, vT 9 0, vT 9 0, vT 9 0, vT 9 0] [] _ _
  refine go_aload_n (at_of tX10_writeNumber 0 0 rfl) rfl ?_
  refine go_iload_n (at_of tX10_writeNumber 0 1 rfl) rfl ?_
  refine go_cV (m_isParagraph hS hN hL hSg) lk_X10_203 rfl G_109 (at_of tX10_writeNumber 0 2 rfl) rfl (by decide) rfl (Nat.le_of_ble_eq_true rfl) rfl (by first | decide | exact ⟨Nat.zero_le _, Nat.zero_le _⟩) ?_
  rw [hp1]
  refine go_istore_n (at_of tX10_writeNumber 0 3 rfl) rfl rfl ?_
  refine go_iload_n (at_of tX10_writeNumber 0 4 rfl) rfl ?_
  refine go_if_eq (tgt := 18) (at_of tX10_writeNumber 0 5 rfl) (by decide) (fun h7 => ?_) (fun h7 => ?_)
  · exfalso; omega
  refine go_aload_n (at_of tX10_writeNumber 0 6 rfl) rfl ?_
  refine go_iload_n (at_of tX10_writeNumber 0 7 rfl) rfl ?_
  refine go_cV (me) lk_X10_197 rfl G_109 (at_of tX10_writeNumber 0 8 rfl) rfl (by decide) rfl (Nat.le_of_ble_eq_true rfl) rfl (by first | decide | exact ⟨Nat.zero_le _, Nat.zero_le _⟩) ?_
  refine go_goto (tgt := 19) (at_of tX10_writeNumber 0 9 rfl) (by decide) ?_
  refine go_istore_n (at_of tX10_writeNumber 0 11 rfl) rfl rfl ?_
  refine go_aload_n (at_of tX10_writeNumber 0 12 rfl) rfl ?_
  refine go_iload_n (at_of tX10_writeNumber 0 13 rfl) rfl ?_
  refine go_if_ne (tgt := 29) (at_of tX10_writeNumber 0 14 rfl) (by decide) (fun h22 => ?_) (fun h22 => ?_)
  rotate_left
  · exfalso; omega
  refine go_aload_n (at_of tX10_writeNumber 1 1 rfl) rfl ?_
  refine go_iload_n (at_of tX10_writeNumber 1 2 rfl) rfl ?_
  refine go_iconst (at_of tX10_writeNumber 1 3 rfl) (by unfold in32; omega) ?_
  refine go_cV (m_at4 hS hN (by omega) h47) lk_X10_106 rfl G_109 (at_of tX10_writeNumber 1 4 rfl) rfl (by decide) rfl (Nat.le_of_ble_eq_true rfl) rfl (by first | decide | exact ⟨Nat.zero_le _, Nat.zero_le _⟩) ?_
  rw [← hl]
  refine go_iconst (at_of tX10_writeNumber 1 5 rfl) (by unfold in32; omega) ?_
  refine go_icmp_ne (tgt := 43) (at_of tX10_writeNumber 1 6 rfl) (by decide) (fun h36 => ?_) (fun h36 => ?_)
  rotate_left
  · exfalso; omega
  refine go_iconst (at_of tX10_writeNumber 1 9 rfl) (by unfold in32; omega) ?_
  refine go_cV (m_goesOn) lk_X10_141 rfl G_109 (at_of tX10_writeNumber 1 10 rfl) rfl (by decide) rfl (Nat.le_of_ble_eq_true rfl) rfl (by first | decide | exact ⟨Nat.zero_le _, Nat.zero_le _⟩) ?_
  refine go_if_ne (tgt := 52) (at_of tX10_writeNumber 1 11 rfl) (by decide) (fun hgo => ?_) (fun hgo => ?_)
  rotate_left
  · exfalso; exact absurd hgo (by rw [bI_t rfl]; decide)
  refine go_aload_n (at_of tX10_writeNumber 1 14 rfl) rfl ?_
  refine go_iload_n (at_of tX10_writeNumber 1 15 rfl) rfl ?_
  refine go_cV (m_counts hS1 hN1 hL hSg hE ⟨u1, u2⟩ u3 h47 (by omega)) lk_X10_238 rfl G_109 (at_of tX10_writeNumber 2 0 rfl) rfl (by decide) rfl (Nat.le_of_ble_eq_true rfl) rfl (by first | decide | exact ⟨Nat.zero_le _, Nat.zero_le _⟩) ?_
  rw [← hw]
  refine go_istore (at_of tX10_writeNumber 2 1 rfl) rfl rfl ?_
  refine go_aload_n (at_of tX10_writeNumber 2 2 rfl) rfl ?_
  refine go_iload_n (at_of tX10_writeNumber 2 3 rfl) rfl ?_
  refine go_iconst (at_of tX10_writeNumber 2 4 rfl) (by unfold in32; omega) ?_
  refine go_cV (m_at4 hSc hNc (by omega) h47) lk_X10_106 rfl G_109 (at_of tX10_writeNumber 2 5 rfl) rfl (by decide) rfl (Nat.le_of_ble_eq_true rfl) rfl (by first | decide | exact ⟨Nat.zero_le _, Nat.zero_le _⟩) ?_
  rw [← hl]
  refine go_istore (at_of tX10_writeNumber 2 6 rfl) rfl rfl ?_
  refine go_aload_n (at_of tX10_writeNumber 2 7 rfl) rfl ?_
  refine go_iconst (at_of tX10_writeNumber 2 8 rfl) (by unfold in32; omega) ?_
  refine go_put1 fp_X10_241 rfl (Or.inl rfl) G_109 (Or.inl rfl) (at_of tX10_writeNumber 2 9 rfl) ?_
  refine go_iconst (at_of tX10_writeNumber 2 10 rfl) (by unfold in32; omega) ?_
  refine go_istore (at_of tX10_writeNumber 2 11 rfl) rfl rfl ?_
  exact key (R.1 8 e + 1).toNat _ 0 _ _ _ hS (by rw [cN_P1]; exact hNc) (by omega) (by omega) (by rw [P1_eq]; omega) (by rw [P1_eq]; omega) (fun j j0 j3 => by rw [P1_ne (by omega)]; exact ctT_at ⟨j0, j3⟩) (by unfold kdM; funext w; rw [P1_ne (by omega), P1_ne (by omega), ctT_ne (by omega), ctT_ne (by omega), P1_ne (by omega), P1_ne (by omega)])
end Mod14
