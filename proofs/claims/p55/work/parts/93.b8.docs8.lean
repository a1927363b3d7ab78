/-! A change judged, whole. -/
section Doc8
variable {σ σ' τ τ' : St} {d U A S : Nat} {us : List Nat} {vs : List Un} {ch : Int} {au sg : Int → Int}
theorem DocR.state (h : DocR σ d U A S us vs ch au sg) {c z : Int} (hc : 0 ≤ c ∧ c < ch) (hz : 0 ≤ z ∧ z < 65536) : DocR (M1 σ S c z) d U A S us vs ch au (updZ sg c z) ∧ OutD σ (M1 σ S c z) (fun x => x = S) := by
  obtain ⟨⟨n1, n2, n3, n4, n5, n6⟩, nu⟩ := h.ne
  obtain ⟨hT, ⟨u1, u2, u3, u4, u5⟩, hv, hw, c1, c2, c3⟩ := h
  have gam : ∀ x, GamD (M1 σ S c z) x = GamD σ x := fun x => GamD_M1 (by omega)
  refine ⟨⟨hT.same rfl gam, ⟨(M1_ne n3).trans u1, u2, u3, u4, fun u hu => ?_⟩, ?_, hw, (M1_ne n3).trans c1, c2, fun k h0 h1 => ?_⟩, OutD.m1⟩
  · obtain ⟨a, b, e⟩ := u5 u hu
    exact ⟨(gam _).trans a, b, e⟩
  · rw [← hv]
    exact List.map_congr_left fun u hu => uv_eq fun j => M1_ne (nu u hu).2.2.2
  · obtain ⟨⟨a, b⟩, e⟩ := c3 k h0 h1
    rw [M1_ne n6]
    unfold updZ
    by_cases hk : k = c
    · subst hk
      rw [M1_eq rfl, if_pos rfl]
      exact ⟨⟨a, rfl⟩, hz⟩
    · rw [M1_nj (by omega), if_neg hk]
      exact ⟨⟨a, b⟩, e⟩
theorem con_judgeD (h : DocR σ d U A S us vs ch au sg) {c : Int} {acc : Bool} (hc : 0 ≤ c ∧ c < ch) : ∃ τ us1, Con 1 mX11_judge 0 0 [vA d, vI c, vI (bI (acc = true))] σ (vI (cntC c vs), τ) ∧ DocR τ d U A S us1 (jD c acc vs) ch au (updZ sg c (if acc = true then 97 else 114)) ∧ (∀ u ∈ us1, u ∈ us) ∧ OutD σ τ (fun x => x = d ∨ x = U ∨ x = S ∨ x ∈ us) ∧ τ.2.2 = σ.2.2 := by
  obtain ⟨⟨⟨hgd, hgU, hgA, hgS⟩, ⟨hpU, hpA, hpS⟩, hge, ⟨hlt1, hlt2, hlt3, hlt4⟩⟩, ⟨hn, hn2, -, -, -⟩, -, -, hch, hch2, hcl⟩ := id h
  have hlv := h.len
  obtain ⟨τf, ⟨us1, f1, f2, f3, f4⟩, k2⟩ := lp_judge h (q := cntC c vs) (acc := acc) hc.1 us.length σ ⟨[], by rw [List.take_of_length_le (Nat.le_refl _), List.append_nil, ← hlv, List.take_of_length_le (Nat.le_refl _), List.drop_of_length_le (Nat.le_refl _), jD, List.append_nil]; exact h, fun u hu => (List.not_mem_nil hu).elim, OutD.refl, rfl⟩ (Nat.le_refl _)
  rw [List.take_zero, List.nil_append, List.take_zero, List.nil_append, List.drop_zero] at f1
  have hz : (0 : Int) ≤ (if acc = true then 97 else 114) ∧ (if acc = true then 97 else 114 : Int) < 65536 := by split <;> omega
  obtain ⟨d1, d2⟩ := f1.state hc hz
  refine ⟨_, us1, ?_, d1, f2, (f3.trans d2).mono (fun x _ hx => ?_), f4⟩
  · have hgd1 := hgd
    have hn1 := hn
    refine con_of_go mfX11_judge.1 trivial (Nat.le_of_ble_eq_true rfl) rfl (by decide) ?_
    show Go _ _ _ _ 0 [vA _, vI _, vI _, vT 9 0, vT 9 0, vT 9 0, vT 9 0] [] _ _
    refine go_aload_n (at_of tX11_judge 0 0 rfl) rfl ?_
    refine go_iload_n (at_of tX11_judge 0 1 rfl) rfl ?_
    refine go_cVD (con_unitsD h) lk_X11_55 rfl (by first | exact hgd1 | (simp (disch := omega) only [GamD_P1, GamD_M1, GamD_R1]; exact hgd1)) (at_of tX11_judge 0 2 rfl) rfl (by decide) rfl (Nat.le_of_ble_eq_true rfl) rfl (by first | decide | exact ⟨Nat.zero_le _, Nat.zero_le _⟩) ?_
    refine go_istore_n (at_of tX11_judge 0 3 rfl) rfl rfl ?_
    refine go_aload_n (at_of tX11_judge 0 4 rfl) rfl ?_
    refine go_getfD fl_X11_24 rfl (by first | exact hgd1 | (simp (disch := omega) only [GamD_P1, GamD_M1, GamD_R1]; exact hgd1)) (at_of tX11_judge 0 5 rfl) ?_
    rw [hn1]
    refine go_iconst (at_of tX11_judge 0 6 rfl) (by unfold in32; omega) ?_
    refine go_isub (at_of tX11_judge 0 7 rfl) (by unfold in32; omega) ?_
    refine go_istore (at_of tX11_judge 0 8 rfl) rfl rfl ?_
    refine k2 _ _ _ _ (fun b2 v5 v6 => ?_)
    obtain ⟨⟨⟨hgd2, hgU2, hgA2, hgS2⟩, ⟨hpU2, hpA2, hpS2⟩, -⟩, -⟩ := id f1
    by_cases ha : acc = true
    · rw [if_pos ha]
      refine go_aload_n (at_of tX11_judge 3 13 rfl) rfl ?_
      refine go_getrD (q := S) fl_X11_19 rfl hgd2 hpS2 (at_of tX11_judge 3 14 rfl) ?_
      refine go_iload_n (at_of tX11_judge 3 15 rfl) rfl ?_
      refine go_iload_n (at_of tX11_judge 4 0 rfl) rfl ?_
      refine go_if_eq (tgt := 142) (at_of tX11_judge 4 1 rfl) (by decide) (fun h134 => ?_) (fun h134 => ?_)
      · exfalso; exact absurd (bI_0.mp h134) (by rw [ha]; decide)
      refine go_bipush (at_of tX11_judge 4 2 rfl) (by decide) ?_
      refine go_goto (tgt := 144) (at_of tX11_judge 4 3 rfl) (by decide) ?_
      refine go_cast1D hgS2 (by omega) (by omega) (by omega) (at_of tX11_judge 4 5 rfl) ?_
      refine go_iload_n (at_of tX11_judge 4 6 rfl) rfl ?_
      first | exact go_reti (at_of tX11_judge 4 7 rfl) rfl | exact go_reti (at_of tX11_judge 4 7 rfl) (le_i (by omega)) | exact go_reti (at_of tX11_judge 4 7 rfl) (le_i (by first | exact bI_t (by omega) | exact bI_f (by omega)))
    · rw [if_neg ha]
      refine go_aload_n (at_of tX11_judge 3 13 rfl) rfl ?_
      refine go_getrD (q := S) fl_X11_19 rfl hgd2 hpS2 (at_of tX11_judge 3 14 rfl) ?_
      refine go_iload_n (at_of tX11_judge 3 15 rfl) rfl ?_
      refine go_iload_n (at_of tX11_judge 4 0 rfl) rfl ?_
      refine go_if_eq (tgt := 142) (at_of tX11_judge 4 1 rfl) (by decide) (fun h134 => ?_) (fun h134 => ?_)
      rotate_left
      · exfalso; exact ha (bI_1.mp h134)
      refine go_bipush (at_of tX11_judge 4 4 rfl) (by decide) ?_
      refine go_cast1D hgS2 (by omega) (by omega) (by omega) (at_of tX11_judge 4 5 rfl) ?_
      refine go_iload_n (at_of tX11_judge 4 6 rfl) rfl ?_
      first | exact go_reti (at_of tX11_judge 4 7 rfl) rfl | exact go_reti (at_of tX11_judge 4 7 rfl) (le_i (by omega)) | exact go_reti (at_of tX11_judge 4 7 rfl) (le_i (by first | exact bI_t (by omega) | exact bI_f (by omega)))
  · rcases hx with (hx | hx | hx) | hx
    · exact Or.inl hx
    · exact Or.inr (Or.inl hx)
    · exact Or.inr (Or.inr (Or.inr hx))
    · exact Or.inr (Or.inr (Or.inl hx))
end Doc8
