/-! The law's start. -/
section Begin
def S00 : St := (fun _ _ => 0, fun _ _ => none, 0)
theorem law_start {xs : Nat → Int} {z : Int} (hT1 : ShTab) (hT2 : MnTab) (hz0 : 0 ≤ z) (hz2 : z ≤ 2560) : ∃ σf, GoA xs 10 mL_law (603072, 7215210) 0 [vT 6 z, vT 9 0, vT 9 0, vT 9 0, vT 9 0, vT 9 0, vT 9 0, vT 9 0, vT 9 0, vT 9 0] [] S00 (vI 1, σf) := by
  obtain ⟨F1, c1, ⟨e1, z1⟩, s1, o3, o4, o5⟩ := mk_office (σ := nxt S00) rfl (fun x j _ => ⟨rfl, rfl⟩) (fun j => rfl)
  obtain ⟨F2, c2, n2, st2, im2⟩ := mk_model (σ := nxt F1) (by show F1.2.2 + 1 = _; omega) z1.nxt (fun j => (z1 109 j (by omega)).1) s1
  have hS := sim_init e1 o3 o4 o5 n2 st2 im2
  have e2 : F2.2.2 = 133 := n2.1
  obtain ⟨σf, hL⟩ := law_loop (xs := xs) hT1 hT2 hz0 hz2 512 0 _ (by decide) (by decide) (by omega) hS
  refine ⟨σf, ?_⟩
  refine ga_newO (a := 0) (ci := 9) rfl G_0 (by decide) cl_L_8 ins_9 ini_9 ⟨by decide, by decide⟩ (at_of tL_law 0 0 rfl) ?_
  refine ga_dup (at_of tL_law 0 1 rfl) rfl ?_
  refine ga_cI c1 lk_L_160 rfl (at_of tL_law 0 2 rfl) rfl (by decide) rfl (Nat.le_of_ble_eq_true rfl) rfl ⟨by decide, by decide⟩ ?_
  refine go_astore_n (at_of tL_law 0 3 rfl) rfl rfl ?_
  refine go_newO (a := 109) (ci := 10) e1 G_109 (by decide) cl_L_161 ins_10 ini_10 ⟨by decide, by decide⟩ (at_of tL_law 0 4 rfl) ?_
  refine go_dup (at_of tL_law 0 5 rfl) rfl ?_
  refine go_cI c2 lk_L_163 rfl (at_of tL_law 0 6 rfl) rfl (by decide) rfl (Nat.le_of_ble_eq_true rfl) rfl ⟨by decide, by decide⟩ ?_
  refine go_astore_n (at_of tL_law 0 7 rfl) rfl rfl ?_
  refine go_iconst (at_of tL_law 0 8 rfl) (by unfold in32; omega) ?_
  refine go_newJ (a := 133) (n := 1) e2 G_133 (by decide) (inL 2090 (by decide +kernel) (by decide +kernel)) ⟨by decide, by decide⟩ (at_of tL_law 0 9 rfl) ?_
  refine go_astore_n (at_of tL_law 0 10 rfl) rfl rfl ?_
  refine go_iconst (at_of tL_law 0 11 rfl) (by unfold in32; omega) ?_
  refine go_newD (a := 134) (n := 1) (by show F2.2.2 + 1 = _; omega) G_134 (by decide) (inL 2091 (by decide +kernel) (by decide +kernel)) ⟨by decide, by decide⟩ (at_of tL_law 0 12 rfl) ?_
  refine go_astore (at_of tL_law 0 13 rfl) rfl rfl ?_
  refine go_iconst (at_of tL_law 0 14 rfl) (by unfold in32; omega) ?_
  refine go_istore (at_of tL_law 0 15 rfl) rfl rfl ?_
  exact hL _ _ _ _ _ ⟨by decide, by decide⟩
end Begin
