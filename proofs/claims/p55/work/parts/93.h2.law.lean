/-! The law. -/
section Law
variable {σ : St} {F : Nat → DocF} {A : PastD} {xs : Nat → Int}
theorem lp_law (hLet : LetR) {z : Int} : ∀ (m : Nat) (e : Nat) (σ : St) (F : Nat → DocF) (A : PastD), Sim σ F A e → e + m = 40 → ∃ σ2 F2 A2, Sim σ2 F2 A2 40 ∧ ∀ (b : Nat × Nat) (out : MV × St), 405 * m + 1 ≤ b.1 → 2337 * m + 200 ≤ b.2 → (∀ b2 : Nat × Nat, 1 ≤ b2.1 → 200 ≤ b2.2 → Go xs 9 mL_law b2 66 [vT 6 z, vA 0, vA 109, vI 1, vI 40] [] σ2 out) → Go xs 9 mL_law b 21 [vT 6 z, vA 0, vA 109, vI 1, vI (e : Int)] [] σ out := by
  intro m
  induction m with
  | zero =>
    intro e σ F A hS he
    have ee : e = 40 := by omega
    subst ee
    refine ⟨σ, F, A, hS, fun b out hb1 hb2 K => ?_⟩
    refine go_iload (at_of tL_law 0 12 rfl) rfl rfl ?_
    refine go_bipush (at_of tL_law 0 13 rfl) (by decide) ?_
    refine go_icmp_ge (tgt := 66) (at_of tL_law 0 14 rfl) (by decide) (fun h25 => ?_) (fun h25 => ?_)
    rotate_left
    · exfalso; omega
    exact K _ (by omega) (by omega)
  | succ m ih =>
    intro e σ F A hS he
    obtain ⟨σa, Fa, Aa, a1, a2⟩ := con_acts hLet hS (by omega) (v := if (e : Int) < z then xs (e : Int).toNat else cellV e)
    obtain ⟨σb, b1, b2⟩ := con_agrees a2
    obtain ⟨σ2, F2, A2, r1, r2⟩ := ih (e + 1) σb Fa Aa b2 (by omega)
    refine ⟨σ2, F2, A2, r1, fun b out hb1 hb2 K => ?_⟩
    refine go_iload (at_of tL_law 0 12 rfl) rfl rfl ?_
    refine go_bipush (at_of tL_law 0 13 rfl) (by decide) ?_
    refine go_icmp_ge (tgt := 66) (at_of tL_law 0 14 rfl) (by decide) (fun h25 => ?_) (fun h25 => ?_)
    · exfalso; omega
    refine go_iload_n (at_of tL_law 0 15 rfl) rfl ?_
    refine go_if_eq (tgt := 66) (at_of tL_law 1 0 rfl) (by decide) (fun h29 => ?_) (fun h29 => ?_)
    · exfalso; omega
    refine go_aload_n (at_of tL_law 1 1 rfl) rfl ?_
    refine go_aload_n (at_of tL_law 1 2 rfl) rfl ?_
    refine go_aload_s (at_of tL_law 1 3 rfl) rfl ?_
    refine go_iload (at_of tL_law 1 4 rfl) rfl rfl ?_
    refine go_cSS (con_cellS (z := z) (i := (e : Int)) ⟨by omega, by omega⟩) lk_L_192 rfl (at_of tL_law 1 5 rfl) (by decide) rfl (Nat.le_of_ble_eq_true rfl) ?_
    refine go_cS (a1) lk_L_196 rfl (at_of tL_law 1 6 rfl) rfl (by decide) rfl (Nat.le_of_ble_eq_true rfl) rfl (⟨by first | omega | (dsimp only; omega) | exact Nat.le_of_ble_eq_true rfl, by first | omega | (dsimp only; omega) | exact Nat.le_of_ble_eq_true rfl⟩) ?_
    refine go_if_eq (tgt := 58) (at_of tL_law 1 7 rfl) (by decide) (fun h43 => ?_) (fun h43 => ?_)
    · exfalso; omega
    refine go_aload_n (at_of tL_law 1 8 rfl) rfl ?_
    refine go_aload_n (at_of tL_law 1 9 rfl) rfl ?_
    refine go_cS (b1) lk_L_199 rfl (at_of tL_law 1 10 rfl) rfl (by decide) rfl (Nat.le_of_ble_eq_true rfl) rfl (⟨by first | omega | (dsimp only; omega) | exact Nat.le_of_ble_eq_true rfl, by first | omega | (dsimp only; omega) | exact Nat.le_of_ble_eq_true rfl⟩) ?_
    refine go_if_eq (tgt := 58) (at_of tL_law 1 11 rfl) (by decide) (fun h51 => ?_) (fun h51 => ?_)
    · exfalso; omega
    refine go_iconst (at_of tL_law 1 12 rfl) (by unfold in32; omega) ?_
    refine go_goto (tgt := 59) (at_of tL_law 1 13 rfl) (by decide) ?_
    refine go_istore_n (at_of tL_law 1 15 rfl) rfl rfl ?_
    refine go_iinc (at_of tL_law 2 0 rfl) rfl (by unfold in32; omega) rfl rfl ?_
    refine go_goto (tgt := 21) (at_of tL_law 2 1 rfl) (by decide) ?_
    exact r2 _ _ (by first | omega | (dsimp only; omega)) (by first | omega | (dsimp only; omega)) K
theorem law_end {z : Int} {k : Nat} (h : Sim σ F A k) : ∃ σ2, ∀ b : Nat × Nat, 1 ≤ b.1 → 200 ≤ b.2 → Go xs 9 mL_law b 66 [vT 6 z, vA 0, vA 109, vI 1, vI 40] [] σ (vI 1, σ2) := by
  by_cases q : lowF (if (40 : Int) < z then xs (40 : Int).toNat else cellV 40) 2 = 0
  · obtain ⟨σ2, c⟩ := con_isLeft h (acc := true)
    refine ⟨σ2, fun b hb1 hb2 => ?_⟩
    refine go_iload_n (at_of tL_law 2 2 rfl) rfl ?_
    refine go_if_eq (tgt := 100) (at_of tL_law 2 3 rfl) (by decide) (fun h67 => ?_) (fun h67 => ?_)
    · exfalso; omega
    refine go_aload_n (at_of tL_law 2 4 rfl) rfl ?_
    refine go_aload_n (at_of tL_law 2 5 rfl) rfl ?_
    refine go_aload_s (at_of tL_law 2 6 rfl) rfl ?_
    refine go_bipush (at_of tL_law 2 7 rfl) (by decide) ?_
    refine go_cSS (con_cellS (z := z) (i := 40) ⟨by decide, by decide⟩) lk_L_192 rfl (at_of tL_law 2 8 rfl) (by decide) rfl (Nat.le_of_ble_eq_true rfl) ?_
    refine go_iconst (at_of tL_law 2 9 rfl) (by unfold in32; omega) ?_
    refine go_cS (con_low (by omega)) lk_L_40 rfl (at_of tL_law 2 10 rfl) rfl (by decide) rfl (Nat.le_of_ble_eq_true rfl) rfl (⟨by first | omega | (dsimp only; omega) | exact Nat.le_of_ble_eq_true rfl, by first | omega | (dsimp only; omega) | exact Nat.le_of_ble_eq_true rfl⟩) ?_
    refine go_if_ne (tgt := 89) (at_of tL_law 2 11 rfl) (by decide) (fun h82 => ?_) (fun h82 => ?_)
    · exfalso; omega
    refine go_iconst (at_of tL_law 2 12 rfl) (by unfold in32; omega) ?_
    refine go_goto (tgt := 90) (at_of tL_law 2 13 rfl) (by decide) ?_
    refine go_cS (c) lk_L_202 rfl (at_of tL_law 2 15 rfl) rfl (by decide) rfl (Nat.le_of_ble_eq_true rfl) rfl (⟨by first | omega | (dsimp only; omega) | exact Nat.le_of_ble_eq_true rfl, by first | omega | (dsimp only; omega) | exact Nat.le_of_ble_eq_true rfl⟩) ?_
    refine go_if_eq (tgt := 100) (at_of tL_law 3 0 rfl) (by decide) (fun h93 => ?_) (fun h93 => ?_)
    · exfalso; omega
    refine go_iconst (at_of tL_law 3 1 rfl) (by unfold in32; omega) ?_
    refine go_goto (tgt := 101) (at_of tL_law 3 2 rfl) (by decide) ?_
    first | exact go_reti (at_of tL_law 3 4 rfl) rfl | exact go_reti (at_of tL_law 3 4 rfl) (le_i (by omega)) | exact go_reti (at_of tL_law 3 4 rfl) (le_i (by first | exact bI_t (by omega) | exact bI_f (by omega)))
  · obtain ⟨σ2, c⟩ := con_isLeft h (acc := false)
    refine ⟨σ2, fun b hb1 hb2 => ?_⟩
    refine go_iload_n (at_of tL_law 2 2 rfl) rfl ?_
    refine go_if_eq (tgt := 100) (at_of tL_law 2 3 rfl) (by decide) (fun h67 => ?_) (fun h67 => ?_)
    · exfalso; omega
    refine go_aload_n (at_of tL_law 2 4 rfl) rfl ?_
    refine go_aload_n (at_of tL_law 2 5 rfl) rfl ?_
    refine go_aload_s (at_of tL_law 2 6 rfl) rfl ?_
    refine go_bipush (at_of tL_law 2 7 rfl) (by decide) ?_
    refine go_cSS (con_cellS (z := z) (i := 40) ⟨by decide, by decide⟩) lk_L_192 rfl (at_of tL_law 2 8 rfl) (by decide) rfl (Nat.le_of_ble_eq_true rfl) ?_
    refine go_iconst (at_of tL_law 2 9 rfl) (by unfold in32; omega) ?_
    refine go_cS (con_low (by omega)) lk_L_40 rfl (at_of tL_law 2 10 rfl) rfl (by decide) rfl (Nat.le_of_ble_eq_true rfl) rfl (⟨by first | omega | (dsimp only; omega) | exact Nat.le_of_ble_eq_true rfl, by first | omega | (dsimp only; omega) | exact Nat.le_of_ble_eq_true rfl⟩) ?_
    refine go_if_ne (tgt := 89) (at_of tL_law 2 11 rfl) (by decide) (fun h82 => ?_) (fun h82 => ?_)
    rotate_left
    · exfalso; omega
    refine go_iconst (at_of tL_law 2 14 rfl) (by unfold in32; omega) ?_
    refine go_cS (c) lk_L_202 rfl (at_of tL_law 2 15 rfl) rfl (by decide) rfl (Nat.le_of_ble_eq_true rfl) rfl (⟨by first | omega | (dsimp only; omega) | exact Nat.le_of_ble_eq_true rfl, by first | omega | (dsimp only; omega) | exact Nat.le_of_ble_eq_true rfl⟩) ?_
    refine go_if_eq (tgt := 100) (at_of tL_law 3 0 rfl) (by decide) (fun h93 => ?_) (fun h93 => ?_)
    · exfalso; omega
    refine go_iconst (at_of tL_law 3 1 rfl) (by unfold in32; omega) ?_
    refine go_goto (tgt := 101) (at_of tL_law 3 2 rfl) (by decide) ?_
    first | exact go_reti (at_of tL_law 3 4 rfl) rfl | exact go_reti (at_of tL_law 3 4 rfl) (le_i (by omega)) | exact go_reti (at_of tL_law 3 4 rfl) (le_i (by first | exact bI_t (by omega) | exact bI_f (by omega)))
def S00 : St := (fun _ _ => 0, fun _ _ => none, 0)
theorem PpL_0 : PpL D0 := ⟨PpI_0, fun j => ⟨rfl, rfl⟩, fun c h0 h1 => by
  have h2 : c < 0 := h1
  omega⟩
theorem str_of {P : Nat → Nat → Option Nat} (h : ∀ e ∈ strL, e.1 < 109 → P e.1 e.2.1 = some e.2.2) : Str P := by
  intro a k hk
  have h9 := strF_lt hk
  unfold strF at hk ⊢
  cases e : strL.find? (fun e => e.1 == a && e.2.1 == k) with
  | none => rw [e] at hk; exact absurd hk (by decide)
  | some x =>
    have hm := List.mem_of_find?_eq_some e
    have hp := List.find?_some e
    have hp : (x.1 == a && x.2.1 == k) = true := hp
    rw [Bool.and_eq_true] at hp
    have e1 : x.1 = a := eq_of_beq hp.1
    have e2 : x.2.1 = k := eq_of_beq hp.2
    have h3 := h x hm (by omega)
    rw [e1, e2] at h3
    exact h3
/-- both at the start -/
theorem sim_start {σ1 : St} (e1 : σ1.2.2 = 109) (z1 : Zr σ1) (s1 : ∀ e ∈ strL, e.1 < 109 → σ1.2.1 e.1 e.2.1 = some e.2.2) (o3 : ∀ j, j < 7 → σ1.2.1 2 j = some (3 + 10 * j)) (o4 : RepP σ1 0 D0 ∧ σ1.1 1 1 = 0 ∧ σ1.1 1 2 = 0 ∧ σ1.1 0 0 = 1) (o5 : ∀ x j, 83 ≤ x → x < 108 → σ1.1 x j = iv x j) : (GamD (nxD σ1 20 0) 109 = (20, 0) ∧ (nxD σ1 20 0).2.2 = 110) ∧ Sim (mkK (nxD σ1 20 0)) (fun _ => f0) (fun _ => D0, 0, 0) 0 := by
  have hg : GamD (nxD σ1 20 0) 109 = (20, 0) := by
    have h := GamD_nxD (σ := σ1) (t := 20) (n := 0) (by decide) (gam99 (by omega))
    rw [e1] at h
    exact h
  have hc : (nxD σ1 20 0).2.2 = 110 := by show σ1.2.2 + 1 = 110; omega
  obtain ⟨k1, k2, k3, k4⟩ := mkK_R hc hg (fun x j hj hx => (nxD_at (Or.inr hj)).trans (z1 x j (by omega)).1)
  have lo : Lo σ1 (mkK (nxD σ1 20 0)) := (OutD.nx.trans k3).lo (by omega) (fun x hx => by rcases hx with hx | hx; exact hx.elim; omega)
  have hO : Off σ1 (fun _ => D0, 0, 0) := by
    refine ⟨str_of s1, ⟨fun j => j, ⟨fun j hj => ⟨o3 j hj, hj⟩, fun i j _ _ e => e⟩, o4.2.1, o4.2.2.1, by decide, fun j hj => ?_⟩, ?_, Or.inr o4.2.2.2⟩
    · have hj2 : j ≤ 0 := hj
      have hj0 : j = 0 := by omega
      subst hj0
      exact o4.1
    · unfold WH
      rw [o5 98 0 (by decide) (by decide), o5 98 1 (by decide) (by decide)]
      decide
  refine ⟨⟨hg, hc⟩, hO.lo lo, k1, ?_, fun j hj => ⟨PpL_0, by show (0 : Int) ≤ ((0 : Nat) : Int); decide⟩⟩
  rw [k2, (lo 0 (by decide)).1, o4.2.2.2]
theorem law_start (hLet : LetR) {z : Int} : ∃ σf, Go xs 9 mL_law (633341, 7201600) 0 [vT 6 z, vT 9 0, vT 9 0, vT 9 0, vT 9 0] [] S00 (vI 1, σf) := by
  obtain ⟨σ1, c1, ⟨e1, z1⟩, s1, o3, o4, o5⟩ := mk_office (σ := nxt S00) rfl (fun x j _ => ⟨rfl, rfl⟩) (fun j => rfl)
  obtain ⟨⟨hg, hc⟩, hS⟩ := sim_start e1 z1 s1 o3 o4 o5
  obtain ⟨σ2, F2, A2, r1, r2⟩ := lp_law (xs := xs) hLet (z := z) 40 0 _ _ _ hS rfl
  obtain ⟨σf, q⟩ := law_end (xs := xs) (z := z) r1
  refine ⟨σf, ?_⟩
  refine go_newO (a := 0) (ci := 9) rfl G_0 (by decide) cl_L_10 ins_9 ini_9 ⟨by decide, by decide⟩ (at_of tL_law 0 0 rfl) ?_
  refine go_dup (at_of tL_law 0 1 rfl) rfl ?_
  refine go_cI (c1) lk_L_190 rfl (at_of tL_law 0 2 rfl) rfl (by decide) rfl (Nat.le_of_ble_eq_true rfl) rfl (⟨by first | omega | (dsimp only; omega) | exact Nat.le_of_ble_eq_true rfl, by first | omega | (dsimp only; omega) | exact Nat.le_of_ble_eq_true rfl⟩) ?_
  refine go_astore_n (at_of tL_law 0 3 rfl) rfl rfl ?_
  refine go_newOD (a := 109) (ci := 10) e1 (by omega) (by decide) cl_L_16 ins_10 ini_10 ⟨by decide, by decide⟩ (at_of tL_law 0 4 rfl) ?_
  refine go_dup (at_of tL_law 0 5 rfl) rfl ?_
  refine go_cJ (con_initK hc hg) lk_L_191 rfl (at_of tL_law 0 6 rfl) rfl (by decide) rfl (Nat.le_of_ble_eq_true rfl) rfl (⟨by first | omega | (dsimp only; omega) | exact Nat.le_of_ble_eq_true rfl, by first | omega | (dsimp only; omega) | exact Nat.le_of_ble_eq_true rfl⟩) ?_
  refine go_astore_n (at_of tL_law 0 7 rfl) rfl rfl ?_
  refine go_iconst (at_of tL_law 0 8 rfl) (by unfold in32; omega) ?_
  refine go_istore_n (at_of tL_law 0 9 rfl) rfl rfl ?_
  refine go_iconst (at_of tL_law 0 10 rfl) (by unfold in32; omega) ?_
  refine go_istore (at_of tL_law 0 11 rfl) rfl rfl ?_
  exact r2 _ _ (by decide) (by decide) (fun b2 h1 h2 => q b2 h1 h2)
end Law
