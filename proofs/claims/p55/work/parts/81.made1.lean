/-! Rows, logs and papers are made. -/
section Made1
variable {σ : St} {k : Nat}
def PR (σ : St) (a j q : Nat) : St := (σ.1, updP σ.2.1 a j (some q), σ.2.2)
/-- nothing is where nothing was made yet -/
def Zr (σ : St) : Prop := ∀ x j, σ.2.2 ≤ x → σ.1 x j = 0 ∧ σ.2.1 x j = none
def R0 : RowD := (fun w _ => if w = 0 then 47 else if w = 1 ∨ w = 2 ∨ w = 3 ∨ w = 4 ∨ w = 7 then -1 else 0, 0, fun _ => -1, fun _ => -1)
def D0 : PapD := (R0, (0, fun _ => 0, fun _ => 0, fun _ => 0), fun _ => 0)
/-- from the object a on, up to e, all is new -/
def Nw (a e : Nat) (σ σ' : St) : Prop := σ'.2.2 = e ∧ (∀ x j, x < a → σ'.1 x j = σ.1 x j ∧ σ'.2.1 x j = σ.2.1 x j) ∧ Zr σ'
theorem objw : Cond.instanceMethod Lib.objectInit ∈ L0 ∧ Cond.code Lib.objectInit ⟨#[0xb1]⟩ 1 none ∈ L0 := ⟨inL 64 (by decide +kernel) (by decide +kernel), inL 65 (by decide +kernel) (by decide +kernel)⟩
theorem go_objInit {xs : Nat → Int} {d : Nat} {m : MI} {b : Nat × Nat} {pc ix a : Nat} {ls st : List MV} {out : MV × St} (hl : Cond.methodLink m.1.cls ix Lib.objectInit ∈ L0) (hd : At m pc (.invokespecial ix) 3) (hsum : (st.map cat).sum ≤ 8) (K : Go xs d m b (pc + 3) ls st σ out) : Go xs d m b pc ls (vA a :: st) σ out := by
  intro p l e R s mid args below meth c Q dC dI dA N0 bs ρ0 c0 X hS hF H locs cells slots ρ LS hD hL ho
  obtain ⟨hx, hb, hml, hown, hts, hlk, hst, hK, hN, hXW, hZW, hRf, hRl, hnm, htb, hX⟩ := id hS
  have kk := K p l e R s mid args below meth c Q dC dI dA N0 bs ρ0 c0 X hS hF H locs cells slots ρ LS hD hL (okt ho)
  refine W.objInit hx hb hown (hts _ hl) (hts _ objw.1) (hts _ objw.2) (g := F0 mid pc LS ((vA a :: st).map (vr ρ bs))) rfl (by show LS.size = _; rw [hml]; exact hL.size) rfl hd (by omega) ?_ kk
  show 2 * 0 + ((st.map (vr ρ bs)).map fun v => v.category).sum + 12 ≤ _
  rw [cats]
  omega
theorem PR_f {σ : St} {a j q x i : Nat} : (PR σ a j q).2.1 x i = if x = a ∧ i = j then some q else σ.2.1 x i := rfl
theorem PR_1 {σ : St} {a j q : Nat} : (PR σ a j q).1 = σ.1 := rfl
theorem nxt_1 {σ : St} : (nxt σ).1 = σ.1 := rfl
theorem nxt_21 {σ : St} : (nxt σ).2.1 = σ.2.1 := rfl
theorem P1_f {σ : St} {a j x i : Nat} {z : Int} : (P1 σ a j z).1 x i = if x = a ∧ i = j then z else σ.1 x i := rfl
theorem M1_f {σ : St} {a x i : Nat} {j z : Int} : (M1 σ a j z).1 x i = if x = a ∧ i = j.toNat then z else σ.1 x i := rfl
theorem mk_row (hk : k < 8) (hc : σ.2.2 = 5 + 10 * k) (hz : Zr σ) (h0 : ∀ j, σ.1 (4 + 10 * k) j = 0) : ∃ σ', Con 0 mX7_init 3 2223 [vA (4 + 10 * k)] σ (vT 8 0, σ') ∧ Nw (4 + 10 * k) (8 + 10 * k) σ σ' ∧ (σ'.2.1 (4 + 10 * k) 0 = some (5 + 10 * k) ∧ σ'.2.1 (4 + 10 * k) 1 = some (6 + 10 * k) ∧ σ'.2.1 (4 + 10 * k) 2 = some (7 + 10 * k)) ∧ RepR σ' k R0 := by
  obtain ⟨g1, g2, g3, g4, g5, g6, g7, g8, g9, g10⟩ := gamk k hk
  have z5 : ∀ j, σ.1 (5 + 10 * k) j = 0 := fun j => (hz _ j (by omega)).1
  refine ⟨(M1 (M1 (M1 (M1 (M1 (M1 (M1 (M1 (M1 (M1 (M1 (M1 (M1 (M1 (M1 (M1 (M1 (M1 (P1 (PR (nxt (PR (nxt (PR (nxt σ) (4 + 10 * k) 0 (5 + 10 * k))) (4 + 10 * k) 1 (6 + 10 * k))) (4 + 10 * k) 2 (7 + 10 * k)) (4 + 10 * k) 3 0) (6 + 10 * k) 0 (-1)) (7 + 10 * k) 0 (-1)) (6 + 10 * k) (0 + 1) (-1)) (7 + 10 * k) (0 + 1) (-1)) (6 + 10 * k) ((0 + 1) + 1) (-1)) (7 + 10 * k) ((0 + 1) + 1) (-1)) (6 + 10 * k) (((0 + 1) + 1) + 1) (-1)) (7 + 10 * k) (((0 + 1) + 1) + 1) (-1)) (6 + 10 * k) ((((0 + 1) + 1) + 1) + 1) (-1)) (7 + 10 * k) ((((0 + 1) + 1) + 1) + 1) (-1)) (6 + 10 * k) (((((0 + 1) + 1) + 1) + 1) + 1) (-1)) (7 + 10 * k) (((((0 + 1) + 1) + 1) + 1) + 1) (-1)) (5 + 10 * k) 0 47) (5 + 10 * k) 201 (-1)) (5 + 10 * k) 402 (-1)) (5 + 10 * k) 603 (-1)) (5 + 10 * k) 804 (-1)) (5 + 10 * k) 1407 (-1)), ?_, ⟨?_, fun x j hx => ⟨?_, ?_⟩, fun x j hx => ⟨?_, ?_⟩⟩, ⟨?_, ?_, ?_⟩, ?_, fun w i w0 w1 i0 i1 => ?_, fun b b0 b1 => ⟨?_, ?_⟩, ?_⟩
  · refine con_of_go mfX7_init.1 trivial (Nat.le_of_ble_eq_true rfl) rfl (by decide) ?_
    show Go _ _ _ _ 0 [vA _, vT 9 0] [] _ _
    refine go_aload_n (at_of tX7_init 0 0 rfl) rfl ?_
    refine go_objInit (inL 84 (by decide +kernel) (by decide +kernel)) (at_of tX7_init 0 1 rfl) (Nat.le_of_ble_eq_true rfl) ?_
    refine go_aload_n (at_of tX7_init 0 2 rfl) rfl ?_
    refine go_sipush (at_of tX7_init 0 3 rfl) (by decide) ?_
    refine go_newI (a := (5 + 10 * k)) (n := 2211) (by show σ.2.2 = _; omega) g3 (by decide) (inL 98 (by decide +kernel) (by decide +kernel)) ⟨by decide, by decide⟩ (at_of tX7_init 0 4 rfl) ?_
    refine go_putr fp_X7_11 rfl (Or.inr ⟨rfl, rfl, rfl⟩) g2 (at_of tX7_init 0 5 rfl) ?_
    refine go_aload_n (at_of tX7_init 0 6 rfl) rfl ?_
    refine go_bipush (at_of tX7_init 0 7 rfl) (by decide) ?_
    refine go_newI (a := (6 + 10 * k)) (n := 6) (by show σ.2.2 + 1 = _; omega) g4 (by decide) (inL 98 (by decide +kernel) (by decide +kernel)) ⟨by decide, by decide⟩ (at_of tX7_init 0 8 rfl) ?_
    refine go_putr fp_X7_15 rfl (Or.inr ⟨rfl, rfl, rfl⟩) g2 (at_of tX7_init 0 9 rfl) ?_
    refine go_aload_n (at_of tX7_init 0 10 rfl) rfl ?_
    refine go_bipush (at_of tX7_init 0 11 rfl) (by decide) ?_
    refine go_newI (a := (7 + 10 * k)) (n := 6) (by show σ.2.2 + 1 + 1 = _; omega) g5 (by decide) (inL 98 (by decide +kernel) (by decide +kernel)) ⟨by decide, by decide⟩ (at_of tX7_init 0 12 rfl) ?_
    refine go_putr fp_X7_18 rfl (Or.inr ⟨rfl, rfl, rfl⟩) g2 (at_of tX7_init 0 13 rfl) ?_
    refine go_aload_n (at_of tX7_init 0 14 rfl) rfl ?_
    refine go_iconst (at_of tX7_init 0 15 rfl) (by unfold in32; omega) ?_
    refine go_put1 fp_X7_21 rfl (Or.inl rfl) g2 (Or.inl rfl) (at_of tX7_init 1 0 rfl) ?_
    refine go_iconst (at_of tX7_init 1 1 rfl) (by unfold in32; omega) ?_
    refine go_istore_n (at_of tX7_init 1 2 rfl) rfl rfl ?_
    refine go_iload_n (at_of tX7_init 1 3 rfl) rfl ?_
    refine go_bipush (at_of tX7_init 1 4 rfl) (by decide) ?_
    refine go_icmp_ge (tgt := 62) (at_of tX7_init 1 5 rfl) (by decide) (fun hz_ => ?_) (fun hz_ => ?_)
    · exfalso; omega
    clear hz_
    refine go_aload_n (at_of tX7_init 1 6 rfl) rfl ?_
    refine go_getr (q := (6 + 10 * k)) fl_X7_15 rfl g2 (by simp [PR, nxt, P1, M1, updP, upd2]) (at_of tX7_init 1 7 rfl) ?_
    refine go_iload_n (at_of tX7_init 1 8 rfl) rfl ?_
    refine go_iconst (at_of tX7_init 1 9 rfl) (by unfold in32; omega) ?_
    refine go_iast1 g4 (by omega) (by omega) (at_of tX7_init 1 10 rfl) ?_
    refine go_aload_n (at_of tX7_init 1 11 rfl) rfl ?_
    refine go_getr (q := (7 + 10 * k)) fl_X7_18 rfl g2 (by simp [PR, nxt, P1, M1, updP, upd2]) (at_of tX7_init 1 12 rfl) ?_
    refine go_iload_n (at_of tX7_init 1 13 rfl) rfl ?_
    refine go_iconst (at_of tX7_init 1 14 rfl) (by unfold in32; omega) ?_
    refine go_iast1 g5 (by omega) (by omega) (at_of tX7_init 1 15 rfl) ?_
    refine go_iinc (at_of tX7_init 2 0 rfl) rfl (by unfold in32; omega) rfl rfl ?_
    refine go_goto (tgt := 36) (at_of tX7_init 2 1 rfl) (by decide) ?_
    refine go_iload_n (at_of tX7_init 1 3 rfl) rfl ?_
    refine go_bipush (at_of tX7_init 1 4 rfl) (by decide) ?_
    refine go_icmp_ge (tgt := 62) (at_of tX7_init 1 5 rfl) (by decide) (fun hz_ => ?_) (fun hz_ => ?_)
    · exfalso; omega
    clear hz_
    refine go_aload_n (at_of tX7_init 1 6 rfl) rfl ?_
    refine go_getr (q := (6 + 10 * k)) fl_X7_15 rfl g2 (by simp [PR, nxt, P1, M1, updP, upd2]) (at_of tX7_init 1 7 rfl) ?_
    refine go_iload_n (at_of tX7_init 1 8 rfl) rfl ?_
    refine go_iconst (at_of tX7_init 1 9 rfl) (by unfold in32; omega) ?_
    refine go_iast1 g4 (by omega) (by omega) (at_of tX7_init 1 10 rfl) ?_
    refine go_aload_n (at_of tX7_init 1 11 rfl) rfl ?_
    refine go_getr (q := (7 + 10 * k)) fl_X7_18 rfl g2 (by simp [PR, nxt, P1, M1, updP, upd2]) (at_of tX7_init 1 12 rfl) ?_
    refine go_iload_n (at_of tX7_init 1 13 rfl) rfl ?_
    refine go_iconst (at_of tX7_init 1 14 rfl) (by unfold in32; omega) ?_
    refine go_iast1 g5 (by omega) (by omega) (at_of tX7_init 1 15 rfl) ?_
    refine go_iinc (at_of tX7_init 2 0 rfl) rfl (by unfold in32; omega) rfl rfl ?_
    refine go_goto (tgt := 36) (at_of tX7_init 2 1 rfl) (by decide) ?_
    refine go_iload_n (at_of tX7_init 1 3 rfl) rfl ?_
    refine go_bipush (at_of tX7_init 1 4 rfl) (by decide) ?_
    refine go_icmp_ge (tgt := 62) (at_of tX7_init 1 5 rfl) (by decide) (fun hz_ => ?_) (fun hz_ => ?_)
    · exfalso; omega
    clear hz_
    refine go_aload_n (at_of tX7_init 1 6 rfl) rfl ?_
    refine go_getr (q := (6 + 10 * k)) fl_X7_15 rfl g2 (by simp [PR, nxt, P1, M1, updP, upd2]) (at_of tX7_init 1 7 rfl) ?_
    refine go_iload_n (at_of tX7_init 1 8 rfl) rfl ?_
    refine go_iconst (at_of tX7_init 1 9 rfl) (by unfold in32; omega) ?_
    refine go_iast1 g4 (by omega) (by omega) (at_of tX7_init 1 10 rfl) ?_
    refine go_aload_n (at_of tX7_init 1 11 rfl) rfl ?_
    refine go_getr (q := (7 + 10 * k)) fl_X7_18 rfl g2 (by simp [PR, nxt, P1, M1, updP, upd2]) (at_of tX7_init 1 12 rfl) ?_
    refine go_iload_n (at_of tX7_init 1 13 rfl) rfl ?_
    refine go_iconst (at_of tX7_init 1 14 rfl) (by unfold in32; omega) ?_
    refine go_iast1 g5 (by omega) (by omega) (at_of tX7_init 1 15 rfl) ?_
    refine go_iinc (at_of tX7_init 2 0 rfl) rfl (by unfold in32; omega) rfl rfl ?_
    refine go_goto (tgt := 36) (at_of tX7_init 2 1 rfl) (by decide) ?_
    refine go_iload_n (at_of tX7_init 1 3 rfl) rfl ?_
    refine go_bipush (at_of tX7_init 1 4 rfl) (by decide) ?_
    refine go_icmp_ge (tgt := 62) (at_of tX7_init 1 5 rfl) (by decide) (fun hz_ => ?_) (fun hz_ => ?_)
    · exfalso; omega
    clear hz_
    refine go_aload_n (at_of tX7_init 1 6 rfl) rfl ?_
    refine go_getr (q := (6 + 10 * k)) fl_X7_15 rfl g2 (by simp [PR, nxt, P1, M1, updP, upd2]) (at_of tX7_init 1 7 rfl) ?_
    refine go_iload_n (at_of tX7_init 1 8 rfl) rfl ?_
    refine go_iconst (at_of tX7_init 1 9 rfl) (by unfold in32; omega) ?_
    refine go_iast1 g4 (by omega) (by omega) (at_of tX7_init 1 10 rfl) ?_
    refine go_aload_n (at_of tX7_init 1 11 rfl) rfl ?_
    refine go_getr (q := (7 + 10 * k)) fl_X7_18 rfl g2 (by simp [PR, nxt, P1, M1, updP, upd2]) (at_of tX7_init 1 12 rfl) ?_
    refine go_iload_n (at_of tX7_init 1 13 rfl) rfl ?_
    refine go_iconst (at_of tX7_init 1 14 rfl) (by unfold in32; omega) ?_
    refine go_iast1 g5 (by omega) (by omega) (at_of tX7_init 1 15 rfl) ?_
    refine go_iinc (at_of tX7_init 2 0 rfl) rfl (by unfold in32; omega) rfl rfl ?_
    refine go_goto (tgt := 36) (at_of tX7_init 2 1 rfl) (by decide) ?_
    refine go_iload_n (at_of tX7_init 1 3 rfl) rfl ?_
    refine go_bipush (at_of tX7_init 1 4 rfl) (by decide) ?_
    refine go_icmp_ge (tgt := 62) (at_of tX7_init 1 5 rfl) (by decide) (fun hz_ => ?_) (fun hz_ => ?_)
    · exfalso; omega
    clear hz_
    refine go_aload_n (at_of tX7_init 1 6 rfl) rfl ?_
    refine go_getr (q := (6 + 10 * k)) fl_X7_15 rfl g2 (by simp [PR, nxt, P1, M1, updP, upd2]) (at_of tX7_init 1 7 rfl) ?_
    refine go_iload_n (at_of tX7_init 1 8 rfl) rfl ?_
    refine go_iconst (at_of tX7_init 1 9 rfl) (by unfold in32; omega) ?_
    refine go_iast1 g4 (by omega) (by omega) (at_of tX7_init 1 10 rfl) ?_
    refine go_aload_n (at_of tX7_init 1 11 rfl) rfl ?_
    refine go_getr (q := (7 + 10 * k)) fl_X7_18 rfl g2 (by simp [PR, nxt, P1, M1, updP, upd2]) (at_of tX7_init 1 12 rfl) ?_
    refine go_iload_n (at_of tX7_init 1 13 rfl) rfl ?_
    refine go_iconst (at_of tX7_init 1 14 rfl) (by unfold in32; omega) ?_
    refine go_iast1 g5 (by omega) (by omega) (at_of tX7_init 1 15 rfl) ?_
    refine go_iinc (at_of tX7_init 2 0 rfl) rfl (by unfold in32; omega) rfl rfl ?_
    refine go_goto (tgt := 36) (at_of tX7_init 2 1 rfl) (by decide) ?_
    refine go_iload_n (at_of tX7_init 1 3 rfl) rfl ?_
    refine go_bipush (at_of tX7_init 1 4 rfl) (by decide) ?_
    refine go_icmp_ge (tgt := 62) (at_of tX7_init 1 5 rfl) (by decide) (fun hz_ => ?_) (fun hz_ => ?_)
    · exfalso; omega
    clear hz_
    refine go_aload_n (at_of tX7_init 1 6 rfl) rfl ?_
    refine go_getr (q := (6 + 10 * k)) fl_X7_15 rfl g2 (by simp [PR, nxt, P1, M1, updP, upd2]) (at_of tX7_init 1 7 rfl) ?_
    refine go_iload_n (at_of tX7_init 1 8 rfl) rfl ?_
    refine go_iconst (at_of tX7_init 1 9 rfl) (by unfold in32; omega) ?_
    refine go_iast1 g4 (by omega) (by omega) (at_of tX7_init 1 10 rfl) ?_
    refine go_aload_n (at_of tX7_init 1 11 rfl) rfl ?_
    refine go_getr (q := (7 + 10 * k)) fl_X7_18 rfl g2 (by simp [PR, nxt, P1, M1, updP, upd2]) (at_of tX7_init 1 12 rfl) ?_
    refine go_iload_n (at_of tX7_init 1 13 rfl) rfl ?_
    refine go_iconst (at_of tX7_init 1 14 rfl) (by unfold in32; omega) ?_
    refine go_iast1 g5 (by omega) (by omega) (at_of tX7_init 1 15 rfl) ?_
    refine go_iinc (at_of tX7_init 2 0 rfl) rfl (by unfold in32; omega) rfl rfl ?_
    refine go_goto (tgt := 36) (at_of tX7_init 2 1 rfl) (by decide) ?_
    refine go_iload_n (at_of tX7_init 1 3 rfl) rfl ?_
    refine go_bipush (at_of tX7_init 1 4 rfl) (by decide) ?_
    refine go_icmp_ge (tgt := 62) (at_of tX7_init 1 5 rfl) (by decide) (fun hz_ => ?_) (fun hz_ => ?_)
    rotate_left
    · exfalso; omega
    clear hz_
    refine go_aload_n (at_of tX7_init 2 2 rfl) rfl ?_
    refine go_getr (q := (5 + 10 * k)) fl_X7_11 rfl g2 (by simp [PR, nxt, P1, M1, updP, upd2]) (at_of tX7_init 2 3 rfl) ?_
    refine go_iconst (at_of tX7_init 2 4 rfl) (by unfold in32; omega) ?_
    refine go_bipush (at_of tX7_init 2 5 rfl) (by decide) ?_
    refine go_iast1 g3 (by omega) (by omega) (at_of tX7_init 2 6 rfl) ?_
    refine go_aload_n (at_of tX7_init 2 7 rfl) rfl ?_
    refine go_getr (q := (5 + 10 * k)) fl_X7_11 rfl g2 (by simp [PR, nxt, P1, M1, updP, upd2]) (at_of tX7_init 2 8 rfl) ?_
    refine go_sipush (at_of tX7_init 2 9 rfl) (by decide) ?_
    refine go_iconst (at_of tX7_init 2 10 rfl) (by unfold in32; omega) ?_
    refine go_iast1 g3 (by omega) (by omega) (at_of tX7_init 2 11 rfl) ?_
    refine go_aload_n (at_of tX7_init 2 12 rfl) rfl ?_
    refine go_getr (q := (5 + 10 * k)) fl_X7_11 rfl g2 (by simp [PR, nxt, P1, M1, updP, upd2]) (at_of tX7_init 2 13 rfl) ?_
    refine go_sipush (at_of tX7_init 2 14 rfl) (by decide) ?_
    refine go_iconst (at_of tX7_init 2 15 rfl) (by unfold in32; omega) ?_
    refine go_iast1 g3 (by omega) (by omega) (at_of tX7_init 3 0 rfl) ?_
    refine go_aload_n (at_of tX7_init 3 1 rfl) rfl ?_
    refine go_getr (q := (5 + 10 * k)) fl_X7_11 rfl g2 (by simp [PR, nxt, P1, M1, updP, upd2]) (at_of tX7_init 3 2 rfl) ?_
    refine go_sipush (at_of tX7_init 3 3 rfl) (by decide) ?_
    refine go_iconst (at_of tX7_init 3 4 rfl) (by unfold in32; omega) ?_
    refine go_iast1 g3 (by omega) (by omega) (at_of tX7_init 3 5 rfl) ?_
    refine go_aload_n (at_of tX7_init 3 6 rfl) rfl ?_
    refine go_getr (q := (5 + 10 * k)) fl_X7_11 rfl g2 (by simp [PR, nxt, P1, M1, updP, upd2]) (at_of tX7_init 3 7 rfl) ?_
    refine go_sipush (at_of tX7_init 3 8 rfl) (by decide) ?_
    refine go_iconst (at_of tX7_init 3 9 rfl) (by unfold in32; omega) ?_
    refine go_iast1 g3 (by omega) (by omega) (at_of tX7_init 3 10 rfl) ?_
    refine go_aload_n (at_of tX7_init 3 11 rfl) rfl ?_
    refine go_getr (q := (5 + 10 * k)) fl_X7_11 rfl g2 (by simp [PR, nxt, P1, M1, updP, upd2]) (at_of tX7_init 3 12 rfl) ?_
    refine go_sipush (at_of tX7_init 3 13 rfl) (by decide) ?_
    refine go_iconst (at_of tX7_init 3 14 rfl) (by unfold in32; omega) ?_
    refine go_iast1 g3 (by omega) (by omega) (at_of tX7_init 3 15 rfl) ?_
    exact go_retv (at_of tX7_init 4 0 rfl) rfl
  · show σ.2.2 + 1 + 1 + 1 = _
    omega
  · simp only [PR_1, nxt_1, P1_f, M1_f]
    repeat rw [if_neg (by omega)]
  · simp only [PR_f, nxt_21, P1_2, M1_2]
    repeat rw [if_neg (by omega)]
  · have hx2 : σ.2.2 + 1 + 1 + 1 ≤ x := hx
    simp only [PR_1, nxt_1, P1_f, M1_f]
    repeat rw [if_neg (by omega)]
    exact (hz x j (by omega)).1
  · have hx2 : σ.2.2 + 1 + 1 + 1 ≤ x := hx
    simp only [PR_f, nxt_21, P1_2, M1_2]
    repeat rw [if_neg (by omega)]
    exact (hz x j (by omega)).2
  · simp [PR_f, nxt_21, P1_2, M1_2]
  · simp [PR_f, nxt_21, P1_2, M1_2]
  · simp [PR_f, nxt_21, P1_2, M1_2]
  · simp [PR_1, nxt_1, P1_f, M1_f]
    rfl
  · have i2 : i = 0 := Int.le_antisymm i1 i0
    subst i2
    unfold fA
    simp only [PR_1, nxt_1, P1_f, M1_f]
    have hw : w = 0 ∨ w = 1 ∨ w = 2 ∨ w = 3 ∨ w = 4 ∨ w = 5 ∨ w = 6 ∨ w = 7 ∨ w = 8 ∨ w = 9 ∨ w = 10 := by omega
    rcases hw with rfl | rfl | rfl | rfl | rfl | rfl | rfl | rfl | rfl | rfl | rfl <;> simp [z5, R0]
  · simp only [PR_1, nxt_1, P1_f, M1_f]
    have hb : b = 0 ∨ b = 1 ∨ b = 2 ∨ b = 3 ∨ b = 4 ∨ b = 5 := by omega
    rcases hb with rfl | rfl | rfl | rfl | rfl | rfl <;> simp [R0]
  · simp only [PR_1, nxt_1, P1_f, M1_f]
    have hb : b = 0 ∨ b = 1 ∨ b = 2 ∨ b = 3 ∨ b = 4 ∨ b = 5 := by omega
    rcases hb with rfl | rfl | rfl | rfl | rfl | rfl <;> simp [R0]
  · exact ⟨by decide, by decide, fun b b0 b1 => by show -1 ≤ (-1 : Int) ∧ (-1 : Int) ≤ 0 ∧ -1 ≤ (-1 : Int) ∧ (-1 : Int) ≤ 0; decide⟩
theorem mk_log (hk : k < 8) (hc : σ.2.2 = 9 + 10 * k) (hz : Zr σ) : ∃ σ', Con 0 mX2_init 3 180 [vA (8 + 10 * k)] σ (vT 8 0, σ') ∧ Nw (8 + 10 * k) (12 + 10 * k) σ σ' ∧ (σ'.2.1 (8 + 10 * k) 0 = some (9 + 10 * k) ∧ σ'.2.1 (8 + 10 * k) 1 = some (10 + 10 * k) ∧ σ'.2.1 (8 + 10 * k) 2 = some (11 + 10 * k)) ∧ RepL σ' k D0.2.1 := by
  obtain ⟨g1, g2, g3, g4, g5, g6, g7, g8, g9, g10⟩ := gamk k hk
  refine ⟨(P1 (PR (nxt (PR (nxt (PR (nxt σ) (8 + 10 * k) 0 (9 + 10 * k))) (8 + 10 * k) 1 (10 + 10 * k))) (8 + 10 * k) 2 (11 + 10 * k)) (8 + 10 * k) 3 0), ?_, ⟨?_, fun x j hx => ⟨?_, ?_⟩, fun x j hx => ⟨?_, ?_⟩⟩, ⟨?_, ?_, ?_⟩, ?_⟩
  · refine con_of_go mfX2_init.1 trivial (Nat.le_of_ble_eq_true rfl) rfl (by decide) ?_
    show Go _ _ _ _ 0 [vA _] [] _ _
    refine go_aload_n (at_of tX2_init 0 0 rfl) rfl ?_
    refine go_objInit (inL 104 (by decide +kernel) (by decide +kernel)) (at_of tX2_init 0 1 rfl) (Nat.le_of_ble_eq_true rfl) ?_
    refine go_aload_n (at_of tX2_init 0 2 rfl) rfl ?_
    refine go_bipush (at_of tX2_init 0 3 rfl) (by decide) ?_
    refine go_newI (a := (9 + 10 * k)) (n := 60) (by show σ.2.2 = _; omega) g7 (by decide) (inL 98 (by decide +kernel) (by decide +kernel)) ⟨by decide, by decide⟩ (at_of tX2_init 0 4 rfl) ?_
    refine go_putr fp_X2_9 rfl (Or.inr ⟨rfl, rfl, rfl⟩) g6 (at_of tX2_init 0 5 rfl) ?_
    refine go_aload_n (at_of tX2_init 0 6 rfl) rfl ?_
    refine go_bipush (at_of tX2_init 0 7 rfl) (by decide) ?_
    refine go_newI (a := (10 + 10 * k)) (n := 60) (by show σ.2.2 + 1 = _; omega) g8 (by decide) (inL 98 (by decide +kernel) (by decide +kernel)) ⟨by decide, by decide⟩ (at_of tX2_init 0 8 rfl) ?_
    refine go_putr fp_X2_15 rfl (Or.inr ⟨rfl, rfl, rfl⟩) g6 (at_of tX2_init 0 9 rfl) ?_
    refine go_aload_n (at_of tX2_init 0 10 rfl) rfl ?_
    refine go_bipush (at_of tX2_init 0 11 rfl) (by decide) ?_
    refine go_newI (a := (11 + 10 * k)) (n := 60) (by show σ.2.2 + 1 + 1 = _; omega) g9 (by decide) (inL 98 (by decide +kernel) (by decide +kernel)) ⟨by decide, by decide⟩ (at_of tX2_init 0 12 rfl) ?_
    refine go_putr fp_X2_18 rfl (Or.inr ⟨rfl, rfl, rfl⟩) g6 (at_of tX2_init 0 13 rfl) ?_
    refine go_aload_n (at_of tX2_init 0 14 rfl) rfl ?_
    refine go_iconst (at_of tX2_init 0 15 rfl) (by unfold in32; omega) ?_
    refine go_put1 fp_X2_21 rfl (Or.inl rfl) g6 (Or.inl rfl) (at_of tX2_init 1 0 rfl) ?_
    exact go_retv (at_of tX2_init 1 1 rfl) rfl
  · show σ.2.2 + 1 + 1 + 1 = _
    omega
  · simp only [PR_1, nxt_1, P1_f, M1_f]
    repeat rw [if_neg (by omega)]
  · simp only [PR_f, nxt_21, P1_2, M1_2]
    repeat rw [if_neg (by omega)]
  · have hx2 : σ.2.2 + 1 + 1 + 1 ≤ x := hx
    simp only [PR_1, nxt_1, P1_f, M1_f]
    repeat rw [if_neg (by omega)]
    exact (hz x j (by omega)).1
  · have hx2 : σ.2.2 + 1 + 1 + 1 ≤ x := hx
    simp only [PR_f, nxt_21, P1_2, M1_2]
    repeat rw [if_neg (by omega)]
    exact (hz x j (by omega)).2
  · simp [PR_f, nxt_21, P1_2, M1_2]
  · simp [PR_f, nxt_21, P1_2, M1_2]
  · simp [PR_f, nxt_21, P1_2, M1_2]
  · have e : ∀ (σ2 : St), σ2.1 (8 + 10 * k) 3 = 0 → (∀ j, σ2.1 (9 + 10 * k) j = 0) → (∀ j, σ2.1 (11 + 10 * k) j = 0) → RepL σ2 k D0.2.1 := fun σ2 a b c => by
      refine ⟨a, fun c c0 c1 => ?_, ⟨by rw [a]; decide, by rw [a]; decide, fun j _ => by rw [b]; decide, fun j _ => by rw [c]; decide⟩, by decide, by decide, fun c c0 c1 => ?_⟩
      · have c2 : c < 0 := c1
        omega
      · have c2 : c < 0 := c1
        omega
    refine e _ ?_ (fun j => ?_) (fun j => ?_)
    · simp [PR_1, nxt_1, P1_f, M1_f]
    · simp only [PR_1, nxt_1, P1_f, M1_f]
      repeat rw [if_neg (by omega)]
      exact (hz _ j (by omega)).1
    · simp only [PR_1, nxt_1, P1_f, M1_f]
      repeat rw [if_neg (by omega)]
      exact (hz _ j (by omega)).1
end Made1
