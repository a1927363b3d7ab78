/-! Rules that the law's own methods want beside. -/
section LawRules
variable {xs : Nat → Int} {d : Nat} {m : MI} {b : Nat × Nat} {pc : Nat} {ls st : List MV} {σ : St} {out : MV × St}
theorem i32_toInt (x : Int32) : in32 x.toInt := by have h1 := x.toInt_lt; have h2 := x.le_toInt; unfold in32; omega
theorem go_ldcI {ix : Nat} {x : Int} (hl : Cond.constant m.1.cls ix (Int32.ofInt x) ∈ L0) (hx : in32 x) (hd : At m pc (.ldc ix) 2) (K : Go xs d m b (pc + 2) ls (vI x :: st) σ out) : Go xs d m b pc ls st σ out := by
  intro p l e R s mid args below meth c Q dC dI dA N0 bs ρ0 c0 X hS hF H locs cells slots ρ LS hD hL ho
  exact lv_ldc hS.1 hS.2.1 hS.2.2.2.1 (hS.2.2.2.2.1 _ hl) hd (K p l e R s mid args below meth c Q dC dI dA N0 bs ρ0 c0 X hS hF H locs cells slots ρ LS hD hL (okc hx ho))
theorem go_iandM {x : Int} (hd : At m pc .iand 1) (k : Go xs d m b (pc + 1) ls (vI (x % 2147483648) :: st) σ out) : Go xs d m b pc ls (vI 2147483647 :: vI x :: st) σ out :=
  k.pure fun p l e R s mid args below meth c Q bs ρ X H locs cells slots LS hx hb hL ho => ⟨okc (by
    show in32 _; unfold in32; omega) (okt (okt ho)), fun kk => lv_iand hx hb hd (by
      rw [show Int32.ofInt 2147483647 = (2147483647 : Int32) from rfl, pk_and _ 31 rfl, of_bv x (2 ^ 31) (by decide) (by decide)]
      rw [show ((2 ^ 31 : Nat) : Int) = 2147483648 from rfl, nI_ofZ (z := x % 2147483648) (Int.toNat_of_nonneg (Int.emod_nonneg _ (by decide)))]
      exact kk)⟩
def shr (x k : Int) : Int := (Int32.ofInt x >>> (Int32.ofInt k &&& 31)).toInt
theorem shr_ok {x k : Int} : in32 (shr x k) := i32_toInt _
theorem go_ishr {x y : Int} (hd : At m pc .ishr 1) (k : Go xs d m b (pc + 1) ls (vI (shr x y) :: st) σ out) : Go xs d m b pc ls (vI y :: vI x :: st) σ out :=
  k.pure fun p l e R s mid args below meth c Q bs ρ X H locs cells slots LS hx hb hL ho => ⟨okc shr_ok (okt (okt ho)), fun kk => lv_ishr hx hb hd (by
    have e8 : Int32.ofInt (shr x y) = Int32.ofInt x >>> (Int32.ofInt y &&& 31) := Int32.ofInt_toInt _
    have kk' : W p l e R s mid args below meth c H locs cells slots Q (F0 mid (pc + 1) LS (.int (Int32.ofInt (shr x y)) :: st.map (vr ρ bs))) := kk
    rw [e8] at kk'
    exact kk')⟩
theorem rho_inj {dC : Nat → ClassId} {dI : Nat → Nat → Nat} {dA : Nat → ClassId} {N0 : Nat} {ρ : Nat → Nat} {H : Heap} (h : HR dC dI dA N0 ρ σ H) {a q : Nat} (ha : a < σ.2.2) (hq : q < σ.2.2) (e : ρ a = ρ q) : a = q :=
  h.2.1.1 a q _ _ (wsOf_get ha) (wsOf_get hq) e
theorem go_acmp_eq {a q : Nat} {off : Int} {tgt : Nat} (hd : At m pc (.if_acmp .eq off) 3) (ht : (pc : Int) + off = (tgt : Int)) (kt : q = a → Go xs d m b tgt ls st σ out) (kf : ¬ q = a → Go xs d m b (pc + 3) ls st σ out) : Go xs d m b pc ls (vA a :: vA q :: st) σ out := by
  intro p l e R s mid args below meth c Q dC dI dA N0 bs ρ0 c0 X hS hF H locs cells slots ρ LS hD hL ho
  have ha : a < σ.2.2 := okh ho
  have hq : q < σ.2.2 := okh (okt ho)
  refine lv_acmp_eq (rx := some (ρ q)) (ry := some (ρ a)) hS.1 hS.2.1 hd ht (fun h => ?_) (fun h => ?_)
  · exact kt (rho_inj hD.1 hq ha (Option.some.inj h)) p l e R s mid args below meth c Q dC dI dA N0 bs ρ0 c0 X hS hF H locs cells slots ρ LS hD hL (okt (okt ho))
  · exact kf (fun h2 => h (by rw [h2])) p l e R s mid args below meth c Q dC dI dA N0 bs ρ0 c0 X hS hF H locs cells slots ρ LS hD hL (okt (okt ho))
theorem minw : Cond.static Lib.Math.min.name ∈ L0 ∧ Cond.initialized "java/lang/Math" ∈ L0 ∧ Cond.code Lib.Math.min.name Lib.Math.min.code 2 (some .int) ∈ L0 := by
  have h : ∀ w ∈ [Cond.static Lib.Math.min.name, Cond.initialized "java/lang/Math", Cond.code Lib.Math.min.name Lib.Math.min.code 2 (some .int)], (goodWord w && decide (w ∈ lw_tbl)) = true := by decide +kernel
  have g : ∀ w, (goodWord w && decide (w ∈ lw_tbl)) = true → w ∈ L0 := fun w hw => by
    rw [Bool.and_eq_true] at hw
    exact List.mem_filter.mpr ⟨of_decide_eq_true hw.2, hw.1⟩
  exact ⟨g _ (h _ List.mem_cons_self), g _ (h _ (List.mem_cons_of_mem _ List.mem_cons_self)), g _ (h _ (List.mem_cons_of_mem _ (List.mem_cons_of_mem _ List.mem_cons_self)))⟩
theorem go_min {ix : Nat} {x y : Int} (hl : Cond.methodLink m.1.cls ix Lib.Math.min.name ∈ L0) (hd : At m pc (.invokestatic ix) 3) (hsum : (st.map cat).sum ≤ 8) (K : Go xs d m b (pc + 3) ls (vI (if y < x then y else x) :: st) σ out) : Go xs d m b pc ls (vI y :: vI x :: st) σ out := by
  intro p l e R s mid args below meth c Q dC dI dA N0 bs ρ0 c0 X hS hF H locs cells slots ρ LS hD hL ho
  obtain ⟨hx, hb, hml, hown, hts, hlk, hst, hK, hN, hXW, hZW, hRf, hRl, hnm, htb, hX⟩ := id hS
  have hy : in32 y := okh ho
  have hxx : in32 x := okh (okt ho)
  have hc5 := hD.2.2.2.2.1
  have hc6 := hD.2.2.2.2.2
  refine va_mmin hx hb (hml.trans hL.size.symm) hown (hts _ hl) (hts _ minw.1) (hts _ minw.2.1) (hts _ minw.2.2) (by omega) (by rw [cats]; omega) (by omega) (by omega) hd ?_
  have e9 : (if Int32.ofInt y < Int32.ofInt x then Int32.ofInt y else Int32.ofInt x) = Int32.ofInt (if y < x then y else x) := by
    by_cases h : y < x
    · rw [if_pos h, if_pos ((of_lt hy hxx).mpr h)]
    · rw [if_neg h, if_neg (fun q => h ((of_lt hy hxx).mp q))]
  rw [e9]
  exact K p l e R s mid args below meth c Q dC dI dA N0 bs ρ0 c0 X hS hF H locs cells slots ρ LS hD hL (okc (show in32 _ by split <;> assumption) (okt (okt ho)))
theorem kcL_7 : Cond.constant RL 7 (Int32.ofInt 40503) ∈ L0 := inL 365 (by decide +kernel) (by decide +kernel)
theorem kcL_8 : Cond.constant RL 8 (Int32.ofInt 2147483647) ∈ L0 := inL 369 (by decide +kernel) (by decide +kernel)
/-- a part of a number, below n -/
def lowF (v n : Int) : Int := v % 2147483648 % n
theorem lowF_lt {v n : Int} (h : 0 < n) : 0 ≤ lowF v n ∧ lowF v n < n := ⟨Int.emod_nonneg _ (by omega), Int.emod_lt_of_pos _ h⟩
theorem con_low {v n : Int} (h : 0 < n) : Con 0 mL_low 0 0 [vI v, vI n] σ (vI (lowF v n), σ) := by
  refine con_of_go mfL_low.1 trivial (Nat.le_of_ble_eq_true rfl) rfl (by decide) ?_
  show Go _ _ _ _ 0 [vI v, vI n] [] _ _
  refine go_iload_n (at_of tL_low 0 0 rfl) rfl ?_
  refine go_ldcI kcL_8 (by unfold in32; omega) (at_of tL_low 0 1 rfl) ?_
  refine go_iandM (at_of tL_low 0 2 rfl) ?_
  refine go_iload_n (at_of tL_low 0 3 rfl) rfl ?_
  refine go_irem (at_of tL_low 0 4 rfl) (by omega) h ?_
  exact go_reti (at_of tL_low 0 5 rfl) rfl
theorem Go.eqo {out' : MV × St} (e : out = out') (h : Go xs d m b pc ls st σ out') : Go xs d m b pc ls st σ out := e ▸ h
end LawRules
