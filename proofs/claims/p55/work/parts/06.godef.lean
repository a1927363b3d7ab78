/-! A small machine over positions and whole numbers: what a method does, said of a heap of numbers; every rule of it is proved of the kit's rows. -/
/-- values: a whole number for an int; a position for a reference; (1, long) (2, float's bits) (3, double's bits) (5, null) (6, the script, its length) (8, nothing) (9, no value) (20 + i, thrown, of class i) -/
abbrev MV : Type := Int ⊕ (Nat ⊕ (Nat × Int))
abbrev vI (z : Int) : MV := Sum.inl z
abbrev vA (a : Nat) : MV := Sum.inr (Sum.inl a)
abbrev vT (t : Nat) (z : Int) : MV := Sum.inr (Sum.inr (t, z))
abbrev St : Type := (Nat → Nat → Int) × (Nat → Nat → Option Nat) × Nat
def in32 (z : Int) : Prop := -2147483648 ≤ z ∧ z < 2147483648
def in64 (z : Int) : Prop := -9223372036854775808 ≤ z ∧ z < 9223372036854775808
def vr (ρ : Nat → Nat) (bs : Nat) : MV → Value
  | .inl z => .int (Int32.ofInt z)
  | .inr (.inl a) => .ref (ρ a)
  | .inr (.inr (1, z)) => .long (Int64.ofInt z)
  | .inr (.inr (2, z)) => .float (UInt32.ofNat z.toNat)
  | .inr (.inr (3, z)) => .double (UInt64.ofNat z.toNat)
  | .inr (.inr (6, _)) => .ref bs
  | .inr (.inr (_, _)) => .null
def live : MV → Bool
  | .inr (.inr (9, _)) => false
  | _ => true
def two : MV → Bool
  | .inr (.inr (1, _)) => true
  | .inr (.inr (3, _)) => true
  | _ => false
def cat (v : MV) : Nat := if two v then 2 else 1
def okv (c : Nat) (X : Int → Prop) : MV → Prop
  | .inl z => in32 z
  | .inr (.inl a) => a < c
  | .inr (.inr (1, z)) => in64 z
  | .inr (.inr (2, z)) => 0 ≤ z ∧ z < 4294967296
  | .inr (.inr (3, z)) => 0 ≤ z ∧ z < 18446744073709551616
  | .inr (.inr (6, z)) => X z
  | .inr (.inr (_, _)) => True
/-- what is made, in its order: arrays (0 int, 1 boolean, 2 char, 3 long, 4 double, 5 papers), objects 10 + class -/
def papG : List (Nat × Nat) := [(14, 0), (17, 0), (0, 2211), (0, 6), (0, 6), (12, 0), (0, 60), (0, 60), (0, 60), (0, 20)]
def gamL : List (Nat × Nat) := [(19, 0), (15, 0), (5, 7)] ++ (papG ++ (papG ++ (papG ++ (papG ++ (papG ++ (papG ++ (papG ++ (papG ++
  [(18, 0), (0, 8), (0, 8), (0, 8), (13, 0), (0, 9), (1, 3), (0, 3), (2, 128), (10, 0), (0, 20), (0, 20), (1, 20), (16, 0), (0, 15), (11, 0), (1, 512), (0, 512), (0, 202), (0, 202), (0, 202), (0, 202), (1, 202), (0, 1024), (0, 1024), (0, 20)]))))))))
def Gam (a : Nat) : Nat × Nat := gamL.getD a (99, 0)
/-- where a made thing's kind and length stand: behind all of its cells -/
def TY : Nat := 4294967296
/-- the numbers of a row: without its kind -/
def vl (σ : St) (a j : Nat) : Int := if j = TY then 0 else σ.1 a j
theorem vl_ne {σ : St} {a j : Nat} (h : j ≠ TY) : vl σ a j = σ.1 a j := if_neg h
def tdec (z : Int) : Nat × Nat := ((z % 64).toNat, (z / 64).toNat)
/-- the kind and length of what stands at a position: the office's are told ahead, the law's own where they were made -/
def GamD (σ : St) (a : Nat) : Nat × Nat := if (Gam a).1 = 99 then tdec (σ.1 a TY) else Gam a
theorem gs {σ : St} {a t n : Nat} (h : Gam a = (t, n)) (ht : t ≠ 99) : GamD σ a = (t, n) := by
  unfold GamD
  rw [if_neg (by rw [h]; exact ht), h]
def fref (ci k : Nat) : Bool := match cty ci k with
  | .int => false
  | .boolean => false
  | .char => false
  | _ => true
def obf (ρ : Nat → Nat) (σ : St) (a ci k : Nat) : Value := if fref ci k then va_rf ((σ.2.1 a k).map ρ) else .int (Int32.ofInt (σ.1 a k))
def ent (dA : Nat → ClassId) (ρ : Nat → Nat) (σ : St) (a : Nat) : va_E :=
  if (GamD σ a).1 < 3 then .inl (dA (GamD σ a).1, (GamD σ a).2, .inl (fun j => Int32.ofInt (vl σ a j)))
  else if (GamD σ a).1 < 6 then .inl (dA (GamD σ a).1, (GamD σ a).2, .inr (.inr (.inr (.inr (fun j => (σ.2.1 a j).map ρ)))))
  else .inr ((GamD σ a).1 - 10, (List.range (cfn ((GamD σ a).1 - 10))).map (obf ρ σ a ((GamD σ a).1 - 10)))
def wsOf (dA : Nat → ClassId) (ρ : Nat → Nat) (σ : St) : va_W := (List.range σ.2.2).map (fun i => (ρ i, ent dA ρ σ i))
def tysOf (dA : Nat → ClassId) : List (ClassId × FieldType) := [(dA 0, .int), (dA 1, .boolean), (dA 2, .char), (dA 3, .object RX12), (dA 4, .object RX11), (dA 5, .object RX4)]
def okM (σ : St) : Prop := (∀ a k, in32 (σ.1 a k)) ∧ True ∧ True ∧ (∀ a k i, σ.2.1 a k = some i → i < σ.2.2) ∧ (∀ a k, σ.2.2 ≤ a → σ.1 a k = 0 ∧ σ.2.1 a k = none)
def HR (dC : Nat → ClassId) (dI : Nat → Nat → Nat) (dA : Nat → ClassId) (N0 : Nat) (ρ : Nat → Nat) (σ : St) (H : Heap) : Prop :=
  va_P (dC, dI) vwc (wsOf dA ρ σ) H ∧ va_D (fun q : Nat => N0 ≤ q) (wsOf dA ρ σ) ∧ okM σ
def lps (ρ : Nat → Nat) (bs : Nat) : Nat → List MV → List (Nat × Value)
  | _, [] => []
  | i, v :: vs => if live v then (i, vr ρ bs v) :: lps ρ bs (i + 1) vs else lps ρ bs (i + 1) vs
def FrR (bs nL : Nat) (ρ : Nat → Nat) (X : Int → Prop) (c : Nat) (LS : Array Slot) (ls : List MV) : Prop :=
  lv_has LS nL (lps ρ bs 0 ls) ∧ ls.length = nL ∧ ∀ v ∈ ls, okv c X v
/-- the words that the tables hold beside the good ones -/
def XW (s : State) : Prop := (∀ q ∈ XM, va_Nw (.methodLinkNest q.1 q.2.1 q.2.2.1 q.2.2.2) s) ∧ (∀ q ∈ XF, va_Nw (.fieldLinkNest q.1 q.2.1 q.2.2.1 q.2.2.2.1 q.2.2.2.2.1 q.2.2.2.2.2) s) ∧ (∀ x ∈ XD, va_Nw (.declares x) s) ∧
  (∀ q ∈ XC, va_Nw (.castable q.1 q.2) s) ∧ (∀ q ∈ XS, ∃ a, vk_R q.1 q.2.1 q.2.2 a s) ∧ (∀ q ∈ XN, va_Nc q.1 q.2 s) ∧ va_AO RX4 s ∧ va_AO RX11 s ∧ va_AO RX12 s
/-- the law's letters, and what the JDK holds that reads them -/
def ZL (A : Nat → Prop) (U : State) (H : Heap) : Prop := (∃ q v : Nat, vk_R RL 83 "ab /c" q U ∧ vk_S 1 [5] [[97, 98, 32, 47, 99]] (fun _ => q) (fun _ => v) A U H) ∧ va_Z "java/lang/String" "COMPACT_STRINGS" "Z" (.int 1) A U H ∧ va_Zq "jdk/internal/util/Preconditions" "SIOOBE_FORMATTER" "Ljava/util/function/BiFunction;" A U H
def ZW (A : Nat → Prop) (U : State) (H : Heap) : Prop := vx_Zq Bundle.tN "UNASSIGNED_STACK" Bundle.steD A U H ∧ vx_Zq Bundle.tN "SUPPRESSED_SENTINEL" Bundle.listD A U H ∧ ZL A U H
def Sta (xs : Nat → Int) (d : Nat) (m : MI) (p : Program) (l : Launch) (R : Room) (s : State) (mid : MethodId) (args : Array Value) (meth : Method) (c : Code) (dC : Nat → ClassId) (dI : Nat → Nat → Nat) (dA : Nat → ClassId) (N0 bs : Nat) (X : Int → Prop) : Prop :=
  p.tables.exec = Jvm.exec ∧ c.code = m.2.1 ∧ c.maxLocals = m.2.2.1 ∧ s.vm.findClass m.1.cls = some mid.cls ∧ (∀ w ∈ L0, w.before args s = true) ∧ meth.locks = false ∧ l.stackTraces = false ∧ va_K (dC, dI) vwc (tysOf dA) s ∧ N0 ≤ s.heap.size ∧ XW s ∧
  ZW (fun q : Nat => N0 ≤ q) s s.heap ∧ d + 4 ≤ R.frames ∧ 40 * d + 124 ≤ R.locals ∧ meth.name = m.1.name ∧ c.exceptionTable.toList = tableOf m.2.2.2.2.1 ∧
  ∀ z : Int, X z → 0 ≤ z ∧ z < 2147483648 ∧ va_X bs z.toNat (fun j => Int32.ofInt (xs j)) s s.heap ∧ bs < s.heap.size ∧ bs < N0 ∧ ∀ j, in32 (xs j)
def Dyn (R : Room) (s : State) (dC : Nat → ClassId) (dI : Nat → Nat → Nat) (dA : Nat → ClassId) (N0 : Nat) (ρ0 : Nat → Nat) (c0 : Nat) (b : Nat × Nat) (H : Heap) (locs : List Loc) (cells slots : Nat) (ρ : Nat → Nat) (σ : St) : Prop :=
  HR dC dI dA N0 ρ σ H ∧ va_S (fun q : Nat => N0 ≤ q) s.heap H locs ∧ (∀ i, i < c0 → ρ i = ρ0 i) ∧ c0 ≤ σ.2.2 ∧ cells + b.1 ≤ R.cells ∧ slots + b.2 ≤ R.slots
def retI : MV → Instr
  | .inl _ => .ireturn
  | .inr (.inl _) => .areturn
  | .inr (.inr (1, _)) => .lreturn
  | .inr (.inr (2, _)) => .freturn
  | .inr (.inr (3, _)) => .dreturn
  | .inr (.inr (8, _)) => .return_
  | .inr (.inr (_, _)) => .nop
def rstk (ρ : Nat → Nat) (bs : Nat) : MV → List Value
  | .inr (.inr (8, _)) => []
  | v => [vr ρ bs v]
def exN : Nat → String
  | 0 => "java/lang/IndexOutOfBoundsException"
  | 1 => "java/lang/IllegalArgumentException"
  | 2 => "java/lang/IllegalStateException"
  | 3 => "java/lang/UnsupportedOperationException"
  | 4 => "java/util/NoSuchElementException"
  | _ => "java/lang/ArithmeticException"
def exU : List String := ["java/lang/RuntimeException", "java/lang/Exception"]
def At (m : MI) (pc : Nat) (i : Instr) (n : Nat) : Prop := decode m.2.1 pc = .ok (i, n)
/-- a throw's site: new X; dup; ldc text; invokespecial; athrow, and its words -/
def ThW (m : MI) (pc : Nat) (i : Nat) : Prop := ∃ (ik is ic : Nat) (tx : String), At m pc (.new ik) 3 ∧ At m (pc + 3) .dup 1 ∧ At m (pc + 4) (.ldc is) 2 ∧ At m (pc + 6) (.invokespecial ic) 3 ∧ At m (pc + 9) .athrow 1 ∧
  Cond.classLink m.1.cls ik (exN i) ∈ L0 ∧ (m.1.cls, is, tx) ∈ XS ∧ Cond.methodLink m.1.cls ic (Bundle.initS (exN i)) ∈ L0
/-- the same with a wide index of the text -/
def ThWw (m : MI) (pc : Nat) (i : Nat) : Prop := ∃ (ik is ic : Nat) (tx : String), At m pc (.new ik) 3 ∧ At m (pc + 3) .dup 1 ∧ At m (pc + 4) (.ldc_w is) 3 ∧ At m (pc + 7) (.invokespecial ic) 3 ∧ At m (pc + 10) .athrow 1 ∧
  Cond.classLink m.1.cls ik (exN i) ∈ L0 ∧ (m.1.cls, is, tx) ∈ XS ∧ Cond.methodLink m.1.cls ic (Bundle.initS (exN i)) ∈ L0
/-- how a method's frame may end: it returns out's value; it throws; what was thrown passes it -/
def FinC (m : MI) (p : Program) (l : Launch) (e : Env) (R : Room) (s : State) (mid : MethodId) (args : Array Value) (below : List Frame) (meth : Method) (c : Code) (Q : State → Prop) (dC : Nat → ClassId) (dI : Nat → Nat → Nat) (dA : Nat → ClassId) (N0 bs : Nat) (ρ0 : Nat → Nat) (c0 : Nat) (X : Int → Prop) (out : MV × St) : Prop :=
  (∀ (H : Heap) (locs : List Loc) (cells slots : Nat) (ρ : Nat → Nat) (LS : Array Slot) (pc : Nat), Dyn R s dC dI dA N0 ρ0 c0 (0, 0) H locs cells slots ρ out.2 → LS.size = m.2.2.1 → At m pc (retI out.1) 1 → okv out.2.2.2 X out.1 → (∀ t z, out.1 = vT t z → t < 20) →
    W p l e R s mid args below meth c H locs cells slots Q (F0 mid pc LS (rstk ρ bs out.1))) ∧
  (∀ (H : Heap) (locs : List Loc) (cells slots : Nat) (ρ : Nat → Nat) (LS : Array Slot) (pc i : Nat) (st : List Value), out.1 = vT (20 + i) 0 → i < 6 → 6 ≤ R.frames → Dyn R s dC dI dA N0 ρ0 c0 (1, 6) H locs cells slots ρ out.2 → LS.size = m.2.2.1 → (ThW m pc i ∨ ThWw m pc i) → m.2.2.2.2.1 = [] → (st.map fun v => v.category).sum ≤ 8 →
    W p l e R s mid args below meth c H locs cells slots Q (F0 mid pc LS st)) ∧
  (∀ (H : Heap) (locs : List Loc) (cells slots : Nat) (ρ : Nat → Nat) (LS : Array Slot) (pc i : Nat) (st : List Value) (q : Addr) (ce : Cell), out.1 = vT (20 + i) 0 → i < 6 → Dyn R s dC dI dA N0 ρ0 c0 (0, 0) H locs cells slots ρ out.2 → LS.size = m.2.2.1 → m.2.2.2.2.1 = [] → H[q]? = some ce → ce.vm = .none → s.vm.findClass (exN i) = some ce.cls →
    vx_W p l e R s mid args below meth c H locs cells slots Q (F0 mid pc LS st) q)
/-- from this frame, these numbers: the method ends with out -/
def Go (xs : Nat → Int) (d : Nat) (m : MI) (b : Nat × Nat) (pc : Nat) (ls st : List MV) (σ : St) (out : MV × St) : Prop :=
  ∀ (p : Program) (l : Launch) (e : Env) (R : Room) (s : State) (mid : MethodId) (args : Array Value) (below : List Frame) (meth : Method) (c : Code) (Q : State → Prop) (dC : Nat → ClassId) (dI : Nat → Nat → Nat) (dA : Nat → ClassId) (N0 bs : Nat) (ρ0 : Nat → Nat) (c0 : Nat) (X : Int → Prop),
    Sta xs d m p l R s mid args meth c dC dI dA N0 bs X → FinC m p l e R s mid args below meth c Q dC dI dA N0 bs ρ0 c0 X out →
    ∀ (H : Heap) (locs : List Loc) (cells slots : Nat) (ρ : Nat → Nat) (LS : Array Slot), Dyn R s dC dI dA N0 ρ0 c0 b H locs cells slots ρ σ → FrR bs m.2.2.1 ρ X σ.2.2 LS ls → (∀ v ∈ st, okv σ.2.2 X v) →
      W p l e R s mid args below meth c H locs cells slots Q (F0 mid pc LS (st.map (vr ρ bs)))
def rmOf (d mc ms : Nat) : Room := { frames := d + 4, cells := mc, slots := ms, locals := 40 * d + 124 }
def wsM (m : MI) : List Cond := headW m :: L0
def rv (ρ : Nat → Nat) : MV → Option Value
  | .inr (.inr (8, _)) => none
  | v => some (vr ρ 0 v)
def UW (dC : Nat → ClassId) (dI : Nat → Nat → Nat) (dA : Nat → ClassId) (N0 : Nat) (ρ : Nat → Nat) (σ : St) (U : State) : Prop :=
  N0 ≤ U.heap.size ∧ HR dC dI dA N0 ρ σ U.heap ∧ va_K (dC, dI) vwc (tysOf dA) U ∧ XW U ∧ ZW (fun q : Nat => N0 ≤ q) U U.heap
def noX : Int → Prop := fun _ => False
/-- a method's contract: called with these arguments over these numbers, it ends with out; at most mc cells, ms slots are new -/
def Con (d : Nat) (m : MI) (mc ms : Nat) (as : List MV) (σ : St) (out : MV × St) : Prop :=
  (∀ v ∈ as, okv σ.2.2 noX v) → ∀ (l : Launch), l.stackTraces = false → ∀ (dC : Nat → ClassId) (dI : Nat → Nat → Nat) (dA : Nat → ClassId) (N0 : Nat) (ρ : Nat → Nat),
    vx_Met l m.1 (wsM m) (rmOf d mc ms) (fun a U => a = (as.map (vr ρ 0)).toArray ∧ UW dC dI dA N0 ρ σ U)
      (fun _ st o t => ∃ ρ' : Nat → Nat, o = .returned (rv ρ' out.1) ∧ (∀ i, out.1 ≠ vT (20 + i) 0) ∧ okv out.2.2.2 noX out.1 ∧ (∀ i, i < σ.2.2 → ρ' i = ρ i) ∧ σ.2.2 ≤ out.2.2.2 ∧ HR dC dI dA N0 ρ' out.2 t.heap ∧ va_F (fun q : Nat => N0 ≤ q) st t)
      (fun E st t => ∃ (ρ' : Nat → Nat) (i : Nat), out.1 = vT (20 + i) 0 ∧ i < 6 ∧ E = exN i ∧ (∀ i, i < σ.2.2 → ρ' i = ρ i) ∧ σ.2.2 ≤ out.2.2.2 ∧ HR dC dI dA N0 ρ' out.2 t.heap ∧ va_F (fun q : Nat => N0 ≤ q) st t)
      mc ms (fun q : Nat => N0 ≤ q)
