/-- the good words of the tables: every method's words -/
def L0 : List Cond := lw_tbl.filter goodWord
theorem inL {w : Cond} (i : Nat) (h : lw_tbl[i]? = some w) (g : goodWord w = true) : w ∈ L0 := List.mem_filter.mpr ⟨List.mem_of_getElem? h, g⟩
theorem L0_tbl {w : Cond} (h : w ∈ L0) : w ∈ lw_tbl := (List.mem_filter.mp h).1
theorem L0_good {w : Cond} (h : w ∈ L0) : goodWord w = true := (List.mem_filter.mp h).2
def cnm : Nat → String
  | 0 => RX0
  | 1 => RX1
  | 2 => RX2
  | 3 => RX3
  | 4 => RX4
  | 5 => RX5
  | 6 => RX6
  | 7 => RX7
  | 8 => RX8
  | 9 => RX9
  | 10 => RX10
  | 11 => RX11
  | _ => RX12
def ctb : Nat → u_T
  | 0 => TX0
  | 1 => TX1
  | 2 => TX2
  | 3 => TX3
  | 4 => TX4
  | 5 => TX5
  | 6 => TX6
  | 7 => TX7
  | 8 => TX8
  | 9 => TX9
  | 10 => TX10
  | 11 => TX11
  | _ => TX12
def cty : Nat → Nat → FieldType
  | 0 => tyX0
  | 1 => tyX1
  | 2 => tyX2
  | 3 => tyX3
  | 4 => tyX4
  | 5 => tyX5
  | 6 => tyX6
  | 7 => tyX7
  | 8 => tyX8
  | 9 => tyX9
  | 10 => tyX10
  | 11 => tyX11
  | _ => tyX12
def cfn : Nat → Nat
  | 0 => 4
  | 1 => 16
  | 2 => 4
  | 3 => 5
  | 4 => 3
  | 5 => 3
  | 6 => 2
  | 7 => 4
  | 8 => 4
  | 9 => 9
  | 10 => 6
  | 11 => 5
  | _ => 3
theorem lt13 {P : Nat → Prop} (h : P 0 ∧ P 1 ∧ P 2 ∧ P 3 ∧ P 4 ∧ P 5 ∧ P 6 ∧ P 7 ∧ P 8 ∧ P 9 ∧ P 10 ∧ P 11 ∧ P 12) : ∀ i, i < 13 → P i := by
  intro i hi
  obtain ⟨h0, h1, h2, h3, h4, h5, h6, h7, h8, h9, h10, h11, h12⟩ := h
  match i, hi with
  | 0, _ => exact h0
  | 1, _ => exact h1
  | 2, _ => exact h2
  | 3, _ => exact h3
  | 4, _ => exact h4
  | 5, _ => exact h5
  | 6, _ => exact h6
  | 7, _ => exact h7
  | 8, _ => exact h8
  | 9, _ => exact h9
  | 10, _ => exact h10
  | 11, _ => exact h11
  | 12, _ => exact h12
theorem vwc_at : ∀ i, i < 13 → vwc[i]? = some (cnm i, ctb i, cfn i) := lt13 ⟨rfl, rfl, rfl, rfl, rfl, rfl, rfl, rfl, rfl, rfl, rfl, rfl, rfl⟩
theorem uw_0 : ∀ w ∈ u_ws RX0 TX0 4, w ∈ L0 := by
  show ∀ w ∈ [u_lay RX0 TX0 0, u_lay RX0 TX0 1, u_lay RX0 TX0 2, u_lay RX0 TX0 3], w ∈ L0
  exact List.forall_mem_cons.mpr ⟨inL 196 (w := u_lay RX0 TX0 0) (by decide +kernel) (by decide +kernel), List.forall_mem_cons.mpr ⟨inL 198 (w := u_lay RX0 TX0 1) (by decide +kernel) (by decide +kernel), List.forall_mem_cons.mpr ⟨inL 200 (w := u_lay RX0 TX0 2) (by decide +kernel) (by decide +kernel), List.forall_mem_cons.mpr ⟨inL 202 (w := u_lay RX0 TX0 3) (by decide +kernel) (by decide +kernel), fun _ h => absurd h List.not_mem_nil⟩⟩⟩⟩
theorem uw_1 : ∀ w ∈ u_ws RX1 TX1 16, w ∈ L0 := by
  show ∀ w ∈ [u_lay RX1 TX1 0, u_lay RX1 TX1 1, u_lay RX1 TX1 2, u_lay RX1 TX1 3, u_lay RX1 TX1 4, u_lay RX1 TX1 5, u_lay RX1 TX1 6, u_lay RX1 TX1 7, u_lay RX1 TX1 8, u_lay RX1 TX1 9, u_lay RX1 TX1 10, u_lay RX1 TX1 11, u_lay RX1 TX1 12, u_lay RX1 TX1 13, u_lay RX1 TX1 14, u_lay RX1 TX1 15], w ∈ L0
  exact List.forall_mem_cons.mpr ⟨inL 240 (w := u_lay RX1 TX1 0) (by decide +kernel) (by decide +kernel), List.forall_mem_cons.mpr ⟨inL 242 (w := u_lay RX1 TX1 1) (by decide +kernel) (by decide +kernel), List.forall_mem_cons.mpr ⟨inL 244 (w := u_lay RX1 TX1 2) (by decide +kernel) (by decide +kernel), List.forall_mem_cons.mpr ⟨inL 246 (w := u_lay RX1 TX1 3) (by decide +kernel) (by decide +kernel), List.forall_mem_cons.mpr ⟨inL 248 (w := u_lay RX1 TX1 4) (by decide +kernel) (by decide +kernel), List.forall_mem_cons.mpr ⟨inL 250 (w := u_lay RX1 TX1 5) (by decide +kernel) (by decide +kernel), List.forall_mem_cons.mpr ⟨inL 252 (w := u_lay RX1 TX1 6) (by decide +kernel) (by decide +kernel), List.forall_mem_cons.mpr ⟨inL 254 (w := u_lay RX1 TX1 7) (by decide +kernel) (by decide +kernel), List.forall_mem_cons.mpr ⟨inL 256 (w := u_lay RX1 TX1 8) (by decide +kernel) (by decide +kernel), List.forall_mem_cons.mpr ⟨inL 258 (w := u_lay RX1 TX1 9) (by decide +kernel) (by decide +kernel), List.forall_mem_cons.mpr ⟨inL 260 (w := u_lay RX1 TX1 10) (by decide +kernel) (by decide +kernel), List.forall_mem_cons.mpr ⟨inL 262 (w := u_lay RX1 TX1 11) (by decide +kernel) (by decide +kernel), List.forall_mem_cons.mpr ⟨inL 264 (w := u_lay RX1 TX1 12) (by decide +kernel) (by decide +kernel), List.forall_mem_cons.mpr ⟨inL 266 (w := u_lay RX1 TX1 13) (by decide +kernel) (by decide +kernel), List.forall_mem_cons.mpr ⟨inL 268 (w := u_lay RX1 TX1 14) (by decide +kernel) (by decide +kernel), List.forall_mem_cons.mpr ⟨inL 270 (w := u_lay RX1 TX1 15) (by decide +kernel) (by decide +kernel), fun _ h => absurd h List.not_mem_nil⟩⟩⟩⟩⟩⟩⟩⟩⟩⟩⟩⟩⟩⟩⟩⟩
theorem uw_2 : ∀ w ∈ u_ws RX2 TX2 4, w ∈ L0 := by
  show ∀ w ∈ [u_lay RX2 TX2 0, u_lay RX2 TX2 1, u_lay RX2 TX2 2, u_lay RX2 TX2 3], w ∈ L0
  exact List.forall_mem_cons.mpr ⟨inL 109 (w := u_lay RX2 TX2 0) (by decide +kernel) (by decide +kernel), List.forall_mem_cons.mpr ⟨inL 111 (w := u_lay RX2 TX2 1) (by decide +kernel) (by decide +kernel), List.forall_mem_cons.mpr ⟨inL 113 (w := u_lay RX2 TX2 2) (by decide +kernel) (by decide +kernel), List.forall_mem_cons.mpr ⟨inL 115 (w := u_lay RX2 TX2 3) (by decide +kernel) (by decide +kernel), fun _ h => absurd h List.not_mem_nil⟩⟩⟩⟩
theorem uw_3 : ∀ w ∈ u_ws RX3 TX3 5, w ∈ L0 := by
  show ∀ w ∈ [u_lay RX3 TX3 0, u_lay RX3 TX3 1, u_lay RX3 TX3 2, u_lay RX3 TX3 3, u_lay RX3 TX3 4], w ∈ L0
  exact List.forall_mem_cons.mpr ⟨inL 173 (w := u_lay RX3 TX3 0) (by decide +kernel) (by decide +kernel), List.forall_mem_cons.mpr ⟨inL 175 (w := u_lay RX3 TX3 1) (by decide +kernel) (by decide +kernel), List.forall_mem_cons.mpr ⟨inL 177 (w := u_lay RX3 TX3 2) (by decide +kernel) (by decide +kernel), List.forall_mem_cons.mpr ⟨inL 179 (w := u_lay RX3 TX3 3) (by decide +kernel) (by decide +kernel), List.forall_mem_cons.mpr ⟨inL 181 (w := u_lay RX3 TX3 4) (by decide +kernel) (by decide +kernel), fun _ h => absurd h List.not_mem_nil⟩⟩⟩⟩⟩
theorem uw_4 : ∀ w ∈ u_ws RX4 TX4 3, w ∈ L0 := by
  show ∀ w ∈ [u_lay RX4 TX4 0, u_lay RX4 TX4 1, u_lay RX4 TX4 2], w ∈ L0
  exact List.forall_mem_cons.mpr ⟨inL 124 (w := u_lay RX4 TX4 0) (by decide +kernel) (by decide +kernel), List.forall_mem_cons.mpr ⟨inL 126 (w := u_lay RX4 TX4 1) (by decide +kernel) (by decide +kernel), List.forall_mem_cons.mpr ⟨inL 128 (w := u_lay RX4 TX4 2) (by decide +kernel) (by decide +kernel), fun _ h => absurd h List.not_mem_nil⟩⟩⟩
theorem uw_5 : ∀ w ∈ u_ws RX5 TX5 3, w ∈ L0 := by
  show ∀ w ∈ [u_lay RX5 TX5 0, u_lay RX5 TX5 1, u_lay RX5 TX5 2], w ∈ L0
  exact List.forall_mem_cons.mpr ⟨inL 134 (w := u_lay RX5 TX5 0) (by decide +kernel) (by decide +kernel), List.forall_mem_cons.mpr ⟨inL 136 (w := u_lay RX5 TX5 1) (by decide +kernel) (by decide +kernel), List.forall_mem_cons.mpr ⟨inL 138 (w := u_lay RX5 TX5 2) (by decide +kernel) (by decide +kernel), fun _ h => absurd h List.not_mem_nil⟩⟩⟩
theorem uw_6 : ∀ w ∈ u_ws RX6 TX6 2, w ∈ L0 := by
  show ∀ w ∈ [u_lay RX6 TX6 0, u_lay RX6 TX6 1], w ∈ L0
  exact List.forall_mem_cons.mpr ⟨inL 213 (w := u_lay RX6 TX6 0) (by decide +kernel) (by decide +kernel), List.forall_mem_cons.mpr ⟨inL 215 (w := u_lay RX6 TX6 1) (by decide +kernel) (by decide +kernel), fun _ h => absurd h List.not_mem_nil⟩⟩
theorem uw_7 : ∀ w ∈ u_ws RX7 TX7 4, w ∈ L0 := by
  show ∀ w ∈ [u_lay RX7 TX7 0, u_lay RX7 TX7 1, u_lay RX7 TX7 2, u_lay RX7 TX7 3], w ∈ L0
  exact List.forall_mem_cons.mpr ⟨inL 89 (w := u_lay RX7 TX7 0) (by decide +kernel) (by decide +kernel), List.forall_mem_cons.mpr ⟨inL 91 (w := u_lay RX7 TX7 1) (by decide +kernel) (by decide +kernel), List.forall_mem_cons.mpr ⟨inL 93 (w := u_lay RX7 TX7 2) (by decide +kernel) (by decide +kernel), List.forall_mem_cons.mpr ⟨inL 95 (w := u_lay RX7 TX7 3) (by decide +kernel) (by decide +kernel), fun _ h => absurd h List.not_mem_nil⟩⟩⟩⟩
theorem uw_8 : ∀ w ∈ u_ws RX8 TX8 4, w ∈ L0 := by
  show ∀ w ∈ [u_lay RX8 TX8 0, u_lay RX8 TX8 1, u_lay RX8 TX8 2, u_lay RX8 TX8 3], w ∈ L0
  exact List.forall_mem_cons.mpr ⟨inL 153 (w := u_lay RX8 TX8 0) (by decide +kernel) (by decide +kernel), List.forall_mem_cons.mpr ⟨inL 155 (w := u_lay RX8 TX8 1) (by decide +kernel) (by decide +kernel), List.forall_mem_cons.mpr ⟨inL 157 (w := u_lay RX8 TX8 2) (by decide +kernel) (by decide +kernel), List.forall_mem_cons.mpr ⟨inL 159 (w := u_lay RX8 TX8 3) (by decide +kernel) (by decide +kernel), fun _ h => absurd h List.not_mem_nil⟩⟩⟩⟩
theorem uw_9 : ∀ w ∈ u_ws RX9 TX9 9, w ∈ L0 := by
  show ∀ w ∈ [u_lay RX9 TX9 0, u_lay RX9 TX9 1, u_lay RX9 TX9 2, u_lay RX9 TX9 3, u_lay RX9 TX9 4, u_lay RX9 TX9 5, u_lay RX9 TX9 6, u_lay RX9 TX9 7, u_lay RX9 TX9 8], w ∈ L0
  exact List.forall_mem_cons.mpr ⟨inL 282 (w := u_lay RX9 TX9 0) (by decide +kernel) (by decide +kernel), List.forall_mem_cons.mpr ⟨inL 284 (w := u_lay RX9 TX9 1) (by decide +kernel) (by decide +kernel), List.forall_mem_cons.mpr ⟨inL 286 (w := u_lay RX9 TX9 2) (by decide +kernel) (by decide +kernel), List.forall_mem_cons.mpr ⟨inL 288 (w := u_lay RX9 TX9 3) (by decide +kernel) (by decide +kernel), List.forall_mem_cons.mpr ⟨inL 290 (w := u_lay RX9 TX9 4) (by decide +kernel) (by decide +kernel), List.forall_mem_cons.mpr ⟨inL 292 (w := u_lay RX9 TX9 5) (by decide +kernel) (by decide +kernel), List.forall_mem_cons.mpr ⟨inL 294 (w := u_lay RX9 TX9 6) (by decide +kernel) (by decide +kernel), List.forall_mem_cons.mpr ⟨inL 296 (w := u_lay RX9 TX9 7) (by decide +kernel) (by decide +kernel), List.forall_mem_cons.mpr ⟨inL 298 (w := u_lay RX9 TX9 8) (by decide +kernel) (by decide +kernel), fun _ h => absurd h List.not_mem_nil⟩⟩⟩⟩⟩⟩⟩⟩⟩
theorem uw_10 : ∀ w ∈ u_ws RX10 TX10 6, w ∈ L0 := by
  show ∀ w ∈ [u_lay RX10 TX10 0, u_lay RX10 TX10 1, u_lay RX10 TX10 2, u_lay RX10 TX10 3, u_lay RX10 TX10 4, u_lay RX10 TX10 5], w ∈ L0
  exact List.forall_mem_cons.mpr ⟨inL 349 (w := u_lay RX10 TX10 0) (by decide +kernel) (by decide +kernel), List.forall_mem_cons.mpr ⟨inL 351 (w := u_lay RX10 TX10 1) (by decide +kernel) (by decide +kernel), List.forall_mem_cons.mpr ⟨inL 353 (w := u_lay RX10 TX10 2) (by decide +kernel) (by decide +kernel), List.forall_mem_cons.mpr ⟨inL 355 (w := u_lay RX10 TX10 3) (by decide +kernel) (by decide +kernel), List.forall_mem_cons.mpr ⟨inL 357 (w := u_lay RX10 TX10 4) (by decide +kernel) (by decide +kernel), List.forall_mem_cons.mpr ⟨inL 359 (w := u_lay RX10 TX10 5) (by decide +kernel) (by decide +kernel), fun _ h => absurd h List.not_mem_nil⟩⟩⟩⟩⟩⟩
theorem uw_11 : ∀ w ∈ u_ws RX11 TX11 5, w ∈ L0 := by
  show ∀ w ∈ [u_lay RX11 TX11 0, u_lay RX11 TX11 1, u_lay RX11 TX11 2, u_lay RX11 TX11 3, u_lay RX11 TX11 4], w ∈ L0
  exact List.forall_mem_cons.mpr ⟨inL 325 (w := u_lay RX11 TX11 0) (by decide +kernel) (by decide +kernel), List.forall_mem_cons.mpr ⟨inL 327 (w := u_lay RX11 TX11 1) (by decide +kernel) (by decide +kernel), List.forall_mem_cons.mpr ⟨inL 329 (w := u_lay RX11 TX11 2) (by decide +kernel) (by decide +kernel), List.forall_mem_cons.mpr ⟨inL 331 (w := u_lay RX11 TX11 3) (by decide +kernel) (by decide +kernel), List.forall_mem_cons.mpr ⟨inL 333 (w := u_lay RX11 TX11 4) (by decide +kernel) (by decide +kernel), fun _ h => absurd h List.not_mem_nil⟩⟩⟩⟩⟩
theorem uw_12 : ∀ w ∈ u_ws RX12 TX12 3, w ∈ L0 := by
  show ∀ w ∈ [u_lay RX12 TX12 0, u_lay RX12 TX12 1, u_lay RX12 TX12 2], w ∈ L0
  exact List.forall_mem_cons.mpr ⟨inL 446 (w := u_lay RX12 TX12 0) (by decide +kernel) (by decide +kernel), List.forall_mem_cons.mpr ⟨inL 448 (w := u_lay RX12 TX12 1) (by decide +kernel) (by decide +kernel), List.forall_mem_cons.mpr ⟨inL 450 (w := u_lay RX12 TX12 2) (by decide +kernel) (by decide +kernel), fun _ h => absurd h List.not_mem_nil⟩⟩⟩
theorem uw_all : ∀ i, i < 13 → ∀ w ∈ u_ws (cnm i) (ctb i) (cfn i), w ∈ L0 := lt13 ⟨uw_0, uw_1, uw_2, uw_3, uw_4, uw_5, uw_6, uw_7, uw_8, uw_9, uw_10, uw_11, uw_12⟩
theorem nm_all : ∀ i, i < 13 → ∀ a, a < cfn i → ∀ b, b < cfn i → a ≠ b → (ctb i a).2.1 ≠ (ctb i b).2.1 := lt13 ⟨nmX0, nmX1, nmX2, nmX3, nmX4, nmX5, nmX6, nmX7, nmX8, nmX9, nmX10, nmX11, nmX12⟩
theorem ty_all : ∀ i, i < 13 → ∀ k, k < cfn i → parseFieldDescriptor (ctb i k).2.2.1 = some (cty i k) := lt13 ⟨tyX0_ok, tyX1_ok, tyX2_ok, tyX3_ok, tyX4_ok, tyX5_ok, tyX6_ok, tyX7_ok, tyX8_ok, tyX9_ok, tyX10_ok, tyX11_ok, tyX12_ok⟩
def XM : List (String × Nat × MethodName × String) := [(RX5, 24, yX4_init, RX9), (RX4, 20, yX2_init, RX9), (RX9, 22, yX4_init, RX9), (RX9, 43, yX0_init, RX9), (RX9, 50, yX6_init, RX9), (RX9, 57, yX1_init, RX9), (RL, 191, yX10_init, RL), (RX10, 9, yX11_init, RL), (RX5, 25, yX9_isWithin, RX9), (RX2, 43, yX9_isWithin, RX9), (RX2, 39, yX9_cell, RX9), (RX2, 35, yX9_setCell, RX9), (RX1, 80, yX9_setCell, RX9), (RX8, 33, yX9_cell, RX9), (RX1, 111, yX9_isWithin, RX9), (RX1, 76, yX9_cell, RX9), (RX7, 73, yX9_cell, RX9)]
def XF : List (String × Nat × String × String × String × String) := [(RX9, 131, RX4, "row", "LSealOffice$Row;", RX9), (RX9, 118, RX4, "log", "LSealOffice$Log;", RX9), (RX9, 348, RX4, "results", "[I", RX9), (RL, 130, RX11, "many", "I", RL), (RL, 133, RX11, "unit", "[LSealOfficeLaw$Unit;", RL), (RL, 49, RX11, "changes", "I", RL), (RL, 58, RX11, "author", "[I", RL), (RL, 54, RX11, "state", "[C", RL), (RL, 25, RX10, "now", "LSealOfficeLaw$Doc;", RL), (RL, 32, RX10, "before", "[LSealOfficeLaw$Doc;", RL), (RL, 29, RX10, "undos", "I", RL), (RL, 15, RX10, "behind", "[LSealOfficeLaw$Doc;", RL), (RL, 21, RX10, "redos", "I", RL), (RL, 94, RX10, "isTracked", "Z", RL), (RL, 148, RX12, "letter", "C", RL), (RX11, 42, RX12, "writer", "I", RL), (RL, 137, RX12, "writer", "I", RL), (RX11, 35, RX12, "eraser", "I", RL), (RL, 142, RX12, "eraser", "I", RL)]
def XD : List MethodName := [⟨"java/lang/RuntimeException", "<init>", "()V"⟩, ⟨"java/lang/RuntimeException", "<init>", "(Ljava/lang/String;)V"⟩, ⟨"java/lang/Exception", "<init>", "()V"⟩, ⟨"java/lang/Exception", "<init>", "(Ljava/lang/String;)V"⟩, ⟨"java/lang/Throwable", "<init>", "()V"⟩, ⟨"java/lang/Throwable", "<init>", "(Ljava/lang/String;)V"⟩]
def XC : List (String × String) := [("java/lang/IndexOutOfBoundsException", "java/lang/IndexOutOfBoundsException"), ("java/lang/IllegalArgumentException", "java/lang/IllegalArgumentException"), ("java/lang/IllegalStateException", "java/lang/IllegalStateException"), ("java/lang/UnsupportedOperationException", "java/lang/UnsupportedOperationException"), ("java/util/NoSuchElementException", "java/util/NoSuchElementException"), ("java/lang/ArithmeticException", "java/lang/ArithmeticException"), ("SealOffice", "java/lang/Object"), ("SealOffice$Past", "java/lang/Object"), ("SealOffice$Paper", "java/lang/Object"), ("SealOffice$Row", "java/lang/Object"), ("SealOffice$Log", "java/lang/Object"), ("SealOffice$Styles", "java/lang/Object"), ("SealOffice$Numbers", "java/lang/Object"), ("SealOffice$Fields", "java/lang/Object"), ("SealOffice$Records", "java/lang/Object"), ("SealOffice$Layout", "java/lang/Object"), ("SealOfficeLaw$Desk", "java/lang/Object"), ("SealOfficeLaw$Doc", "java/lang/Object"), ("SealOfficeLaw$Unit", "java/lang/Object"), ("java/lang/IndexOutOfBoundsException", "java/lang/Object"), ("java/lang/IllegalArgumentException", "java/lang/Object"), ("java/lang/IllegalStateException", "java/lang/Object"), ("java/lang/UnsupportedOperationException", "java/lang/Object"), ("java/util/NoSuchElementException", "java/lang/Object"), ("java/lang/ArithmeticException", "java/lang/Object"), ("java/lang/Throwable", "java/lang/Object"), ("java/lang/String", "java/lang/Object")]
def XS : List (String × Nat × String) := [(RL, 83, "ab /c"), (RX9, 418, "no such author"), (RX9, 447, "no such place"), (RX9, 80, "no such letter"), (RX9, 436, "there are 200 units"), (RX9, 129, "there would be too many changes"), (RX9, 434, "the paragraph is protected"), (RX9, 112, "the part is empty"), (RX9, 143, "a paragraph is protected"), (RX9, 430, "no such change"), (RX9, 432, "it does not wait"), (RX9, 200, "there is no edit to do again"), (RX9, 190, "there is no edit to undo"), (RX9, 217, "no such unit"), (RX9, 247, "written by no change that waits"), (RX9, 383, "there are no units")]
def XN : List (String × String) := [("java/lang/IndexOutOfBoundsException", "java/util/NoSuchElementException"), ("java/lang/IllegalArgumentException", "java/util/NoSuchElementException"), ("java/lang/IllegalStateException", "java/util/NoSuchElementException"), ("java/lang/UnsupportedOperationException", "java/util/NoSuchElementException"), ("java/lang/ArithmeticException", "java/util/NoSuchElementException"), ("java/lang/IndexOutOfBoundsException", "SealOffice$Paper"), ("java/lang/IllegalArgumentException", "SealOffice$Paper"), ("java/lang/IllegalStateException", "SealOffice$Paper"), ("java/lang/UnsupportedOperationException", "SealOffice$Paper"), ("java/util/NoSuchElementException", "SealOffice$Paper"), ("java/lang/ArithmeticException", "SealOffice$Paper"), ("java/lang/Throwable", "SealOffice$Paper"), ("java/lang/String", "SealOffice$Paper"), ("java/lang/IndexOutOfBoundsException", "SealOfficeLaw$Unit"), ("java/lang/IllegalArgumentException", "SealOfficeLaw$Unit"), ("java/lang/IllegalStateException", "SealOfficeLaw$Unit"), ("java/lang/UnsupportedOperationException", "SealOfficeLaw$Unit"), ("java/util/NoSuchElementException", "SealOfficeLaw$Unit"), ("java/lang/ArithmeticException", "SealOfficeLaw$Unit"), ("java/lang/Throwable", "SealOfficeLaw$Unit"), ("java/lang/String", "SealOfficeLaw$Unit"), ("java/lang/IndexOutOfBoundsException", "SealOfficeLaw$Doc"), ("java/lang/IllegalArgumentException", "SealOfficeLaw$Doc"), ("java/lang/IllegalStateException", "SealOfficeLaw$Doc"), ("java/lang/UnsupportedOperationException", "SealOfficeLaw$Doc"), ("java/util/NoSuchElementException", "SealOfficeLaw$Doc"), ("java/lang/ArithmeticException", "SealOfficeLaw$Doc"), ("java/lang/Throwable", "SealOfficeLaw$Doc"), ("java/lang/String", "SealOfficeLaw$Doc")]
def FL (own : String) (ix ci k : Nat) : Prop := ci < 13 ∧ k < cfn ci ∧ (Cond.fieldLink own ix (cnm ci) (ctb ci k).2.1 (ctb ci k).2.2.1 ∈ L0 ∨ ∃ h : String, (own, ix, cnm ci, (ctb ci k).2.1, (ctb ci k).2.2.1, h) ∈ XF)
theorem fl_X0_15 : FL RX0 15 0 1 := ⟨by decide, by decide, Or.inl (inL 193 (by decide +kernel) (by decide +kernel))⟩
theorem fl_X0_18 : FL RX0 18 0 2 := ⟨by decide, by decide, Or.inl (inL 194 (by decide +kernel) (by decide +kernel))⟩
theorem fl_X0_22 : FL RX0 22 0 3 := ⟨by decide, by decide, Or.inl (inL 195 (by decide +kernel) (by decide +kernel))⟩
theorem fl_X0_9 : FL RX0 9 0 0 := ⟨by decide, by decide, Or.inl (inL 192 (by decide +kernel) (by decide +kernel))⟩
theorem fl_X1_15 : FL RX1 15 1 1 := ⟨by decide, by decide, Or.inl (inL 225 (by decide +kernel) (by decide +kernel))⟩
theorem fl_X1_18 : FL RX1 18 1 2 := ⟨by decide, by decide, Or.inl (inL 226 (by decide +kernel) (by decide +kernel))⟩
theorem fl_X1_22 : FL RX1 22 1 3 := ⟨by decide, by decide, Or.inl (inL 227 (by decide +kernel) (by decide +kernel))⟩
theorem fl_X1_26 : FL RX1 26 1 4 := ⟨by decide, by decide, Or.inl (inL 228 (by decide +kernel) (by decide +kernel))⟩
theorem fl_X1_29 : FL RX1 29 1 5 := ⟨by decide, by decide, Or.inl (inL 229 (by decide +kernel) (by decide +kernel))⟩
theorem fl_X1_32 : FL RX1 32 1 6 := ⟨by decide, by decide, Or.inl (inL 230 (by decide +kernel) (by decide +kernel))⟩
theorem fl_X1_35 : FL RX1 35 1 7 := ⟨by decide, by decide, Or.inl (inL 231 (by decide +kernel) (by decide +kernel))⟩
theorem fl_X1_38 : FL RX1 38 1 8 := ⟨by decide, by decide, Or.inl (inL 232 (by decide +kernel) (by decide +kernel))⟩
theorem fl_X1_41 : FL RX1 41 1 9 := ⟨by decide, by decide, Or.inl (inL 233 (by decide +kernel) (by decide +kernel))⟩
theorem fl_X1_44 : FL RX1 44 1 10 := ⟨by decide, by decide, Or.inl (inL 234 (by decide +kernel) (by decide +kernel))⟩
theorem fl_X1_47 : FL RX1 47 1 11 := ⟨by decide, by decide, Or.inl (inL 235 (by decide +kernel) (by decide +kernel))⟩
theorem fl_X1_50 : FL RX1 50 1 12 := ⟨by decide, by decide, Or.inl (inL 236 (by decide +kernel) (by decide +kernel))⟩
theorem fl_X1_53 : FL RX1 53 1 13 := ⟨by decide, by decide, Or.inl (inL 237 (by decide +kernel) (by decide +kernel))⟩
theorem fl_X1_56 : FL RX1 56 1 14 := ⟨by decide, by decide, Or.inl (inL 238 (by decide +kernel) (by decide +kernel))⟩
theorem fl_X1_59 : FL RX1 59 1 15 := ⟨by decide, by decide, Or.inl (inL 239 (by decide +kernel) (by decide +kernel))⟩
theorem fl_X1_9 : FL RX1 9 1 0 := ⟨by decide, by decide, Or.inl (inL 224 (by decide +kernel) (by decide +kernel))⟩
theorem fl_X2_15 : FL RX2 15 2 1 := ⟨by decide, by decide, Or.inl (inL 106 (by decide +kernel) (by decide +kernel))⟩
theorem fl_X2_18 : FL RX2 18 2 2 := ⟨by decide, by decide, Or.inl (inL 107 (by decide +kernel) (by decide +kernel))⟩
theorem fl_X2_21 : FL RX2 21 2 3 := ⟨by decide, by decide, Or.inl (inL 108 (by decide +kernel) (by decide +kernel))⟩
theorem fl_X2_9 : FL RX2 9 2 0 := ⟨by decide, by decide, Or.inl (inL 105 (by decide +kernel) (by decide +kernel))⟩
theorem fl_X3_15 : FL RX3 15 3 1 := ⟨by decide, by decide, Or.inl (inL 169 (by decide +kernel) (by decide +kernel))⟩
theorem fl_X3_19 : FL RX3 19 3 2 := ⟨by decide, by decide, Or.inl (inL 170 (by decide +kernel) (by decide +kernel))⟩
theorem fl_X3_22 : FL RX3 22 3 3 := ⟨by decide, by decide, Or.inl (inL 171 (by decide +kernel) (by decide +kernel))⟩
theorem fl_X3_26 : FL RX3 26 3 4 := ⟨by decide, by decide, Or.inl (inL 172 (by decide +kernel) (by decide +kernel))⟩
theorem fl_X3_9 : FL RX3 9 3 0 := ⟨by decide, by decide, Or.inl (inL 168 (by decide +kernel) (by decide +kernel))⟩
theorem fl_X4_12 : FL RX4 12 4 0 := ⟨by decide, by decide, Or.inl (inL 118 (by decide +kernel) (by decide +kernel))⟩
theorem fl_X4_21 : FL RX4 21 4 1 := ⟨by decide, by decide, Or.inl (inL 120 (by decide +kernel) (by decide +kernel))⟩
theorem fl_X4_25 : FL RX4 25 4 2 := ⟨by decide, by decide, Or.inl (inL 122 (by decide +kernel) (by decide +kernel))⟩
theorem fl_X5_11 : FL RX5 11 5 0 := ⟨by decide, by decide, Or.inl (inL 131 (by decide +kernel) (by decide +kernel))⟩
theorem fl_X5_17 : FL RX5 17 5 1 := ⟨by decide, by decide, Or.inl (inL 132 (by decide +kernel) (by decide +kernel))⟩
theorem fl_X5_21 : FL RX5 21 5 2 := ⟨by decide, by decide, Or.inl (inL 133 (by decide +kernel) (by decide +kernel))⟩
theorem fl_X6_15 : FL RX6 15 6 1 := ⟨by decide, by decide, Or.inl (inL 212 (by decide +kernel) (by decide +kernel))⟩
theorem fl_X6_9 : FL RX6 9 6 0 := ⟨by decide, by decide, Or.inl (inL 211 (by decide +kernel) (by decide +kernel))⟩
theorem fl_X7_11 : FL RX7 11 7 0 := ⟨by decide, by decide, Or.inl (inL 85 (by decide +kernel) (by decide +kernel))⟩
theorem fl_X7_15 : FL RX7 15 7 1 := ⟨by decide, by decide, Or.inl (inL 86 (by decide +kernel) (by decide +kernel))⟩
theorem fl_X7_18 : FL RX7 18 7 2 := ⟨by decide, by decide, Or.inl (inL 87 (by decide +kernel) (by decide +kernel))⟩
theorem fl_X7_21 : FL RX7 21 7 3 := ⟨by decide, by decide, Or.inl (inL 88 (by decide +kernel) (by decide +kernel))⟩
theorem fl_X8_15 : FL RX8 15 8 1 := ⟨by decide, by decide, Or.inl (inL 150 (by decide +kernel) (by decide +kernel))⟩
theorem fl_X8_18 : FL RX8 18 8 2 := ⟨by decide, by decide, Or.inl (inL 151 (by decide +kernel) (by decide +kernel))⟩
theorem fl_X8_21 : FL RX8 21 8 3 := ⟨by decide, by decide, Or.inl (inL 152 (by decide +kernel) (by decide +kernel))⟩
theorem fl_X8_9 : FL RX8 9 8 0 := ⟨by decide, by decide, Or.inl (inL 149 (by decide +kernel) (by decide +kernel))⟩
theorem fl_X9_16 : FL RX9 16 9 1 := ⟨by decide, by decide, Or.inl (inL 274 (by decide +kernel) (by decide +kernel))⟩
theorem fl_X9_23 : FL RX9 23 9 2 := ⟨by decide, by decide, Or.inl (inL 275 (by decide +kernel) (by decide +kernel))⟩
theorem fl_X9_30 : FL RX9 30 9 3 := ⟨by decide, by decide, Or.inl (inL 276 (by decide +kernel) (by decide +kernel))⟩
theorem fl_X9_37 : FL RX9 37 9 4 := ⟨by decide, by decide, Or.inl (inL 277 (by decide +kernel) (by decide +kernel))⟩
theorem fl_X9_44 : FL RX9 44 9 5 := ⟨by decide, by decide, Or.inl (inL 278 (by decide +kernel) (by decide +kernel))⟩
theorem fl_X9_51 : FL RX9 51 9 6 := ⟨by decide, by decide, Or.inl (inL 279 (by decide +kernel) (by decide +kernel))⟩
theorem fl_X9_58 : FL RX9 58 9 7 := ⟨by decide, by decide, Or.inl (inL 280 (by decide +kernel) (by decide +kernel))⟩
theorem fl_X9_62 : FL RX9 62 9 8 := ⟨by decide, by decide, Or.inl (inL 281 (by decide +kernel) (by decide +kernel))⟩
theorem fl_X9_7 : FL RX9 7 9 0 := ⟨by decide, by decide, Or.inl (inL 273 (by decide +kernel) (by decide +kernel))⟩
theorem fl_X10_10 : FL RX10 10 10 0 := ⟨by decide, by decide, Or.inl (inL 337 (by decide +kernel) (by decide +kernel))⟩
theorem fl_X10_16 : FL RX10 16 10 1 := ⟨by decide, by decide, Or.inl (inL 339 (by decide +kernel) (by decide +kernel))⟩
theorem fl_X10_20 : FL RX10 20 10 3 := ⟨by decide, by decide, Or.inl (inL 343 (by decide +kernel) (by decide +kernel))⟩
theorem fl_X10_23 : FL RX10 23 10 5 := ⟨by decide, by decide, Or.inl (inL 347 (by decide +kernel) (by decide +kernel))⟩
theorem fl_X10_27 : FL RX10 27 10 2 := ⟨by decide, by decide, Or.inl (inL 341 (by decide +kernel) (by decide +kernel))⟩
theorem fl_X10_35 : FL RX10 35 10 4 := ⟨by decide, by decide, Or.inl (inL 345 (by decide +kernel) (by decide +kernel))⟩
theorem fl_X11_15 : FL RX11 15 11 3 := ⟨by decide, by decide, Or.inl (inL 321 (by decide +kernel) (by decide +kernel))⟩
theorem fl_X11_19 : FL RX11 19 11 4 := ⟨by decide, by decide, Or.inl (inL 323 (by decide +kernel) (by decide +kernel))⟩
theorem fl_X11_24 : FL RX11 24 11 0 := ⟨by decide, by decide, Or.inl (inL 315 (by decide +kernel) (by decide +kernel))⟩
theorem fl_X11_32 : FL RX11 32 11 2 := ⟨by decide, by decide, Or.inl (inL 319 (by decide +kernel) (by decide +kernel))⟩
theorem fl_X11_9 : FL RX11 9 11 1 := ⟨by decide, by decide, Or.inl (inL 317 (by decide +kernel) (by decide +kernel))⟩
theorem fl_X12_13 : FL RX12 13 12 0 := ⟨by decide, by decide, Or.inl (inL 438 (by decide +kernel) (by decide +kernel))⟩
theorem fl_X12_17 : FL RX12 17 12 1 := ⟨by decide, by decide, Or.inl (inL 440 (by decide +kernel) (by decide +kernel))⟩
theorem fl_X12_7 : FL RX12 7 12 2 := ⟨by decide, by decide, Or.inl (inL 443 (by decide +kernel) (by decide +kernel))⟩
theorem fl_X9_118 : FL RX9 118 4 1 := ⟨by decide, by decide, Or.inr ⟨_, List.mem_of_getElem? (i := 1) rfl⟩⟩
theorem fl_X9_131 : FL RX9 131 4 0 := ⟨by decide, by decide, Or.inr ⟨_, List.mem_of_getElem? (i := 0) rfl⟩⟩
theorem fl_X9_348 : FL RX9 348 4 2 := ⟨by decide, by decide, Or.inr ⟨_, List.mem_of_getElem? (i := 2) rfl⟩⟩
theorem fl_X11_35 : FL RX11 35 12 2 := ⟨by decide, by decide, Or.inr ⟨_, List.mem_of_getElem? (i := 17) rfl⟩⟩
theorem fl_X11_42 : FL RX11 42 12 1 := ⟨by decide, by decide, Or.inr ⟨_, List.mem_of_getElem? (i := 15) rfl⟩⟩
theorem fl_L_130 : FL RL 130 11 0 := ⟨by decide, by decide, Or.inr ⟨_, List.mem_of_getElem? (i := 3) rfl⟩⟩
theorem fl_L_133 : FL RL 133 11 1 := ⟨by decide, by decide, Or.inr ⟨_, List.mem_of_getElem? (i := 4) rfl⟩⟩
theorem fl_L_137 : FL RL 137 12 1 := ⟨by decide, by decide, Or.inr ⟨_, List.mem_of_getElem? (i := 16) rfl⟩⟩
theorem fl_L_142 : FL RL 142 12 2 := ⟨by decide, by decide, Or.inr ⟨_, List.mem_of_getElem? (i := 18) rfl⟩⟩
theorem fl_L_148 : FL RL 148 12 0 := ⟨by decide, by decide, Or.inr ⟨_, List.mem_of_getElem? (i := 14) rfl⟩⟩
theorem fl_L_15 : FL RL 15 10 3 := ⟨by decide, by decide, Or.inr ⟨_, List.mem_of_getElem? (i := 11) rfl⟩⟩
theorem fl_L_21 : FL RL 21 10 4 := ⟨by decide, by decide, Or.inr ⟨_, List.mem_of_getElem? (i := 12) rfl⟩⟩
theorem fl_L_25 : FL RL 25 10 0 := ⟨by decide, by decide, Or.inr ⟨_, List.mem_of_getElem? (i := 8) rfl⟩⟩
theorem fl_L_29 : FL RL 29 10 2 := ⟨by decide, by decide, Or.inr ⟨_, List.mem_of_getElem? (i := 10) rfl⟩⟩
theorem fl_L_32 : FL RL 32 10 1 := ⟨by decide, by decide, Or.inr ⟨_, List.mem_of_getElem? (i := 9) rfl⟩⟩
theorem fl_L_49 : FL RL 49 11 2 := ⟨by decide, by decide, Or.inr ⟨_, List.mem_of_getElem? (i := 5) rfl⟩⟩
theorem fl_L_54 : FL RL 54 11 4 := ⟨by decide, by decide, Or.inr ⟨_, List.mem_of_getElem? (i := 7) rfl⟩⟩
theorem fl_L_58 : FL RL 58 11 3 := ⟨by decide, by decide, Or.inr ⟨_, List.mem_of_getElem? (i := 6) rfl⟩⟩
theorem fl_L_94 : FL RL 94 10 5 := ⟨by decide, by decide, Or.inr ⟨_, List.mem_of_getElem? (i := 13) rfl⟩⟩
def headW (m : MI) : Cond := if m.2.2.2.2.1 = [] then .code m.1 m.2.1 m.2.2.1 m.2.2.2.1 else .codeWith m.1 m.2.1 m.2.2.1 m.2.2.2.1 m.2.2.2.2.1
def MB (m : MI) (n : Nat) : Prop := Cond.initialized m.1.cls ∈ L0 ∧ headW m ∈ L0 ∧ (m.1.cls ≠ "java/lang/invoke/MethodHandle" ∧ m.1.cls ≠ "java/lang/invoke/VarHandle") ∧ (parseMethodDescriptor m.1.desc).map (fun d => d.parameters.length) = some n ∧ plainName m.1.cls = true
def MS (m : MI) (n : Nat) : Prop := MB m n ∧ Cond.static m.1 ∈ L0
def MV' (m : MI) (n : Nat) : Prop := MB m n ∧ Cond.instanceMethod m.1 ∈ L0 ∧ Cond.selects m.1.cls m.1 m.1 ∈ L0
def MN (m : MI) (n : Nat) : Prop := MB m n ∧ Cond.instanceMethod m.1 ∈ L0 ∧ m.1.name = "<init>"
theorem mfX0_init : MN mX0_init 0 := ⟨⟨inL 37 (by decide +kernel) (by decide +kernel), inL 190 (by decide +kernel) (by decide +kernel), ⟨by decide +kernel, by decide +kernel⟩, (by decide +kernel), (by decide +kernel)⟩, inL 189 (by decide +kernel) (by decide +kernel), rfl⟩
theorem mfX1_init : MN mX1_init 0 := ⟨⟨inL 39 (by decide +kernel) (by decide +kernel), inL 222 (by decide +kernel) (by decide +kernel), ⟨by decide +kernel, by decide +kernel⟩, (by decide +kernel), (by decide +kernel)⟩, inL 221 (by decide +kernel) (by decide +kernel), rfl⟩
theorem mfX1_layOut : MV' mX1_layOut 3 := ⟨⟨inL 39 (by decide +kernel) (by decide +kernel), inL 993 (by decide +kernel) (by decide +kernel), ⟨by decide +kernel, by decide +kernel⟩, (by decide +kernel), (by decide +kernel)⟩, inL 991 (by decide +kernel) (by decide +kernel), inL 992 (by decide +kernel) (by decide +kernel)⟩
theorem mfX1_manyPages : MV' mX1_manyPages 0 := ⟨⟨inL 39 (by decide +kernel) (by decide +kernel), inL 1056 (by decide +kernel) (by decide +kernel), ⟨by decide +kernel, by decide +kernel⟩, (by decide +kernel), (by decide +kernel)⟩, inL 1054 (by decide +kernel) (by decide +kernel), inL 1055 (by decide +kernel) (by decide +kernel)⟩
theorem mfX1_pageAt : MV' mX1_pageAt 1 := ⟨⟨inL 39 (by decide +kernel) (by decide +kernel), inL 1125 (by decide +kernel) (by decide +kernel), ⟨by decide +kernel, by decide +kernel⟩, (by decide +kernel), (by decide +kernel)⟩, inL 1123 (by decide +kernel) (by decide +kernel), inL 1124 (by decide +kernel) (by decide +kernel)⟩
theorem mfX1_lineNumber : MV' mX1_lineNumber 1 := ⟨⟨inL 39 (by decide +kernel) (by decide +kernel), inL 1129 (by decide +kernel) (by decide +kernel), ⟨by decide +kernel, by decide +kernel⟩, (by decide +kernel), (by decide +kernel)⟩, inL 1128 (by decide +kernel) (by decide +kernel), inL 28 (by decide +kernel) (by decide +kernel)⟩
theorem mfX1_readSigns : MV' mX1_readSigns 3 := ⟨⟨inL 39 (by decide +kernel) (by decide +kernel), inL 997 (by decide +kernel) (by decide +kernel), ⟨by decide +kernel, by decide +kernel⟩, (by decide +kernel), (by decide +kernel)⟩, inL 996 (by decide +kernel) (by decide +kernel), inL 14 (by decide +kernel) (by decide +kernel)⟩
theorem mfX1_closeParagraph : MV' mX1_closeParagraph 1 := ⟨⟨inL 39 (by decide +kernel) (by decide +kernel), inL 1010 (by decide +kernel) (by decide +kernel), ⟨by decide +kernel, by decide +kernel⟩, (by decide +kernel), (by decide +kernel)⟩, inL 1009 (by decide +kernel) (by decide +kernel), inL 15 (by decide +kernel) (by decide +kernel)⟩
theorem mfX1_addSigns : MV' mX1_addSigns 3 := ⟨⟨inL 39 (by decide +kernel) (by decide +kernel), inL 1015 (by decide +kernel) (by decide +kernel), ⟨by decide +kernel, by decide +kernel⟩, (by decide +kernel), (by decide +kernel)⟩, inL 1014 (by decide +kernel) (by decide +kernel), inL 16 (by decide +kernel) (by decide +kernel)⟩
theorem mfX1_addSign : MV' mX1_addSign 1 := ⟨⟨inL 39 (by decide +kernel) (by decide +kernel), inL 1019 (by decide +kernel) (by decide +kernel), ⟨by decide +kernel, by decide +kernel⟩, (by decide +kernel), (by decide +kernel)⟩, inL 1018 (by decide +kernel) (by decide +kernel), inL 17 (by decide +kernel) (by decide +kernel)⟩
theorem mfX1_breakLines : MV' mX1_breakLines 0 := ⟨⟨inL 39 (by decide +kernel) (by decide +kernel), inL 1024 (by decide +kernel) (by decide +kernel), ⟨by decide +kernel, by decide +kernel⟩, (by decide +kernel), (by decide +kernel)⟩, inL 1023 (by decide +kernel) (by decide +kernel), inL 18 (by decide +kernel) (by decide +kernel)⟩
theorem mfX1_breakParagraph : MV' mX1_breakParagraph 2 := ⟨⟨inL 39 (by decide +kernel) (by decide +kernel), inL 1028 (by decide +kernel) (by decide +kernel), ⟨by decide +kernel, by decide +kernel⟩, (by decide +kernel), (by decide +kernel)⟩, inL 1027 (by decide +kernel) (by decide +kernel), inL 19 (by decide +kernel) (by decide +kernel)⟩
theorem mfX1_endOfLine : MV' mX1_endOfLine 2 := ⟨⟨inL 39 (by decide +kernel) (by decide +kernel), inL 1032 (by decide +kernel) (by decide +kernel), ⟨by decide +kernel, by decide +kernel⟩, (by decide +kernel), (by decide +kernel)⟩, inL 1031 (by decide +kernel) (by decide +kernel), inL 20 (by decide +kernel) (by decide +kernel)⟩
theorem mfX1_fillPages : MV' mX1_fillPages 0 := ⟨⟨inL 39 (by decide +kernel) (by decide +kernel), inL 1036 (by decide +kernel) (by decide +kernel), ⟨by decide +kernel, by decide +kernel⟩, (by decide +kernel), (by decide +kernel)⟩, inL 1035 (by decide +kernel) (by decide +kernel), inL 21 (by decide +kernel) (by decide +kernel)⟩
theorem mfX1_keepsAt : MV' mX1_keepsAt 1 := ⟨⟨inL 39 (by decide +kernel) (by decide +kernel), inL 1040 (by decide +kernel) (by decide +kernel), ⟨by decide +kernel, by decide +kernel⟩, (by decide +kernel), (by decide +kernel)⟩, inL 1039 (by decide +kernel) (by decide +kernel), inL 22 (by decide +kernel) (by decide +kernel)⟩
theorem mfX1_linesTogether : MV' mX1_linesTogether 1 := ⟨⟨inL 39 (by decide +kernel) (by decide +kernel), inL 1044 (by decide +kernel) (by decide +kernel), ⟨by decide +kernel, by decide +kernel⟩, (by decide +kernel), (by decide +kernel)⟩, inL 1043 (by decide +kernel) (by decide +kernel), inL 23 (by decide +kernel) (by decide +kernel)⟩
theorem mfX1_turnPageFor : MV' mX1_turnPageFor 1 := ⟨⟨inL 39 (by decide +kernel) (by decide +kernel), inL 1048 (by decide +kernel) (by decide +kernel), ⟨by decide +kernel, by decide +kernel⟩, (by decide +kernel), (by decide +kernel)⟩, inL 1047 (by decide +kernel) (by decide +kernel), inL 24 (by decide +kernel) (by decide +kernel)⟩
theorem mfX1_placeLine : MV' mX1_placeLine 1 := ⟨⟨inL 39 (by decide +kernel) (by decide +kernel), inL 1052 (by decide +kernel) (by decide +kernel), ⟨by decide +kernel, by decide +kernel⟩, (by decide +kernel), (by decide +kernel)⟩, inL 1051 (by decide +kernel) (by decide +kernel), inL 25 (by decide +kernel) (by decide +kernel)⟩
theorem mfX2_init : MN mX2_init 0 := ⟨⟨inL 34 (by decide +kernel) (by decide +kernel), inL 103 (by decide +kernel) (by decide +kernel), ⟨by decide +kernel, by decide +kernel⟩, (by decide +kernel), (by decide +kernel)⟩, inL 102 (by decide +kernel) (by decide +kernel), rfl⟩
theorem mfX2_takeLog : MV' mX2_takeLog 1 := ⟨⟨inL 34 (by decide +kernel) (by decide +kernel), inL 681 (by decide +kernel) (by decide +kernel), ⟨by decide +kernel, by decide +kernel⟩, (by decide +kernel), (by decide +kernel)⟩, inL 679 (by decide +kernel) (by decide +kernel), inL 680 (by decide +kernel) (by decide +kernel)⟩
theorem mfX2_many : MV' mX2_many 0 := ⟨⟨inL 34 (by decide +kernel) (by decide +kernel), inL 786 (by decide +kernel) (by decide +kernel), ⟨by decide +kernel, by decide +kernel⟩, (by decide +kernel), (by decide +kernel)⟩, inL 784 (by decide +kernel) (by decide +kernel), inL 785 (by decide +kernel) (by decide +kernel)⟩
theorem mfX2_isFull : MV' mX2_isFull 0 := ⟨⟨inL 34 (by decide +kernel) (by decide +kernel), inL 602 (by decide +kernel) (by decide +kernel), ⟨by decide +kernel, by decide +kernel⟩, (by decide +kernel), (by decide +kernel)⟩, inL 600 (by decide +kernel) (by decide +kernel), inL 601 (by decide +kernel) (by decide +kernel)⟩
theorem mfX2_enroll : MV' mX2_enroll 2 := ⟨⟨inL 34 (by decide +kernel) (by decide +kernel), inL 687 (by decide +kernel) (by decide +kernel), ⟨by decide +kernel, by decide +kernel⟩, (by decide +kernel), (by decide +kernel)⟩, inL 685 (by decide +kernel) (by decide +kernel), inL 686 (by decide +kernel) (by decide +kernel)⟩
theorem mfX2_kind : MV' mX2_kind 1 := ⟨⟨inL 34 (by decide +kernel) (by decide +kernel), inL 800 (by decide +kernel) (by decide +kernel), ⟨by decide +kernel, by decide +kernel⟩, (by decide +kernel), (by decide +kernel)⟩, inL 798 (by decide +kernel) (by decide +kernel), inL 799 (by decide +kernel) (by decide +kernel)⟩
theorem mfX2_author : MV' mX2_author 1 := ⟨⟨inL 34 (by decide +kernel) (by decide +kernel), inL 623 (by decide +kernel) (by decide +kernel), ⟨by decide +kernel, by decide +kernel⟩, (by decide +kernel), (by decide +kernel)⟩, inL 621 (by decide +kernel) (by decide +kernel), inL 622 (by decide +kernel) (by decide +kernel)⟩
theorem mfX2_state : MV' mX2_state 1 := ⟨⟨inL 34 (by decide +kernel) (by decide +kernel), inL 616 (by decide +kernel) (by decide +kernel), ⟨by decide +kernel, by decide +kernel⟩, (by decide +kernel), (by decide +kernel)⟩, inL 614 (by decide +kernel) (by decide +kernel), inL 615 (by decide +kernel) (by decide +kernel)⟩
theorem mfX2_setState : MV' mX2_setState 2 := ⟨⟨inL 34 (by decide +kernel) (by decide +kernel), inL 820 (by decide +kernel) (by decide +kernel), ⟨by decide +kernel, by decide +kernel⟩, (by decide +kernel), (by decide +kernel)⟩, inL 818 (by decide +kernel) (by decide +kernel), inL 819 (by decide +kernel) (by decide +kernel)⟩
theorem mfX2_isWaitingOf : MV' mX2_isWaitingOf 2 := ⟨⟨inL 34 (by decide +kernel) (by decide +kernel), inL 611 (by decide +kernel) (by decide +kernel), ⟨by decide +kernel, by decide +kernel⟩, (by decide +kernel), (by decide +kernel)⟩, inL 609 (by decide +kernel) (by decide +kernel), inL 610 (by decide +kernel) (by decide +kernel)⟩
theorem mfX2_isAuthored : MV' mX2_isAuthored 0 := ⟨⟨inL 34 (by decide +kernel) (by decide +kernel), inL 1100 (by decide +kernel) (by decide +kernel), ⟨by decide +kernel, by decide +kernel⟩, (by decide +kernel), (by decide +kernel)⟩, inL 1098 (by decide +kernel) (by decide +kernel), inL 1099 (by decide +kernel) (by decide +kernel)⟩
theorem mfX3_init : MN mX3_init 0 := ⟨⟨inL 36 (by decide +kernel) (by decide +kernel), inL 166 (by decide +kernel) (by decide +kernel), ⟨by decide +kernel, by decide +kernel⟩, (by decide +kernel), (by decide +kernel)⟩, inL 165 (by decide +kernel) (by decide +kernel), rfl⟩
theorem mfX4_init : MN mX4_init 0 := ⟨⟨inL 32 (by decide +kernel) (by decide +kernel), inL 77 (by decide +kernel) (by decide +kernel), ⟨by decide +kernel, by decide +kernel⟩, (by decide +kernel), (by decide +kernel)⟩, inL 76 (by decide +kernel) (by decide +kernel), rfl⟩
theorem mfX4_takeFrom : MV' mX4_takeFrom 1 := ⟨⟨inL 32 (by decide +kernel) (by decide +kernel), inL 670 (by decide +kernel) (by decide +kernel), ⟨by decide +kernel, by decide +kernel⟩, (by decide +kernel), (by decide +kernel)⟩, inL 668 (by decide +kernel) (by decide +kernel), inL 669 (by decide +kernel) (by decide +kernel)⟩
theorem mfX4_changeAhead : MV' mX4_changeAhead 2 := ⟨⟨inL 32 (by decide +kernel) (by decide +kernel), inL 606 (by decide +kernel) (by decide +kernel), ⟨by decide +kernel, by decide +kernel⟩, (by decide +kernel), (by decide +kernel)⟩, inL 604 (by decide +kernel) (by decide +kernel), inL 605 (by decide +kernel) (by decide +kernel)⟩
theorem mfX4_isOwn : MV' mX4_isOwn 2 := ⟨⟨inL 32 (by decide +kernel) (by decide +kernel), inL 734 (by decide +kernel) (by decide +kernel), ⟨by decide +kernel, by decide +kernel⟩, (by decide +kernel), (by decide +kernel)⟩, inL 733 (by decide +kernel) (by decide +kernel), inL 7 (by decide +kernel) (by decide +kernel)⟩
theorem mfX4_hasOthers : MV' mX4_hasOthers 3 := ⟨⟨inL 32 (by decide +kernel) (by decide +kernel), inL 729 (by decide +kernel) (by decide +kernel), ⟨by decide +kernel, by decide +kernel⟩, (by decide +kernel), (by decide +kernel)⟩, inL 727 (by decide +kernel) (by decide +kernel), inL 728 (by decide +kernel) (by decide +kernel)⟩
theorem mfX4_strike : MV' mX4_strike 3 := ⟨⟨inL 32 (by decide +kernel) (by decide +kernel), inL 743 (by decide +kernel) (by decide +kernel), ⟨by decide +kernel, by decide +kernel⟩, (by decide +kernel), (by decide +kernel)⟩, inL 741 (by decide +kernel) (by decide +kernel), inL 742 (by decide +kernel) (by decide +kernel)⟩
theorem mfX4_settle : MV' mX4_settle 2 := ⟨⟨inL 32 (by decide +kernel) (by decide +kernel), inL 792 (by decide +kernel) (by decide +kernel), ⟨by decide +kernel, by decide +kernel⟩, (by decide +kernel), (by decide +kernel)⟩, inL 790 (by decide +kernel) (by decide +kernel), inL 791 (by decide +kernel) (by decide +kernel)⟩
theorem mfX4_settleUnits : MV' mX4_settleUnits 3 := ⟨⟨inL 32 (by decide +kernel) (by decide +kernel), inL 804 (by decide +kernel) (by decide +kernel), ⟨by decide +kernel, by decide +kernel⟩, (by decide +kernel), (by decide +kernel)⟩, inL 803 (by decide +kernel) (by decide +kernel), inL 9 (by decide +kernel) (by decide +kernel)⟩
theorem mfX4_settleAll : MV' mX4_settleAll 2 := ⟨⟨inL 32 (by decide +kernel) (by decide +kernel), inL 782 (by decide +kernel) (by decide +kernel), ⟨by decide +kernel, by decide +kernel⟩, (by decide +kernel), (by decide +kernel)⟩, inL 780 (by decide +kernel) (by decide +kernel), inL 781 (by decide +kernel) (by decide +kernel)⟩
theorem mfX5_init : MN mX5_init 0 := ⟨⟨inL 31 (by decide +kernel) (by decide +kernel), inL 70 (by decide +kernel) (by decide +kernel), ⟨by decide +kernel, by decide +kernel⟩, (by decide +kernel), (by decide +kernel)⟩, inL 69 (by decide +kernel) (by decide +kernel), rfl⟩
theorem mfX5_now : MV' mX5_now 0 := ⟨⟨inL 31 (by decide +kernel) (by decide +kernel), inL 541 (by decide +kernel) (by decide +kernel), ⟨by decide +kernel, by decide +kernel⟩, (by decide +kernel), (by decide +kernel)⟩, inL 539 (by decide +kernel) (by decide +kernel), inL 540 (by decide +kernel) (by decide +kernel)⟩
theorem mfX5_begin : MV' mX5_begin 0 := ⟨⟨inL 31 (by decide +kernel) (by decide +kernel), inL 661 (by decide +kernel) (by decide +kernel), ⟨by decide +kernel, by decide +kernel⟩, (by decide +kernel), (by decide +kernel)⟩, inL 659 (by decide +kernel) (by decide +kernel), inL 660 (by decide +kernel) (by decide +kernel)⟩
theorem mfX5_forgetFirst : MV' mX5_forgetFirst 0 := ⟨⟨inL 31 (by decide +kernel) (by decide +kernel), inL 666 (by decide +kernel) (by decide +kernel), ⟨by decide +kernel, by decide +kernel⟩, (by decide +kernel), (by decide +kernel)⟩, inL 665 (by decide +kernel) (by decide +kernel), inL 5 (by decide +kernel) (by decide +kernel)⟩
theorem mfX5_canGoBack : MV' mX5_canGoBack 0 := ⟨⟨inL 31 (by decide +kernel) (by decide +kernel), inL 896 (by decide +kernel) (by decide +kernel), ⟨by decide +kernel, by decide +kernel⟩, (by decide +kernel), (by decide +kernel)⟩, inL 894 (by decide +kernel) (by decide +kernel), inL 895 (by decide +kernel) (by decide +kernel)⟩
theorem mfX5_canGoOn : MV' mX5_canGoOn 0 := ⟨⟨inL 31 (by decide +kernel) (by decide +kernel), inL 865 (by decide +kernel) (by decide +kernel), ⟨by decide +kernel, by decide +kernel⟩, (by decide +kernel), (by decide +kernel)⟩, inL 863 (by decide +kernel) (by decide +kernel), inL 864 (by decide +kernel) (by decide +kernel)⟩
theorem mfX5_goBack : MV' mX5_goBack 0 := ⟨⟨inL 31 (by decide +kernel) (by decide +kernel), inL 901 (by decide +kernel) (by decide +kernel), ⟨by decide +kernel, by decide +kernel⟩, (by decide +kernel), (by decide +kernel)⟩, inL 899 (by decide +kernel) (by decide +kernel), inL 900 (by decide +kernel) (by decide +kernel)⟩
theorem mfX5_goOn : MV' mX5_goOn 0 := ⟨⟨inL 31 (by decide +kernel) (by decide +kernel), inL 885 (by decide +kernel) (by decide +kernel), ⟨by decide +kernel, by decide +kernel⟩, (by decide +kernel), (by decide +kernel)⟩, inL 883 (by decide +kernel) (by decide +kernel), inL 884 (by decide +kernel) (by decide +kernel)⟩
theorem mfX6_init : MN mX6_init 0 := ⟨⟨inL 38 (by decide +kernel) (by decide +kernel), inL 209 (by decide +kernel) (by decide +kernel), ⟨by decide +kernel, by decide +kernel⟩, (by decide +kernel), (by decide +kernel)⟩, inL 208 (by decide +kernel) (by decide +kernel), rfl⟩
theorem mfX7_init : MN mX7_init 0 := ⟨⟨inL 33 (by decide +kernel) (by decide +kernel), inL 83 (by decide +kernel) (by decide +kernel), ⟨by decide +kernel, by decide +kernel⟩, (by decide +kernel), (by decide +kernel)⟩, inL 82 (by decide +kernel) (by decide +kernel), rfl⟩
theorem mfX7_takeRow : MV' mX7_takeRow 1 := ⟨⟨inL 33 (by decide +kernel) (by decide +kernel), inL 674 (by decide +kernel) (by decide +kernel), ⟨by decide +kernel, by decide +kernel⟩, (by decide +kernel), (by decide +kernel)⟩, inL 672 (by decide +kernel) (by decide +kernel), inL 673 (by decide +kernel) (by decide +kernel)⟩
theorem mfX7_fact : MV' mX7_fact 2 := ⟨⟨inL 33 (by decide +kernel) (by decide +kernel), inL 554 (by decide +kernel) (by decide +kernel), ⟨by decide +kernel, by decide +kernel⟩, (by decide +kernel), (by decide +kernel)⟩, inL 552 (by decide +kernel) (by decide +kernel), inL 553 (by decide +kernel) (by decide +kernel)⟩
theorem mfX7_setFact : MV' mX7_setFact 3 := ⟨⟨inL 33 (by decide +kernel) (by decide +kernel), inL 704 (by decide +kernel) (by decide +kernel), ⟨by decide +kernel, by decide +kernel⟩, (by decide +kernel), (by decide +kernel)⟩, inL 702 (by decide +kernel) (by decide +kernel), inL 703 (by decide +kernel) (by decide +kernel)⟩
theorem mfX7_allUnits : MV' mX7_allUnits 0 := ⟨⟨inL 33 (by decide +kernel) (by decide +kernel), inL 582 (by decide +kernel) (by decide +kernel), ⟨by decide +kernel, by decide +kernel⟩, (by decide +kernel), (by decide +kernel)⟩, inL 580 (by decide +kernel) (by decide +kernel), inL 581 (by decide +kernel) (by decide +kernel)⟩
theorem mfX7_isSeen : MV' mX7_isSeen 1 := ⟨⟨inL 33 (by decide +kernel) (by decide +kernel), inL 550 (by decide +kernel) (by decide +kernel), ⟨by decide +kernel, by decide +kernel⟩, (by decide +kernel), (by decide +kernel)⟩, inL 548 (by decide +kernel) (by decide +kernel), inL 549 (by decide +kernel) (by decide +kernel)⟩
theorem mfX7_isOld : MV' mX7_isOld 1 := ⟨⟨inL 33 (by decide +kernel) (by decide +kernel), inL 953 (by decide +kernel) (by decide +kernel), ⟨by decide +kernel, by decide +kernel⟩, (by decide +kernel), (by decide +kernel)⟩, inL 951 (by decide +kernel) (by decide +kernel), inL 952 (by decide +kernel) (by decide +kernel)⟩
theorem mfX7_isSeenEnd : MV' mX7_isSeenEnd 1 := ⟨⟨inL 33 (by decide +kernel) (by decide +kernel), inL 632 (by decide +kernel) (by decide +kernel), ⟨by decide +kernel, by decide +kernel⟩, (by decide +kernel), (by decide +kernel)⟩, inL 630 (by decide +kernel) (by decide +kernel), inL 631 (by decide +kernel) (by decide +kernel)⟩
theorem mfX7_indexOf : MV' mX7_indexOf 1 := ⟨⟨inL 33 (by decide +kernel) (by decide +kernel), inL 546 (by decide +kernel) (by decide +kernel), ⟨by decide +kernel, by decide +kernel⟩, (by decide +kernel), (by decide +kernel)⟩, inL 544 (by decide +kernel) (by decide +kernel), inL 545 (by decide +kernel) (by decide +kernel)⟩
theorem mfX7_indexOfOld : MV' mX7_indexOfOld 1 := ⟨⟨inL 33 (by decide +kernel) (by decide +kernel), inL 949 (by decide +kernel) (by decide +kernel), ⟨by decide +kernel, by decide +kernel⟩, (by decide +kernel), (by decide +kernel)⟩, inL 947 (by decide +kernel) (by decide +kernel), inL 948 (by decide +kernel) (by decide +kernel)⟩
theorem mfX7_endFrom : MV' mX7_endFrom 1 := ⟨⟨inL 33 (by decide +kernel) (by decide +kernel), inL 628 (by decide +kernel) (by decide +kernel), ⟨by decide +kernel, by decide +kernel⟩, (by decide +kernel), (by decide +kernel)⟩, inL 626 (by decide +kernel) (by decide +kernel), inL 627 (by decide +kernel) (by decide +kernel)⟩
theorem mfX7_placeOf : MV' mX7_placeOf 1 := ⟨⟨inL 33 (by decide +kernel) (by decide +kernel), inL 916 (by decide +kernel) (by decide +kernel), ⟨by decide +kernel, by decide +kernel⟩, (by decide +kernel), (by decide +kernel)⟩, inL 914 (by decide +kernel) (by decide +kernel), inL 915 (by decide +kernel) (by decide +kernel)⟩
theorem mfX7_endsAhead : MV' mX7_endsAhead 1 := ⟨⟨inL 33 (by decide +kernel) (by decide +kernel), inL 933 (by decide +kernel) (by decide +kernel), ⟨by decide +kernel, by decide +kernel⟩, (by decide +kernel), (by decide +kernel)⟩, inL 931 (by decide +kernel) (by decide +kernel), inL 932 (by decide +kernel) (by decide +kernel)⟩
theorem mfX7_seenUnits : MV' mX7_seenUnits 0 := ⟨⟨inL 33 (by decide +kernel) (by decide +kernel), inL 912 (by decide +kernel) (by decide +kernel), ⟨by decide +kernel, by decide +kernel⟩, (by decide +kernel), (by decide +kernel)⟩, inL 910 (by decide +kernel) (by decide +kernel), inL 911 (by decide +kernel) (by decide +kernel)⟩
theorem mfX7_seenParagraphs : MV' mX7_seenParagraphs 0 := ⟨⟨inL 33 (by decide +kernel) (by decide +kernel), inL 980 (by decide +kernel) (by decide +kernel), ⟨by decide +kernel, by decide +kernel⟩, (by decide +kernel), (by decide +kernel)⟩, inL 978 (by decide +kernel) (by decide +kernel), inL 979 (by decide +kernel) (by decide +kernel)⟩
theorem mfX7_oldUnits : MV' mX7_oldUnits 0 := ⟨⟨inL 33 (by decide +kernel) (by decide +kernel), inL 972 (by decide +kernel) (by decide +kernel), ⟨by decide +kernel, by decide +kernel⟩, (by decide +kernel), (by decide +kernel)⟩, inL 970 (by decide +kernel) (by decide +kernel), inL 971 (by decide +kernel) (by decide +kernel)⟩
theorem mfX7_waitingUnits : MV' mX7_waitingUnits 0 := ⟨⟨inL 33 (by decide +kernel) (by decide +kernel), inL 1080 (by decide +kernel) (by decide +kernel), ⟨by decide +kernel, by decide +kernel⟩, (by decide +kernel), (by decide +kernel)⟩, inL 1078 (by decide +kernel) (by decide +kernel), inL 1079 (by decide +kernel) (by decide +kernel)⟩
theorem mfX7_concerned : MV' mX7_concerned 1 := ⟨⟨inL 33 (by decide +kernel) (by decide +kernel), inL 796 (by decide +kernel) (by decide +kernel), ⟨by decide +kernel, by decide +kernel⟩, (by decide +kernel), (by decide +kernel)⟩, inL 794 (by decide +kernel) (by decide +kernel), inL 795 (by decide +kernel) (by decide +kernel)⟩
theorem mfX7_isGuarded : MV' mX7_isGuarded 2 := ⟨⟨inL 33 (by decide +kernel) (by decide +kernel), inL 738 (by decide +kernel) (by decide +kernel), ⟨by decide +kernel, by decide +kernel⟩, (by decide +kernel), (by decide +kernel)⟩, inL 736 (by decide +kernel) (by decide +kernel), inL 737 (by decide +kernel) (by decide +kernel)⟩
theorem mfX7_putUnit : MV' mX7_putUnit 4 := ⟨⟨inL 33 (by decide +kernel) (by decide +kernel), inL 695 (by decide +kernel) (by decide +kernel), ⟨by decide +kernel, by decide +kernel⟩, (by decide +kernel), (by decide +kernel)⟩, inL 693 (by decide +kernel) (by decide +kernel), inL 694 (by decide +kernel) (by decide +kernel)⟩
theorem mfX7_makeRoom : MV' mX7_makeRoom 1 := ⟨⟨inL 33 (by decide +kernel) (by decide +kernel), inL 700 (by decide +kernel) (by decide +kernel), ⟨by decide +kernel, by decide +kernel⟩, (by decide +kernel), (by decide +kernel)⟩, inL 699 (by decide +kernel) (by decide +kernel), inL 6 (by decide +kernel) (by decide +kernel)⟩
theorem mfX7_drop : MV' mX7_drop 1 := ⟨⟨inL 33 (by decide +kernel) (by decide +kernel), inL 749 (by decide +kernel) (by decide +kernel), ⟨by decide +kernel, by decide +kernel⟩, (by decide +kernel), (by decide +kernel)⟩, inL 747 (by decide +kernel) (by decide +kernel), inL 748 (by decide +kernel) (by decide +kernel)⟩
theorem mfX7_dropSeen : MV' mX7_dropSeen 2 := ⟨⟨inL 33 (by decide +kernel) (by decide +kernel), inL 754 (by decide +kernel) (by decide +kernel), ⟨by decide +kernel, by decide +kernel⟩, (by decide +kernel), (by decide +kernel)⟩, inL 752 (by decide +kernel) (by decide +kernel), inL 753 (by decide +kernel) (by decide +kernel)⟩
theorem mfX7_dropAll : MV' mX7_dropAll 2 := ⟨⟨inL 33 (by decide +kernel) (by decide +kernel), inL 812 (by decide +kernel) (by decide +kernel), ⟨by decide +kernel, by decide +kernel⟩, (by decide +kernel), (by decide +kernel)⟩, inL 810 (by decide +kernel) (by decide +kernel), inL 811 (by decide +kernel) (by decide +kernel)⟩
theorem mfX7_releaseAll : MV' mX7_releaseAll 2 := ⟨⟨inL 33 (by decide +kernel) (by decide +kernel), inL 808 (by decide +kernel) (by decide +kernel), ⟨by decide +kernel, by decide +kernel⟩, (by decide +kernel), (by decide +kernel)⟩, inL 806 (by decide +kernel) (by decide +kernel), inL 807 (by decide +kernel) (by decide +kernel)⟩
theorem mfX7_settleStyle : MV' mX7_settleStyle 2 := ⟨⟨inL 33 (by decide +kernel) (by decide +kernel), inL 816 (by decide +kernel) (by decide +kernel), ⟨by decide +kernel, by decide +kernel⟩, (by decide +kernel), (by decide +kernel)⟩, inL 814 (by decide +kernel) (by decide +kernel), inL 815 (by decide +kernel) (by decide +kernel)⟩
theorem mfX7_hasBookmark : MV' mX7_hasBookmark 1 := ⟨⟨inL 33 (by decide +kernel) (by decide +kernel), inL 1108 (by decide +kernel) (by decide +kernel), ⟨by decide +kernel, by decide +kernel⟩, (by decide +kernel), (by decide +kernel)⟩, inL 1106 (by decide +kernel) (by decide +kernel), inL 1107 (by decide +kernel) (by decide +kernel)⟩
theorem mfX7_bookmarkBegin : MV' mX7_bookmarkBegin 1 := ⟨⟨inL 33 (by decide +kernel) (by decide +kernel), inL 1117 (by decide +kernel) (by decide +kernel), ⟨by decide +kernel, by decide +kernel⟩, (by decide +kernel), (by decide +kernel)⟩, inL 1115 (by decide +kernel) (by decide +kernel), inL 1116 (by decide +kernel) (by decide +kernel)⟩
theorem mfX7_bookmarkEnd : MV' mX7_bookmarkEnd 1 := ⟨⟨inL 33 (by decide +kernel) (by decide +kernel), inL 1113 (by decide +kernel) (by decide +kernel), ⟨by decide +kernel, by decide +kernel⟩, (by decide +kernel), (by decide +kernel)⟩, inL 1111 (by decide +kernel) (by decide +kernel), inL 1112 (by decide +kernel) (by decide +kernel)⟩
theorem mfX7_areBookmarksOrdered : MV' mX7_areBookmarksOrdered 0 := ⟨⟨inL 33 (by decide +kernel) (by decide +kernel), inL 1104 (by decide +kernel) (by decide +kernel), ⟨by decide +kernel, by decide +kernel⟩, (by decide +kernel), (by decide +kernel)⟩, inL 1102 (by decide +kernel) (by decide +kernel), inL 1103 (by decide +kernel) (by decide +kernel)⟩
theorem mfX7_isTextOf : MV' mX7_isTextOf 2 := ⟨⟨inL 33 (by decide +kernel) (by decide +kernel), inL 1096 (by decide +kernel) (by decide +kernel), ⟨by decide +kernel, by decide +kernel⟩, (by decide +kernel), (by decide +kernel)⟩, inL 1094 (by decide +kernel) (by decide +kernel), inL 1095 (by decide +kernel) (by decide +kernel)⟩
theorem mfX8_init : MN mX8_init 0 := ⟨⟨inL 35 (by decide +kernel) (by decide +kernel), inL 147 (by decide +kernel) (by decide +kernel), ⟨by decide +kernel, by decide +kernel⟩, (by decide +kernel), (by decide +kernel)⟩, inL 146 (by decide +kernel) (by decide +kernel), rfl⟩
theorem mfX8_keepsWithNext : MV' mX8_keepsWithNext 1 := ⟨⟨inL 35 (by decide +kernel) (by decide +kernel), inL 1005 (by decide +kernel) (by decide +kernel), ⟨by decide +kernel, by decide +kernel⟩, (by decide +kernel), (by decide +kernel)⟩, inL 1003 (by decide +kernel) (by decide +kernel), inL 1004 (by decide +kernel) (by decide +kernel)⟩
theorem mfX9_init : MN mX9_init 0 := ⟨⟨inL 30 (by decide +kernel) (by decide +kernel), inL 62 (by decide +kernel) (by decide +kernel), ⟨by decide +kernel, by decide +kernel⟩, (by decide +kernel), (by decide +kernel)⟩, inL 61 (by decide +kernel) (by decide +kernel), rfl⟩
theorem mfX9_setTracking : MV' mX9_setTracking 1 := ⟨⟨inL 30 (by decide +kernel) (by decide +kernel), inL 853 (by decide +kernel) (by decide +kernel), ⟨by decide +kernel, by decide +kernel⟩, (by decide +kernel), (by decide +kernel)⟩, inL 851 (by decide +kernel) (by decide +kernel), inL 852 (by decide +kernel) (by decide +kernel)⟩
theorem mfX9_insert : MV' mX9_insert 3 := ⟨⟨inL 30 (by decide +kernel) (by decide +kernel), inL 457 (by decide +kernel) (by decide +kernel), ⟨by decide +kernel, by decide +kernel⟩, (by decide +kernel), (by decide +kernel)⟩, inL 455 (by decide +kernel) (by decide +kernel), inL 456 (by decide +kernel) (by decide +kernel)⟩
theorem mfX9_erase : MV' mX9_erase 3 := ⟨⟨inL 30 (by decide +kernel) (by decide +kernel), inL 724 (by decide +kernel) (by decide +kernel), ⟨by decide +kernel, by decide +kernel⟩, (by decide +kernel), (by decide +kernel)⟩, inL 722 (by decide +kernel) (by decide +kernel), inL 723 (by decide +kernel) (by decide +kernel)⟩
theorem mfX9_undo : MV' mX9_undo 0 := ⟨⟨inL 30 (by decide +kernel) (by decide +kernel), inL 892 (by decide +kernel) (by decide +kernel), ⟨by decide +kernel, by decide +kernel⟩, (by decide +kernel), (by decide +kernel)⟩, inL 890 (by decide +kernel) (by decide +kernel), inL 891 (by decide +kernel) (by decide +kernel)⟩
theorem mfX9_redo : MV' mX9_redo 0 := ⟨⟨inL 30 (by decide +kernel) (by decide +kernel), inL 861 (by decide +kernel) (by decide +kernel), ⟨by decide +kernel, by decide +kernel⟩, (by decide +kernel), (by decide +kernel)⟩, inL 859 (by decide +kernel) (by decide +kernel), inL 860 (by decide +kernel) (by decide +kernel)⟩
theorem mfX9_length : MV' mX9_length 0 := ⟨⟨inL 30 (by decide +kernel) (by decide +kernel), inL 908 (by decide +kernel) (by decide +kernel), ⟨by decide +kernel, by decide +kernel⟩, (by decide +kernel), (by decide +kernel)⟩, inL 906 (by decide +kernel) (by decide +kernel), inL 907 (by decide +kernel) (by decide +kernel)⟩
theorem mfX9_unitAt : MV' mX9_unitAt 1 := ⟨⟨inL 30 (by decide +kernel) (by decide +kernel), inL 920 (by decide +kernel) (by decide +kernel), ⟨by decide +kernel, by decide +kernel⟩, (by decide +kernel), (by decide +kernel)⟩, inL 918 (by decide +kernel) (by decide +kernel), inL 919 (by decide +kernel) (by decide +kernel)⟩
theorem mfX9_oldLength : MV' mX9_oldLength 0 := ⟨⟨inL 30 (by decide +kernel) (by decide +kernel), inL 968 (by decide +kernel) (by decide +kernel), ⟨by decide +kernel, by decide +kernel⟩, (by decide +kernel), (by decide +kernel)⟩, inL 966 (by decide +kernel) (by decide +kernel), inL 967 (by decide +kernel) (by decide +kernel)⟩
theorem mfX9_oldAt : MV' mX9_oldAt 1 := ⟨⟨inL 30 (by decide +kernel) (by decide +kernel), inL 945 (by decide +kernel) (by decide +kernel), ⟨by decide +kernel, by decide +kernel⟩, (by decide +kernel), (by decide +kernel)⟩, inL 943 (by decide +kernel) (by decide +kernel), inL 944 (by decide +kernel) (by decide +kernel)⟩
theorem mfX9_paragraphs : MV' mX9_paragraphs 0 := ⟨⟨inL 30 (by decide +kernel) (by decide +kernel), inL 976 (by decide +kernel) (by decide +kernel), ⟨by decide +kernel, by decide +kernel⟩, (by decide +kernel), (by decide +kernel)⟩, inL 974 (by decide +kernel) (by decide +kernel), inL 975 (by decide +kernel) (by decide +kernel)⟩
theorem mfX9_paragraphOf : MV' mX9_paragraphOf 1 := ⟨⟨inL 30 (by decide +kernel) (by decide +kernel), inL 929 (by decide +kernel) (by decide +kernel), ⟨by decide +kernel, by decide +kernel⟩, (by decide +kernel), (by decide +kernel)⟩, inL 927 (by decide +kernel) (by decide +kernel), inL 928 (by decide +kernel) (by decide +kernel)⟩
theorem mfX9_changes : MV' mX9_changes 0 := ⟨⟨inL 30 (by decide +kernel) (by decide +kernel), inL 824 (by decide +kernel) (by decide +kernel), ⟨by decide +kernel, by decide +kernel⟩, (by decide +kernel), (by decide +kernel)⟩, inL 822 (by decide +kernel) (by decide +kernel), inL 823 (by decide +kernel) (by decide +kernel)⟩
theorem mfX9_authorOf : MV' mX9_authorOf 1 := ⟨⟨inL 30 (by decide +kernel) (by decide +kernel), inL 957 (by decide +kernel) (by decide +kernel), ⟨by decide +kernel, by decide +kernel⟩, (by decide +kernel), (by decide +kernel)⟩, inL 955 (by decide +kernel) (by decide +kernel), inL 956 (by decide +kernel) (by decide +kernel)⟩
theorem mfX9_stateOf : MV' mX9_stateOf 1 := ⟨⟨inL 30 (by decide +kernel) (by decide +kernel), inL 829 (by decide +kernel) (by decide +kernel), ⟨by decide +kernel, by decide +kernel⟩, (by decide +kernel), (by decide +kernel)⟩, inL 827 (by decide +kernel) (by decide +kernel), inL 828 (by decide +kernel) (by decide +kernel)⟩
theorem mfX9_unitsOf : MV' mX9_unitsOf 1 := ⟨⟨inL 30 (by decide +kernel) (by decide +kernel), inL 962 (by decide +kernel) (by decide +kernel), ⟨by decide +kernel, by decide +kernel⟩, (by decide +kernel), (by decide +kernel)⟩, inL 960 (by decide +kernel) (by decide +kernel), inL 961 (by decide +kernel) (by decide +kernel)⟩
theorem mfX9_changeAt : MV' mX9_changeAt 1 := ⟨⟨inL 30 (by decide +kernel) (by decide +kernel), inL 940 (by decide +kernel) (by decide +kernel), ⟨by decide +kernel, by decide +kernel⟩, (by decide +kernel), (by decide +kernel)⟩, inL 938 (by decide +kernel) (by decide +kernel), inL 939 (by decide +kernel) (by decide +kernel)⟩
theorem mfX9_accept : MV' mX9_accept 1 := ⟨⟨inL 30 (by decide +kernel) (by decide +kernel), inL 839 (by decide +kernel) (by decide +kernel), ⟨by decide +kernel, by decide +kernel⟩, (by decide +kernel), (by decide +kernel)⟩, inL 837 (by decide +kernel) (by decide +kernel), inL 838 (by decide +kernel) (by decide +kernel)⟩
theorem mfX9_refuse : MV' mX9_refuse 1 := ⟨⟨inL 30 (by decide +kernel) (by decide +kernel), inL 849 (by decide +kernel) (by decide +kernel), ⟨by decide +kernel, by decide +kernel⟩, (by decide +kernel), (by decide +kernel)⟩, inL 847 (by decide +kernel) (by decide +kernel), inL 848 (by decide +kernel) (by decide +kernel)⟩
theorem mfX9_judge : MV' mX9_judge 2 := ⟨⟨inL 30 (by decide +kernel) (by decide +kernel), inL 778 (by decide +kernel) (by decide +kernel), ⟨by decide +kernel, by decide +kernel⟩, (by decide +kernel), (by decide +kernel)⟩, inL 776 (by decide +kernel) (by decide +kernel), inL 777 (by decide +kernel) (by decide +kernel)⟩
theorem mfX9_pages : MV' mX9_pages 0 := ⟨⟨inL 30 (by decide +kernel) (by decide +kernel), inL 985 (by decide +kernel) (by decide +kernel), ⟨by decide +kernel, by decide +kernel⟩, (by decide +kernel), (by decide +kernel)⟩, inL 983 (by decide +kernel) (by decide +kernel), inL 984 (by decide +kernel) (by decide +kernel)⟩
theorem mfX9_waitingShare : MV' mX9_waitingShare 0 := ⟨⟨inL 30 (by decide +kernel) (by decide +kernel), inL 1060 (by decide +kernel) (by decide +kernel), ⟨by decide +kernel, by decide +kernel⟩, (by decide +kernel), (by decide +kernel)⟩, inL 1058 (by decide +kernel) (by decide +kernel), inL 1059 (by decide +kernel) (by decide +kernel)⟩
theorem mfX9_isSound : MV' mX9_isSound 0 := ⟨⟨inL 30 (by decide +kernel) (by decide +kernel), inL 1087 (by decide +kernel) (by decide +kernel), ⟨by decide +kernel, by decide +kernel⟩, (by decide +kernel), (by decide +kernel)⟩, inL 1085 (by decide +kernel) (by decide +kernel), inL 1086 (by decide +kernel) (by decide +kernel)⟩
theorem mfX9_isWithin : MS mX9_isWithin 2 := ⟨⟨inL 30 (by decide +kernel) (by decide +kernel), inL 463 (by decide +kernel) (by decide +kernel), ⟨by decide +kernel, by decide +kernel⟩, (by decide +kernel), (by decide +kernel)⟩, inL 462 (by decide +kernel) (by decide +kernel)⟩
theorem mfX9_cell : MS mX9_cell 2 := ⟨⟨inL 30 (by decide +kernel) (by decide +kernel), inL 619 (by decide +kernel) (by decide +kernel), ⟨by decide +kernel, by decide +kernel⟩, (by decide +kernel), (by decide +kernel)⟩, inL 618 (by decide +kernel) (by decide +kernel)⟩
theorem mfX9_setCell : MS mX9_setCell 3 := ⟨⟨inL 30 (by decide +kernel) (by decide +kernel), inL 691 (by decide +kernel) (by decide +kernel), ⟨by decide +kernel, by decide +kernel⟩, (by decide +kernel), (by decide +kernel)⟩, inL 690 (by decide +kernel) (by decide +kernel)⟩
theorem mfX9_isLetter : MS mX9_isLetter 1 := ⟨⟨inL 30 (by decide +kernel) (by decide +kernel), inL 558 (by decide +kernel) (by decide +kernel), ⟨by decide +kernel, by decide +kernel⟩, (by decide +kernel), (by decide +kernel)⟩, inL 557 (by decide +kernel) (by decide +kernel)⟩
theorem mfX9_checkAuthor : MS mX9_checkAuthor 1 := ⟨⟨inL 30 (by decide +kernel) (by decide +kernel), inL 460 (by decide +kernel) (by decide +kernel), ⟨by decide +kernel, by decide +kernel⟩, (by decide +kernel), (by decide +kernel)⟩, inL 459 (by decide +kernel) (by decide +kernel)⟩
theorem mfX9_checkChange : MV' mX9_checkChange 1 := ⟨⟨inL 30 (by decide +kernel) (by decide +kernel), inL 833 (by decide +kernel) (by decide +kernel), ⟨by decide +kernel, by decide +kernel⟩, (by decide +kernel), (by decide +kernel)⟩, inL 832 (by decide +kernel) (by decide +kernel), inL 10 (by decide +kernel) (by decide +kernel)⟩
theorem mfX9_checkWaiting : MV' mX9_checkWaiting 1 := ⟨⟨inL 30 (by decide +kernel) (by decide +kernel), inL 843 (by decide +kernel) (by decide +kernel), ⟨by decide +kernel, by decide +kernel⟩, (by decide +kernel), (by decide +kernel)⟩, inL 842 (by decide +kernel) (by decide +kernel), inL 11 (by decide +kernel) (by decide +kernel)⟩
theorem mfX9_checkUnguarded : MV' mX9_checkUnguarded 1 := ⟨⟨inL 30 (by decide +kernel) (by decide +kernel), inL 636 (by decide +kernel) (by decide +kernel), ⟨by decide +kernel, by decide +kernel⟩, (by decide +kernel), (by decide +kernel)⟩, inL 635 (by decide +kernel) (by decide +kernel), inL 3 (by decide +kernel) (by decide +kernel)⟩
theorem mfX9_checkWriting : MV' mX9_checkWriting 2 := ⟨⟨inL 30 (by decide +kernel) (by decide +kernel), inL 578 (by decide +kernel) (by decide +kernel), ⟨by decide +kernel, by decide +kernel⟩, (by decide +kernel), (by decide +kernel)⟩, inL 577 (by decide +kernel) (by decide +kernel), inL 2 (by decide +kernel) (by decide +kernel)⟩
theorem mfX9_indexOfPlace : MV' mX9_indexOfPlace 1 := ⟨⟨inL 30 (by decide +kernel) (by decide +kernel), inL 537 (by decide +kernel) (by decide +kernel), ⟨by decide +kernel, by decide +kernel⟩, (by decide +kernel), (by decide +kernel)⟩, inL 536 (by decide +kernel) (by decide +kernel), inL 1 (by decide +kernel) (by decide +kernel)⟩
theorem mfX9_indexOfUnit : MV' mX9_indexOfUnit 1 := ⟨⟨inL 30 (by decide +kernel) (by decide +kernel), inL 924 (by decide +kernel) (by decide +kernel), ⟨by decide +kernel, by decide +kernel⟩, (by decide +kernel), (by decide +kernel)⟩, inL 923 (by decide +kernel) (by decide +kernel), inL 12 (by decide +kernel) (by decide +kernel)⟩
theorem mfX9_write : MV' mX9_write 4 := ⟨⟨inL 30 (by decide +kernel) (by decide +kernel), inL 657 (by decide +kernel) (by decide +kernel), ⟨by decide +kernel, by decide +kernel⟩, (by decide +kernel), (by decide +kernel)⟩, inL 656 (by decide +kernel) (by decide +kernel), inL 4 (by decide +kernel) (by decide +kernel)⟩
theorem mfX9_arrange : MV' mX9_arrange 0 := ⟨⟨inL 30 (by decide +kernel) (by decide +kernel), inL 989 (by decide +kernel) (by decide +kernel), ⟨by decide +kernel, by decide +kernel⟩, (by decide +kernel), (by decide +kernel)⟩, inL 988 (by decide +kernel) (by decide +kernel), inL 13 (by decide +kernel) (by decide +kernel)⟩
theorem mfX9_isJudgedSoundly : MV' mX9_isJudgedSoundly 2 := ⟨⟨inL 30 (by decide +kernel) (by decide +kernel), inL 1091 (by decide +kernel) (by decide +kernel), ⟨by decide +kernel, by decide +kernel⟩, (by decide +kernel), (by decide +kernel)⟩, inL 1090 (by decide +kernel) (by decide +kernel), inL 26 (by decide +kernel) (by decide +kernel)⟩
theorem mfX9_isEachPlaceOnPage : MV' mX9_isEachPlaceOnPage 0 := ⟨⟨inL 30 (by decide +kernel) (by decide +kernel), inL 1121 (by decide +kernel) (by decide +kernel), ⟨by decide +kernel, by decide +kernel⟩, (by decide +kernel), (by decide +kernel)⟩, inL 1120 (by decide +kernel) (by decide +kernel), inL 27 (by decide +kernel) (by decide +kernel)⟩
theorem mfX10_init : MN mX10_init 0 := ⟨⟨inL 40 (by decide +kernel) (by decide +kernel), inL 305 (by decide +kernel) (by decide +kernel), ⟨by decide +kernel, by decide +kernel⟩, (by decide +kernel), (by decide +kernel)⟩, inL 304 (by decide +kernel) (by decide +kernel), rfl⟩
theorem mfX10_edit : MV' mX10_edit 0 := ⟨⟨inL 40 (by decide +kernel) (by decide +kernel), inL 421 (by decide +kernel) (by decide +kernel), ⟨by decide +kernel, by decide +kernel⟩, (by decide +kernel), (by decide +kernel)⟩, inL 419 (by decide +kernel) (by decide +kernel), inL 420 (by decide +kernel) (by decide +kernel)⟩
theorem mfX11_init : MN mX11_init 0 := ⟨⟨inL 41 (by decide +kernel) (by decide +kernel), inL 311 (by decide +kernel) (by decide +kernel), ⟨by decide +kernel, by decide +kernel⟩, (by decide +kernel), (by decide +kernel)⟩, inL 310 (by decide +kernel) (by decide +kernel), rfl⟩
theorem mfX11_copy : MV' mX11_copy 0 := ⟨⟨inL 41 (by decide +kernel) (by decide +kernel), inL 425 (by decide +kernel) (by decide +kernel), ⟨by decide +kernel, by decide +kernel⟩, (by decide +kernel), (by decide +kernel)⟩, inL 423 (by decide +kernel) (by decide +kernel), inL 424 (by decide +kernel) (by decide +kernel)⟩
theorem mfX11_length : MV' mX11_length 0 := ⟨⟨inL 41 (by decide +kernel) (by decide +kernel), inL 376 (by decide +kernel) (by decide +kernel), ⟨by decide +kernel, by decide +kernel⟩, (by decide +kernel), (by decide +kernel)⟩, inL 374 (by decide +kernel) (by decide +kernel), inL 375 (by decide +kernel) (by decide +kernel)⟩
theorem mfX11_at : MV' mX11_at 1 := ⟨⟨inL 41 (by decide +kernel) (by decide +kernel), inL 712 (by decide +kernel) (by decide +kernel), ⟨by decide +kernel, by decide +kernel⟩, (by decide +kernel), (by decide +kernel)⟩, inL 710 (by decide +kernel) (by decide +kernel), inL 711 (by decide +kernel) (by decide +kernel)⟩
theorem mfX11_change : MV' mX11_change 1 := ⟨⟨inL 41 (by decide +kernel) (by decide +kernel), inL 716 (by decide +kernel) (by decide +kernel), ⟨by decide +kernel, by decide +kernel⟩, (by decide +kernel), (by decide +kernel)⟩, inL 714 (by decide +kernel) (by decide +kernel), inL 715 (by decide +kernel) (by decide +kernel)⟩
theorem mfX11_write : MV' mX11_write 4 := ⟨⟨inL 41 (by decide +kernel) (by decide +kernel), inL 708 (by decide +kernel) (by decide +kernel), ⟨by decide +kernel, by decide +kernel⟩, (by decide +kernel), (by decide +kernel)⟩, inL 706 (by decide +kernel) (by decide +kernel), inL 707 (by decide +kernel) (by decide +kernel)⟩
theorem mfX11_drop : MV' mX11_drop 1 := ⟨⟨inL 41 (by decide +kernel) (by decide +kernel), inL 763 (by decide +kernel) (by decide +kernel), ⟨by decide +kernel, by decide +kernel⟩, (by decide +kernel), (by decide +kernel)⟩, inL 762 (by decide +kernel) (by decide +kernel), inL 8 (by decide +kernel) (by decide +kernel)⟩
theorem mfX11_erase : MV' mX11_erase 4 := ⟨⟨inL 41 (by decide +kernel) (by decide +kernel), inL 759 (by decide +kernel) (by decide +kernel), ⟨by decide +kernel, by decide +kernel⟩, (by decide +kernel), (by decide +kernel)⟩, inL 757 (by decide +kernel) (by decide +kernel), inL 758 (by decide +kernel) (by decide +kernel)⟩
theorem mfX11_units : MV' mX11_units 1 := ⟨⟨inL 41 (by decide +kernel) (by decide +kernel), inL 774 (by decide +kernel) (by decide +kernel), ⟨by decide +kernel, by decide +kernel⟩, (by decide +kernel), (by decide +kernel)⟩, inL 772 (by decide +kernel) (by decide +kernel), inL 773 (by decide +kernel) (by decide +kernel)⟩
theorem mfX11_judge : MV' mX11_judge 2 := ⟨⟨inL 41 (by decide +kernel) (by decide +kernel), inL 770 (by decide +kernel) (by decide +kernel), ⟨by decide +kernel, by decide +kernel⟩, (by decide +kernel), (by decide +kernel)⟩, inL 768 (by decide +kernel) (by decide +kernel), inL 769 (by decide +kernel) (by decide +kernel)⟩
theorem mfX12_init : MN mX12_init 2 := ⟨⟨inL 46 (by decide +kernel) (by decide +kernel), inL 436 (by decide +kernel) (by decide +kernel), ⟨by decide +kernel, by decide +kernel⟩, (by decide +kernel), (by decide +kernel)⟩, inL 435 (by decide +kernel) (by decide +kernel), rfl⟩
theorem mfX12_copy : MV' mX12_copy 0 := ⟨⟨inL 46 (by decide +kernel) (by decide +kernel), inL 431 (by decide +kernel) (by decide +kernel), ⟨by decide +kernel, by decide +kernel⟩, (by decide +kernel), (by decide +kernel)⟩, inL 429 (by decide +kernel) (by decide +kernel), inL 430 (by decide +kernel) (by decide +kernel)⟩
theorem mfL_cell : MS mL_cell 2 := ⟨⟨inL 29 (by decide +kernel) (by decide +kernel), inL 364 (by decide +kernel) (by decide +kernel), ⟨by decide +kernel, by decide +kernel⟩, (by decide +kernel), (by decide +kernel)⟩, inL 363 (by decide +kernel) (by decide +kernel)⟩
theorem mfL_low : MS mL_low 2 := ⟨⟨inL 29 (by decide +kernel) (by decide +kernel), inL 368 (by decide +kernel) (by decide +kernel), ⟨by decide +kernel, by decide +kernel⟩, (by decide +kernel), (by decide +kernel)⟩, inL 367 (by decide +kernel) (by decide +kernel)⟩
theorem mfL_undoes : MS mL_undoes 2 := ⟨⟨inL 29 (by decide +kernel) (by decide +kernel), inL 888 (by decide +kernel) (by decide +kernel), ⟨by decide +kernel, by decide +kernel⟩, (by decide +kernel), (by decide +kernel)⟩, inL 887 (by decide +kernel) (by decide +kernel)⟩
theorem mfL_redoes : MS mL_redoes 2 := ⟨⟨inL 29 (by decide +kernel) (by decide +kernel), inL 856 (by decide +kernel) (by decide +kernel), ⟨by decide +kernel, by decide +kernel⟩, (by decide +kernel), (by decide +kernel)⟩, inL 855 (by decide +kernel) (by decide +kernel)⟩
theorem mfL_judges : MS mL_judges 3 := ⟨⟨inL 29 (by decide +kernel) (by decide +kernel), inL 766 (by decide +kernel) (by decide +kernel), ⟨by decide +kernel, by decide +kernel⟩, (by decide +kernel), (by decide +kernel)⟩, inL 765 (by decide +kernel) (by decide +kernel)⟩
theorem mfL_acts : MS mL_acts 3 := ⟨⟨inL 29 (by decide +kernel) (by decide +kernel), inL 372 (by decide +kernel) (by decide +kernel), ⟨by decide +kernel, by decide +kernel⟩, (by decide +kernel), (by decide +kernel)⟩, inL 371 (by decide +kernel) (by decide +kernel)⟩
theorem mfL_agrees : MS mL_agrees 2 := ⟨⟨inL 29 (by decide +kernel) (by decide +kernel), inL 904 (by decide +kernel) (by decide +kernel), ⟨by decide +kernel, by decide +kernel⟩, (by decide +kernel), (by decide +kernel)⟩, inL 903 (by decide +kernel) (by decide +kernel)⟩
theorem mfL_changeAt : MS mL_changeAt 2 := ⟨⟨inL 29 (by decide +kernel) (by decide +kernel), inL 936 (by decide +kernel) (by decide +kernel), ⟨by decide +kernel, by decide +kernel⟩, (by decide +kernel), (by decide +kernel)⟩, inL 935 (by decide +kernel) (by decide +kernel)⟩
theorem mfL_isLeft : MS mL_isLeft 3 := ⟨⟨inL 29 (by decide +kernel) (by decide +kernel), inL 1083 (by decide +kernel) (by decide +kernel), ⟨by decide +kernel, by decide +kernel⟩, (by decide +kernel), (by decide +kernel)⟩, inL 1082 (by decide +kernel) (by decide +kernel)⟩
theorem ml_X1_103 : Cond.methodLink RX1 103 mX1_closeParagraph.1 ∈ L0 := inL 1007 (by decide +kernel) (by decide +kernel)
theorem ml_X1_107 : Cond.methodLink RX1 107 mX1_addSigns.1 ∈ L0 := inL 1012 (by decide +kernel) (by decide +kernel)
theorem ml_X1_115 : Cond.methodLink RX1 115 mX1_addSign.1 ∈ L0 := inL 1016 (by decide +kernel) (by decide +kernel)
theorem ml_X1_118 : Cond.methodLink RX1 118 mX1_breakParagraph.1 ∈ L0 := inL 1025 (by decide +kernel) (by decide +kernel)
theorem ml_X1_122 : Cond.methodLink RX1 122 mX1_endOfLine.1 ∈ L0 := inL 1029 (by decide +kernel) (by decide +kernel)
theorem ml_X1_125 : Cond.methodLink RX1 125 mX1_keepsAt.1 ∈ L0 := inL 1037 (by decide +kernel) (by decide +kernel)
theorem ml_X1_128 : Cond.methodLink RX1 128 mX1_linesTogether.1 ∈ L0 := inL 1041 (by decide +kernel) (by decide +kernel)
theorem ml_X1_131 : Cond.methodLink RX1 131 mX1_turnPageFor.1 ∈ L0 := inL 1045 (by decide +kernel) (by decide +kernel)
theorem ml_X1_135 : Cond.methodLink RX1 135 mX1_placeLine.1 ∈ L0 := inL 1049 (by decide +kernel) (by decide +kernel)
theorem ml_X1_62 : Cond.methodLink RX1 62 mX1_readSigns.1 ∈ L0 := inL 994 (by decide +kernel) (by decide +kernel)
theorem ml_X1_66 : Cond.methodLink RX1 66 mX1_breakLines.1 ∈ L0 := inL 1021 (by decide +kernel) (by decide +kernel)
theorem ml_X1_69 : Cond.methodLink RX1 69 mX1_fillPages.1 ∈ L0 := inL 1033 (by decide +kernel) (by decide +kernel)
theorem ml_X1_72 : Cond.methodLink RX1 72 mX1_lineNumber.1 ∈ L0 := inL 1126 (by decide +kernel) (by decide +kernel)
theorem ml_X1_84 : Cond.methodLink RX1 84 mX7_allUnits.1 ∈ L0 := inL 999 (by decide +kernel) (by decide +kernel)
theorem ml_X1_90 : Cond.methodLink RX1 90 mX7_isSeen.1 ∈ L0 := inL 1000 (by decide +kernel) (by decide +kernel)
theorem ml_X1_94 : Cond.methodLink RX1 94 mX7_fact.1 ∈ L0 := inL 1001 (by decide +kernel) (by decide +kernel)
theorem ml_X1_98 : Cond.methodLink RX1 98 mX8_keepsWithNext.1 ∈ L0 := inL 1002 (by decide +kernel) (by decide +kernel)
theorem ml_X2_31 : Cond.methodLink RX2 31 mX2_isFull.1 ∈ L0 := inL 688 (by decide +kernel) (by decide +kernel)
theorem ml_X2_47 : Cond.methodLink RX2 47 mX2_state.1 ∈ L0 := inL 613 (by decide +kernel) (by decide +kernel)
theorem ml_X2_51 : Cond.methodLink RX2 51 mX2_author.1 ∈ L0 := inL 620 (by decide +kernel) (by decide +kernel)
theorem ml_X4_102 : Cond.methodLink RX4 102 mX7_releaseAll.1 ∈ L0 := inL 805 (by decide +kernel) (by decide +kernel)
theorem ml_X4_106 : Cond.methodLink RX4 106 mX7_dropAll.1 ∈ L0 := inL 809 (by decide +kernel) (by decide +kernel)
theorem ml_X4_109 : Cond.methodLink RX4 109 mX2_many.1 ∈ L0 := inL 783 (by decide +kernel) (by decide +kernel)
theorem ml_X4_11 : Cond.methodLink RX4 11 mX7_init.1 ∈ L0 := inL 81 (by decide +kernel) (by decide +kernel)
theorem ml_X4_113 : Cond.methodLink RX4 113 mX2_state.1 ∈ L0 := inL 787 (by decide +kernel) (by decide +kernel)
theorem ml_X4_116 : Cond.methodLink RX4 116 mX2_author.1 ∈ L0 := inL 788 (by decide +kernel) (by decide +kernel)
theorem ml_X4_29 : Cond.methodLink RX4 29 mX7_takeRow.1 ∈ L0 := inL 671 (by decide +kernel) (by decide +kernel)
theorem ml_X4_33 : Cond.methodLink RX4 33 mX2_takeLog.1 ∈ L0 := inL 678 (by decide +kernel) (by decide +kernel)
theorem ml_X4_47 : Cond.methodLink RX4 47 mX7_fact.1 ∈ L0 := inL 607 (by decide +kernel) (by decide +kernel)
theorem ml_X4_51 : Cond.methodLink RX4 51 mX2_isWaitingOf.1 ∈ L0 := inL 608 (by decide +kernel) (by decide +kernel)
theorem ml_X4_55 : Cond.methodLink RX4 55 mX7_isSeen.1 ∈ L0 := inL 730 (by decide +kernel) (by decide +kernel)
theorem ml_X4_59 : Cond.methodLink RX4 59 mX4_isOwn.1 ∈ L0 := inL 731 (by decide +kernel) (by decide +kernel)
theorem ml_X4_62 : Cond.methodLink RX4 62 mX4_hasOthers.1 ∈ L0 := inL 744 (by decide +kernel) (by decide +kernel)
theorem ml_X4_66 : Cond.methodLink RX4 66 mX2_enroll.1 ∈ L0 := inL 745 (by decide +kernel) (by decide +kernel)
theorem ml_X4_70 : Cond.methodLink RX4 70 mX7_drop.1 ∈ L0 := inL 746 (by decide +kernel) (by decide +kernel)
theorem ml_X4_74 : Cond.methodLink RX4 74 mX7_setFact.1 ∈ L0 := inL 750 (by decide +kernel) (by decide +kernel)
theorem ml_X4_78 : Cond.methodLink RX4 78 mX4_settle.1 ∈ L0 := inL 789 (by decide +kernel) (by decide +kernel)
theorem ml_X4_82 : Cond.methodLink RX4 82 mX7_concerned.1 ∈ L0 := inL 793 (by decide +kernel) (by decide +kernel)
theorem ml_X4_86 : Cond.methodLink RX4 86 mX2_kind.1 ∈ L0 := inL 797 (by decide +kernel) (by decide +kernel)
theorem ml_X4_90 : Cond.methodLink RX4 90 mX4_settleUnits.1 ∈ L0 := inL 801 (by decide +kernel) (by decide +kernel)
theorem ml_X4_94 : Cond.methodLink RX4 94 mX7_settleStyle.1 ∈ L0 := inL 813 (by decide +kernel) (by decide +kernel)
theorem ml_X4_98 : Cond.methodLink RX4 98 mX2_setState.1 ∈ L0 := inL 817 (by decide +kernel) (by decide +kernel)
theorem ml_X5_29 : Cond.methodLink RX5 29 mX5_now.1 ∈ L0 := inL 662 (by decide +kernel) (by decide +kernel)
theorem ml_X5_33 : Cond.methodLink RX5 33 mX5_forgetFirst.1 ∈ L0 := inL 663 (by decide +kernel) (by decide +kernel)
theorem ml_X5_36 : Cond.methodLink RX5 36 mX4_takeFrom.1 ∈ L0 := inL 667 (by decide +kernel) (by decide +kernel)
theorem ml_X7_31 : Cond.methodLink RX7 31 mX7_fact.1 ∈ L0 := inL 551 (by decide +kernel) (by decide +kernel)
theorem ml_X7_35 : Cond.methodLink RX7 35 mX7_isSeen.1 ∈ L0 := inL 547 (by decide +kernel) (by decide +kernel)
theorem ml_X7_39 : Cond.methodLink RX7 39 mX7_isOld.1 ∈ L0 := inL 950 (by decide +kernel) (by decide +kernel)
theorem ml_X7_42 : Cond.methodLink RX7 42 mX7_isSeenEnd.1 ∈ L0 := inL 629 (by decide +kernel) (by decide +kernel)
theorem ml_X7_49 : Cond.methodLink RX7 49 mX7_placeOf.1 ∈ L0 := inL 913 (by decide +kernel) (by decide +kernel)
theorem ml_X7_52 : Cond.methodLink RX7 52 mX7_endsAhead.1 ∈ L0 := inL 981 (by decide +kernel) (by decide +kernel)
theorem ml_X7_55 : Cond.methodLink RX7 55 mX7_endFrom.1 ∈ L0 := inL 696 (by decide +kernel) (by decide +kernel)
theorem ml_X7_58 : Cond.methodLink RX7 58 mX7_makeRoom.1 ∈ L0 := inL 697 (by decide +kernel) (by decide +kernel)
theorem ml_X7_62 : Cond.methodLink RX7 62 mX7_setFact.1 ∈ L0 := inL 701 (by decide +kernel) (by decide +kernel)
theorem ml_X7_66 : Cond.methodLink RX7 66 mX7_drop.1 ∈ L0 := inL 755 (by decide +kernel) (by decide +kernel)
theorem ml_X7_77 : Cond.methodLink RX7 77 mX7_bookmarkBegin.1 ∈ L0 := inL 1114 (by decide +kernel) (by decide +kernel)
theorem ml_X7_80 : Cond.methodLink RX7 80 mX7_hasBookmark.1 ∈ L0 := inL 1105 (by decide +kernel) (by decide +kernel)
theorem ml_X7_83 : Cond.methodLink RX7 83 mX7_bookmarkEnd.1 ∈ L0 := inL 1110 (by decide +kernel) (by decide +kernel)
theorem ml_X9_114 : Cond.methodLink RX9 114 mX5_now.1 ∈ L0 := inL 538 (by decide +kernel) (by decide +kernel)
theorem ml_X9_122 : Cond.methodLink RX9 122 mX2_isFull.1 ∈ L0 := inL 599 (by decide +kernel) (by decide +kernel)
theorem ml_X9_125 : Cond.methodLink RX9 125 mX4_hasOthers.1 ∈ L0 := inL 726 (by decide +kernel) (by decide +kernel)
theorem ml_X9_135 : Cond.methodLink RX9 135 mX7_isGuarded.1 ∈ L0 := inL 735 (by decide +kernel) (by decide +kernel)
theorem ml_X9_146 : Cond.methodLink RX9 146 mX5_begin.1 ∈ L0 := inL 658 (by decide +kernel) (by decide +kernel)
theorem ml_X9_149 : Cond.methodLink RX9 149 mX4_strike.1 ∈ L0 := inL 740 (by decide +kernel) (by decide +kernel)
theorem ml_X9_15 : Cond.methodLink RX9 15 mX5_init.1 ∈ L0 := inL 68 (by decide +kernel) (by decide +kernel)
theorem ml_X9_153 : Cond.methodLink RX9 153 mX7_dropSeen.1 ∈ L0 := inL 751 (by decide +kernel) (by decide +kernel)
theorem ml_X9_168 : Cond.methodLink RX9 168 mX7_fact.1 ∈ L0 := inL 637 (by decide +kernel) (by decide +kernel)
theorem ml_X9_172 : Cond.methodLink RX9 172 mX9_checkUnguarded.1 ∈ L0 := inL 633 (by decide +kernel) (by decide +kernel)
theorem ml_X9_185 : Cond.methodLink RX9 185 mX5_canGoBack.1 ∈ L0 := inL 893 (by decide +kernel) (by decide +kernel)
theorem ml_X9_193 : Cond.methodLink RX9 193 mX5_goBack.1 ∈ L0 := inL 898 (by decide +kernel) (by decide +kernel)
theorem ml_X9_197 : Cond.methodLink RX9 197 mX5_canGoOn.1 ∈ L0 := inL 862 (by decide +kernel) (by decide +kernel)
theorem ml_X9_202 : Cond.methodLink RX9 202 mX5_goOn.1 ∈ L0 := inL 882 (by decide +kernel) (by decide +kernel)
theorem ml_X9_205 : Cond.methodLink RX9 205 mX7_seenUnits.1 ∈ L0 := inL 909 (by decide +kernel) (by decide +kernel)
theorem ml_X9_208 : Cond.methodLink RX9 208 mX9_indexOfUnit.1 ∈ L0 := inL 921 (by decide +kernel) (by decide +kernel)
theorem ml_X9_211 : Cond.methodLink RX9 211 mX7_oldUnits.1 ∈ L0 := inL 969 (by decide +kernel) (by decide +kernel)
theorem ml_X9_214 : Cond.methodLink RX9 214 mX7_indexOfOld.1 ∈ L0 := inL 946 (by decide +kernel) (by decide +kernel)
theorem ml_X9_219 : Cond.methodLink RX9 219 mX7_seenParagraphs.1 ∈ L0 := inL 977 (by decide +kernel) (by decide +kernel)
theorem ml_X9_222 : Cond.methodLink RX9 222 mX7_endsAhead.1 ∈ L0 := inL 930 (by decide +kernel) (by decide +kernel)
theorem ml_X9_228 : Cond.methodLink RX9 228 mX2_many.1 ∈ L0 := inL 825 (by decide +kernel) (by decide +kernel)
theorem ml_X9_231 : Cond.methodLink RX9 231 mX9_checkChange.1 ∈ L0 := inL 830 (by decide +kernel) (by decide +kernel)
theorem ml_X9_238 : Cond.methodLink RX9 238 mX2_author.1 ∈ L0 := inL 958 (by decide +kernel) (by decide +kernel)
theorem ml_X9_241 : Cond.methodLink RX9 241 mX2_state.1 ∈ L0 := inL 835 (by decide +kernel) (by decide +kernel)
theorem ml_X9_244 : Cond.methodLink RX9 244 mX7_concerned.1 ∈ L0 := inL 963 (by decide +kernel) (by decide +kernel)
theorem ml_X9_249 : Cond.methodLink RX9 249 mX9_checkWaiting.1 ∈ L0 := inL 840 (by decide +kernel) (by decide +kernel)
theorem ml_X9_252 : Cond.methodLink RX9 252 mX4_settle.1 ∈ L0 := inL 845 (by decide +kernel) (by decide +kernel)
theorem ml_X9_256 : Cond.methodLink RX9 256 mX4_settleAll.1 ∈ L0 := inL 779 (by decide +kernel) (by decide +kernel)
theorem ml_X9_270 : Cond.methodLink RX9 270 mX9_isWithin.1 ∈ L0 := inL 461 (by decide +kernel) (by decide +kernel)
theorem ml_X9_29 : Cond.methodLink RX9 29 mX8_init.1 ∈ L0 := inL 145 (by decide +kernel) (by decide +kernel)
theorem ml_X9_36 : Cond.methodLink RX9 36 mX3_init.1 ∈ L0 := inL 164 (by decide +kernel) (by decide +kernel)
theorem ml_X9_366 : Cond.methodLink RX9 366 mX9_arrange.1 ∈ L0 := inL 986 (by decide +kernel) (by decide +kernel)
theorem ml_X9_369 : Cond.methodLink RX9 369 mX1_manyPages.1 ∈ L0 := inL 1053 (by decide +kernel) (by decide +kernel)
theorem ml_X9_372 : Cond.methodLink RX9 372 mX1_pageAt.1 ∈ L0 := inL 1122 (by decide +kernel) (by decide +kernel)
theorem ml_X9_378 : Cond.methodLink RX9 378 mX7_allUnits.1 ∈ L0 := inL 579 (by decide +kernel) (by decide +kernel)
theorem ml_X9_386 : Cond.methodLink RX9 386 mX7_waitingUnits.1 ∈ L0 := inL 1077 (by decide +kernel) (by decide +kernel)
theorem ml_X9_405 : Cond.methodLink RX9 405 mX9_isJudgedSoundly.1 ∈ L0 := inL 1088 (by decide +kernel) (by decide +kernel)
theorem ml_X9_409 : Cond.methodLink RX9 409 mX2_isAuthored.1 ∈ L0 := inL 1097 (by decide +kernel) (by decide +kernel)
theorem ml_X9_412 : Cond.methodLink RX9 412 mX7_areBookmarksOrdered.1 ∈ L0 := inL 1101 (by decide +kernel) (by decide +kernel)
theorem ml_X9_415 : Cond.methodLink RX9 415 mX9_isEachPlaceOnPage.1 ∈ L0 := inL 1118 (by decide +kernel) (by decide +kernel)
theorem ml_X9_438 : Cond.methodLink RX9 438 mX4_changeAhead.1 ∈ L0 := inL 603 (by decide +kernel) (by decide +kernel)
theorem ml_X9_441 : Cond.methodLink RX9 441 mX7_endFrom.1 ∈ L0 := inL 625 (by decide +kernel) (by decide +kernel)
theorem ml_X9_444 : Cond.methodLink RX9 444 mX7_indexOf.1 ∈ L0 := inL 543 (by decide +kernel) (by decide +kernel)
theorem ml_X9_454 : Cond.methodLink RX9 454 mX2_enroll.1 ∈ L0 := inL 684 (by decide +kernel) (by decide +kernel)
theorem ml_X9_455 : Cond.methodLink RX9 455 mX7_putUnit.1 ∈ L0 := inL 692 (by decide +kernel) (by decide +kernel)
theorem ml_X9_459 : Cond.methodLink RX9 459 mX1_layOut.1 ∈ L0 := inL 990 (by decide +kernel) (by decide +kernel)
theorem ml_X9_488 : Cond.methodLink RX9 488 mX4_takeFrom.1 ∈ L0 := inL 1092 (by decide +kernel) (by decide +kernel)
theorem ml_X9_492 : Cond.methodLink RX9 492 mX7_isTextOf.1 ∈ L0 := inL 1093 (by decide +kernel) (by decide +kernel)
theorem ml_X9_66 : Cond.methodLink RX9 66 mX9_checkAuthor.1 ∈ L0 := inL 458 (by decide +kernel) (by decide +kernel)
theorem ml_X9_70 : Cond.methodLink RX9 70 mX9_indexOfPlace.1 ∈ L0 := inL 534 (by decide +kernel) (by decide +kernel)
theorem ml_X9_74 : Cond.methodLink RX9 74 mX9_isLetter.1 ∈ L0 := inL 556 (by decide +kernel) (by decide +kernel)
theorem ml_X9_85 : Cond.methodLink RX9 85 mX9_checkWriting.1 ∈ L0 := inL 575 (by decide +kernel) (by decide +kernel)
theorem ml_X9_89 : Cond.methodLink RX9 89 mX9_write.1 ∈ L0 := inL 654 (by decide +kernel) (by decide +kernel)
theorem ml_X10_31 : Cond.methodLink RX10 31 mX11_copy.1 ∈ L0 := inL 422 (by decide +kernel) (by decide +kernel)
theorem ml_X11_23 : Cond.methodLink RX11 23 mX11_init.1 ∈ L0 := inL 427 (by decide +kernel) (by decide +kernel)
theorem ml_X11_28 : Cond.methodLink RX11 28 mX12_copy.1 ∈ L0 := inL 428 (by decide +kernel) (by decide +kernel)
theorem ml_X11_38 : Cond.methodLink RX11 38 mX11_at.1 ∈ L0 := inL 709 (by decide +kernel) (by decide +kernel)
theorem ml_X11_45 : Cond.methodLink RX11 45 mX11_change.1 ∈ L0 := inL 713 (by decide +kernel) (by decide +kernel)
theorem ml_X11_48 : Cond.methodLink RX11 48 mX12_init.1 ∈ L0 := inL 717 (by decide +kernel) (by decide +kernel)
theorem ml_X11_51 : Cond.methodLink RX11 51 mX11_drop.1 ∈ L0 := inL 760 (by decide +kernel) (by decide +kernel)
theorem ml_X11_55 : Cond.methodLink RX11 55 mX11_units.1 ∈ L0 := inL 771 (by decide +kernel) (by decide +kernel)
theorem ml_X12_20 : Cond.methodLink RX12 20 mX12_init.1 ∈ L0 := inL 434 (by decide +kernel) (by decide +kernel)
theorem ml_L_107 : Cond.methodLink RL 107 mX9_erase.1 ∈ L0 := inL 721 (by decide +kernel) (by decide +kernel)
theorem ml_L_111 : Cond.methodLink RL 111 mX11_erase.1 ∈ L0 := inL 756 (by decide +kernel) (by decide +kernel)
theorem ml_L_114 : Cond.methodLink RL 114 mL_judges.1 ∈ L0 := inL 764 (by decide +kernel) (by decide +kernel)
theorem ml_L_118 : Cond.methodLink RL 118 mX9_setTracking.1 ∈ L0 := inL 850 (by decide +kernel) (by decide +kernel)
theorem ml_L_122 : Cond.methodLink RL 122 mL_redoes.1 ∈ L0 := inL 854 (by decide +kernel) (by decide +kernel)
theorem ml_L_126 : Cond.methodLink RL 126 mL_undoes.1 ∈ L0 := inL 886 (by decide +kernel) (by decide +kernel)
theorem ml_L_129 : Cond.methodLink RL 129 mX9_length.1 ∈ L0 := inL 905 (by decide +kernel) (by decide +kernel)
theorem ml_L_145 : Cond.methodLink RL 145 mX9_unitAt.1 ∈ L0 := inL 917 (by decide +kernel) (by decide +kernel)
theorem ml_L_152 : Cond.methodLink RL 152 mX9_paragraphOf.1 ∈ L0 := inL 926 (by decide +kernel) (by decide +kernel)
theorem ml_L_155 : Cond.methodLink RL 155 mL_changeAt.1 ∈ L0 := inL 934 (by decide +kernel) (by decide +kernel)
theorem ml_L_159 : Cond.methodLink RL 159 mX9_oldAt.1 ∈ L0 := inL 942 (by decide +kernel) (by decide +kernel)
theorem ml_L_162 : Cond.methodLink RL 162 mX9_authorOf.1 ∈ L0 := inL 954 (by decide +kernel) (by decide +kernel)
theorem ml_L_165 : Cond.methodLink RL 165 mX9_unitsOf.1 ∈ L0 := inL 959 (by decide +kernel) (by decide +kernel)
theorem ml_L_168 : Cond.methodLink RL 168 mX11_units.1 ∈ L0 := inL 964 (by decide +kernel) (by decide +kernel)
theorem ml_L_171 : Cond.methodLink RL 171 mX9_oldLength.1 ∈ L0 := inL 965 (by decide +kernel) (by decide +kernel)
theorem ml_L_174 : Cond.methodLink RL 174 mX9_paragraphs.1 ∈ L0 := inL 973 (by decide +kernel) (by decide +kernel)
theorem ml_L_177 : Cond.methodLink RL 177 mX9_pages.1 ∈ L0 := inL 982 (by decide +kernel) (by decide +kernel)
theorem ml_L_180 : Cond.methodLink RL 180 mX9_waitingShare.1 ∈ L0 := inL 1057 (by decide +kernel) (by decide +kernel)
theorem ml_L_184 : Cond.methodLink RL 184 mX9_changeAt.1 ∈ L0 := inL 937 (by decide +kernel) (by decide +kernel)
theorem ml_L_186 : Cond.methodLink RL 186 mX9_isSound.1 ∈ L0 := inL 1084 (by decide +kernel) (by decide +kernel)
theorem ml_L_190 : Cond.methodLink RL 190 mX9_init.1 ∈ L0 := inL 60 (by decide +kernel) (by decide +kernel)
theorem ml_L_192 : Cond.methodLink RL 192 mL_cell.1 ∈ L0 := inL 362 (by decide +kernel) (by decide +kernel)
theorem ml_L_196 : Cond.methodLink RL 196 mL_acts.1 ∈ L0 := inL 370 (by decide +kernel) (by decide +kernel)
theorem ml_L_199 : Cond.methodLink RL 199 mL_agrees.1 ∈ L0 := inL 902 (by decide +kernel) (by decide +kernel)
theorem ml_L_202 : Cond.methodLink RL 202 mL_isLeft.1 ∈ L0 := inL 1081 (by decide +kernel) (by decide +kernel)
theorem ml_L_37 : Cond.methodLink RL 37 mX9_redo.1 ∈ L0 := inL 858 (by decide +kernel) (by decide +kernel)
theorem ml_L_40 : Cond.methodLink RL 40 mL_low.1 ∈ L0 := inL 366 (by decide +kernel) (by decide +kernel)
theorem ml_L_46 : Cond.methodLink RL 46 mX10_edit.1 ∈ L0 := inL 418 (by decide +kernel) (by decide +kernel)
theorem ml_L_62 : Cond.methodLink RL 62 mX11_judge.1 ∈ L0 := inL 767 (by decide +kernel) (by decide +kernel)
theorem ml_L_66 : Cond.methodLink RL 66 mX9_judge.1 ∈ L0 := inL 775 (by decide +kernel) (by decide +kernel)
theorem ml_L_67 : Cond.methodLink RL 67 mX9_changes.1 ∈ L0 := inL 821 (by decide +kernel) (by decide +kernel)
theorem ml_L_69 : Cond.methodLink RL 69 mX9_stateOf.1 ∈ L0 := inL 826 (by decide +kernel) (by decide +kernel)
theorem ml_L_73 : Cond.methodLink RL 73 mX9_accept.1 ∈ L0 := inL 836 (by decide +kernel) (by decide +kernel)
theorem ml_L_77 : Cond.methodLink RL 77 mX9_refuse.1 ∈ L0 := inL 846 (by decide +kernel) (by decide +kernel)
theorem ml_L_80 : Cond.methodLink RL 80 mX11_length.1 ∈ L0 := inL 373 (by decide +kernel) (by decide +kernel)
theorem ml_L_9 : Cond.methodLink RL 9 mX9_undo.1 ∈ L0 := inL 889 (by decide +kernel) (by decide +kernel)
theorem ml_L_90 : Cond.methodLink RL 90 mX9_insert.1 ∈ L0 := inL 454 (by decide +kernel) (by decide +kernel)
theorem ml_L_98 : Cond.methodLink RL 98 mX11_write.1 ∈ L0 := inL 705 (by decide +kernel) (by decide +kernel)
theorem ml_X1_111 : ∃ h : String, (RX1, 111, mX9_isWithin.1, h) ∈ XM := ⟨_, List.mem_of_getElem? (i := 14) rfl⟩
theorem ml_X1_76 : ∃ h : String, (RX1, 76, mX9_cell.1, h) ∈ XM := ⟨_, List.mem_of_getElem? (i := 15) rfl⟩
theorem ml_X1_80 : ∃ h : String, (RX1, 80, mX9_setCell.1, h) ∈ XM := ⟨_, List.mem_of_getElem? (i := 12) rfl⟩
theorem ml_X2_35 : ∃ h : String, (RX2, 35, mX9_setCell.1, h) ∈ XM := ⟨_, List.mem_of_getElem? (i := 11) rfl⟩
theorem ml_X2_39 : ∃ h : String, (RX2, 39, mX9_cell.1, h) ∈ XM := ⟨_, List.mem_of_getElem? (i := 10) rfl⟩
theorem ml_X2_43 : ∃ h : String, (RX2, 43, mX9_isWithin.1, h) ∈ XM := ⟨_, List.mem_of_getElem? (i := 9) rfl⟩
theorem ml_X4_20 : ∃ h : String, (RX4, 20, mX2_init.1, h) ∈ XM := ⟨_, List.mem_of_getElem? (i := 1) rfl⟩
theorem ml_X5_24 : ∃ h : String, (RX5, 24, mX4_init.1, h) ∈ XM := ⟨_, List.mem_of_getElem? (i := 0) rfl⟩
theorem ml_X5_25 : ∃ h : String, (RX5, 25, mX9_isWithin.1, h) ∈ XM := ⟨_, List.mem_of_getElem? (i := 8) rfl⟩
theorem ml_X7_73 : ∃ h : String, (RX7, 73, mX9_cell.1, h) ∈ XM := ⟨_, List.mem_of_getElem? (i := 16) rfl⟩
theorem ml_X8_33 : ∃ h : String, (RX8, 33, mX9_cell.1, h) ∈ XM := ⟨_, List.mem_of_getElem? (i := 13) rfl⟩
theorem ml_X9_22 : ∃ h : String, (RX9, 22, mX4_init.1, h) ∈ XM := ⟨_, List.mem_of_getElem? (i := 2) rfl⟩
theorem ml_X9_43 : ∃ h : String, (RX9, 43, mX0_init.1, h) ∈ XM := ⟨_, List.mem_of_getElem? (i := 3) rfl⟩
theorem ml_X9_50 : ∃ h : String, (RX9, 50, mX6_init.1, h) ∈ XM := ⟨_, List.mem_of_getElem? (i := 4) rfl⟩
theorem ml_X9_57 : ∃ h : String, (RX9, 57, mX1_init.1, h) ∈ XM := ⟨_, List.mem_of_getElem? (i := 5) rfl⟩
theorem ml_X10_9 : ∃ h : String, (RX10, 9, mX11_init.1, h) ∈ XM := ⟨_, List.mem_of_getElem? (i := 7) rfl⟩
theorem ml_L_191 : ∃ h : String, (RL, 191, mX10_init.1, h) ∈ XM := ⟨_, List.mem_of_getElem? (i := 6) rfl⟩
theorem cl_X4_18 : Cond.classLink RX4 18 "SealOffice$Log" ∈ L0 := inL 99 (by decide +kernel) (by decide +kernel)
theorem cl_X4_9 : Cond.classLink RX4 9 "SealOffice$Row" ∈ L0 := inL 79 (by decide +kernel) (by decide +kernel)
theorem cl_X5_9 : Cond.classLink RX5 9 "SealOffice$Paper" ∈ L0 := inL 72 (by decide +kernel) (by decide +kernel)
theorem cl_X9_103 : Cond.classLink RX9 103 "java/lang/IllegalStateException" ∈ L0 := inL 583 (by decide +kernel) (by decide +kernel)
theorem cl_X9_13 : Cond.classLink RX9 13 "SealOffice$Past" ∈ L0 := inL 66 (by decide +kernel) (by decide +kernel)
theorem cl_X9_141 : Cond.classLink RX9 141 "java/lang/UnsupportedOperationException" ∈ L0 := inL 638 (by decide +kernel) (by decide +kernel)
theorem cl_X9_163 : Cond.classLink RX9 163 "java/lang/IndexOutOfBoundsException" ∈ L0 := inL 464 (by decide +kernel) (by decide +kernel)
theorem cl_X9_188 : Cond.classLink RX9 188 "java/util/NoSuchElementException" ∈ L0 := inL 866 (by decide +kernel) (by decide +kernel)
theorem cl_X9_20 : Cond.classLink RX9 20 "SealOffice$Paper" ∈ L0 := inL 141 (by decide +kernel) (by decide +kernel)
theorem cl_X9_27 : Cond.classLink RX9 27 "SealOffice$Styles" ∈ L0 := inL 143 (by decide +kernel) (by decide +kernel)
theorem cl_X9_34 : Cond.classLink RX9 34 "SealOffice$Numbers" ∈ L0 := inL 162 (by decide +kernel) (by decide +kernel)
theorem cl_X9_381 : Cond.classLink RX9 381 "java/lang/ArithmeticException" ∈ L0 := inL 1061 (by decide +kernel) (by decide +kernel)
theorem cl_X9_41 : Cond.classLink RX9 41 "SealOffice$Fields" ∈ L0 := inL 186 (by decide +kernel) (by decide +kernel)
theorem cl_X9_48 : Cond.classLink RX9 48 "SealOffice$Records" ∈ L0 := inL 205 (by decide +kernel) (by decide +kernel)
theorem cl_X9_55 : Cond.classLink RX9 55 "SealOffice$Layout" ∈ L0 := inL 218 (by decide +kernel) (by decide +kernel)
theorem cl_X9_78 : Cond.classLink RX9 78 "java/lang/IllegalArgumentException" ∈ L0 := inL 559 (by decide +kernel) (by decide +kernel)
theorem cl_X10_7 : Cond.classLink RX10 7 "SealOfficeLaw$Doc" ∈ L0 := inL 307 (by decide +kernel) (by decide +kernel)
theorem cl_X11_10 : Cond.classLink RX11 10 "SealOfficeLaw$Doc" ∈ L0 := inL 426 (by decide +kernel) (by decide +kernel)
theorem cl_X11_7 : Cond.classLink RX11 7 "SealOfficeLaw$Unit" ∈ L0 := inL 313 (by decide +kernel) (by decide +kernel)
theorem cl_X12_8 : Cond.classLink RX12 8 "SealOfficeLaw$Unit" ∈ L0 := inL 432 (by decide +kernel) (by decide +kernel)
theorem cl_L_10 : Cond.classLink RL 10 "SealOffice" ∈ L0 := inL 58 (by decide +kernel) (by decide +kernel)
theorem cl_L_16 : Cond.classLink RL 16 "SealOfficeLaw$Desk" ∈ L0 := inL 301 (by decide +kernel) (by decide +kernel)
theorem cl_L_35 : Cond.classLink RL 35 "java/util/NoSuchElementException" ∈ L0 := inL 857 (by decide +kernel) (by decide +kernel)
theorem ins_0 : Cond.instantiable RX0 4 ∈ L0 := inL 187 (by decide +kernel) (by decide +kernel)
theorem ini_0 : Cond.initialized RX0 ∈ L0 := inL 37 (by decide +kernel) (by decide +kernel)
theorem ins_1 : Cond.instantiable RX1 16 ∈ L0 := inL 219 (by decide +kernel) (by decide +kernel)
theorem ini_1 : Cond.initialized RX1 ∈ L0 := inL 39 (by decide +kernel) (by decide +kernel)
theorem ins_2 : Cond.instantiable RX2 4 ∈ L0 := inL 100 (by decide +kernel) (by decide +kernel)
theorem ini_2 : Cond.initialized RX2 ∈ L0 := inL 34 (by decide +kernel) (by decide +kernel)
theorem ins_3 : Cond.instantiable RX3 5 ∈ L0 := inL 163 (by decide +kernel) (by decide +kernel)
theorem ini_3 : Cond.initialized RX3 ∈ L0 := inL 36 (by decide +kernel) (by decide +kernel)
theorem ins_4 : Cond.instantiable RX4 3 ∈ L0 := inL 74 (by decide +kernel) (by decide +kernel)
theorem ini_4 : Cond.initialized RX4 ∈ L0 := inL 32 (by decide +kernel) (by decide +kernel)
theorem ins_5 : Cond.instantiable RX5 3 ∈ L0 := inL 67 (by decide +kernel) (by decide +kernel)
theorem ini_5 : Cond.initialized RX5 ∈ L0 := inL 31 (by decide +kernel) (by decide +kernel)
theorem ins_6 : Cond.instantiable RX6 2 ∈ L0 := inL 206 (by decide +kernel) (by decide +kernel)
theorem ini_6 : Cond.initialized RX6 ∈ L0 := inL 38 (by decide +kernel) (by decide +kernel)
theorem ins_7 : Cond.instantiable RX7 4 ∈ L0 := inL 80 (by decide +kernel) (by decide +kernel)
theorem ini_7 : Cond.initialized RX7 ∈ L0 := inL 33 (by decide +kernel) (by decide +kernel)
theorem ins_8 : Cond.instantiable RX8 4 ∈ L0 := inL 144 (by decide +kernel) (by decide +kernel)
theorem ini_8 : Cond.initialized RX8 ∈ L0 := inL 35 (by decide +kernel) (by decide +kernel)
theorem ins_9 : Cond.instantiable RX9 9 ∈ L0 := inL 59 (by decide +kernel) (by decide +kernel)
theorem ini_9 : Cond.initialized RX9 ∈ L0 := inL 30 (by decide +kernel) (by decide +kernel)
theorem ins_10 : Cond.instantiable RX10 6 ∈ L0 := inL 302 (by decide +kernel) (by decide +kernel)
theorem ini_10 : Cond.initialized RX10 ∈ L0 := inL 40 (by decide +kernel) (by decide +kernel)
theorem ins_11 : Cond.instantiable RX11 5 ∈ L0 := inL 308 (by decide +kernel) (by decide +kernel)
theorem ini_11 : Cond.initialized RX11 ∈ L0 := inL 41 (by decide +kernel) (by decide +kernel)
theorem ins_12 : Cond.instantiable RX12 3 ∈ L0 := inL 433 (by decide +kernel) (by decide +kernel)
theorem ini_12 : Cond.initialized RX12 ∈ L0 := inL 46 (by decide +kernel) (by decide +kernel)
