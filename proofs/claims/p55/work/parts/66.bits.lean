/-! Shares and means: the bits that the office works out are those of the number. -/
section Bits
variable {xs : Nat → Int} {d : Nat} {m : MI} {b : Nat × Nat} {pc : Nat} {ls st : List MV} {σ : St} {out : MV × St}
def nn32 (x : UInt32) : Bool := decide (x &&& 0x7fffffff ≤ 0x7f800000)
def nn64 (x : UInt64) : Bool := decide (x &&& 0x7fffffffffffffff ≤ 0x7ff0000000000000)
theorem nn32_of {x : UInt32} (h : nn32 x = true) : vf_n32 x := by
  have := of_decide_eq_true h
  exact this
def shE (y : UInt32) (e : Int) : Option Int := if nn32 (FP.fsub y FP.fconst1) = true ∧ nn32 (FP.fmul (FP.fsub y FP.fconst1) 1258291200) = true then some ((Int32.ofInt e <<< (Int32.ofInt 23 &&& 31)).toInt + (FP.f2i (FP.fmul (FP.fsub y FP.fconst1) 1258291200)).toInt) else none
def shL : Nat → UInt32 → Int → Option Int
  | 0, _, _ => none
  | m + 1, y, e => if 0 ≤ (Op.cmpValue (FP.fcmp y FP.fconst1) .g).toInt then shE y e else if nn32 (FP.fmul y FP.fconst2) = true then shL m (FP.fmul y FP.fconst2) (e - 1) else none
def shB (x : UInt32) : Option Int := if (Op.cmpValue (FP.fcmp x FP.fconst0) .g).toInt ≤ 0 then some 0 else shL 12 x 127
def shX (x : UInt32) : Bool := nn32 x && decide ((Op.cmpValue (FP.fcmp x x) .l).toInt = 0) && nn64 (FP.f2d x) && decide ((Op.cmpValue (FP.dcmp (FP.f2d x) (FP.f2d x)) .l).toInt = 0) && decide (shB x = some x.toInt32.toInt)
def shN (c n : Nat) : UInt32 := FP.fdiv (FP.i2f (Int32.ofInt (c : Int))) (FP.i2f (Int32.ofInt (n : Int)))
end Bits
