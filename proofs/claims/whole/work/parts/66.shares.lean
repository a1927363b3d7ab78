/-! Shares: the bits that the office works out are those of the number. -/
section Shares
def nn32 (x : UInt32) : Bool := decide (x &&& 0x7fffffff ≤ 0x7f800000)
def shL : Nat → UInt32 → Int → Option (UInt32 × Int)
  | 0, _, _ => none
  | m + 1, x, e => if 0 ≤ (Op.cmpValue (FP.fcmp x FP.fconst1) .g).toInt then some (x, e) else if nn32 (FP.fmul x FP.fconst2) then shL m (FP.fmul x FP.fconst2) (e - 1) else none
def shB (x : UInt32) : Option Int := if (Op.cmpValue (FP.fcmp x FP.fconst0) .g).toInt ≤ 0 then some 0 else match shL 12 x 127 with
  | none => none
  | some (y, e) => if nn32 (FP.fsub y FP.fconst1) && nn32 (FP.fmul (FP.fsub y FP.fconst1) 1258291200) then some ((Int32.ofInt e <<< (Int32.ofInt 23 &&& 31)).toInt + (FP.f2i (FP.fmul (FP.fsub y FP.fconst1) 1258291200)).toInt) else none
def shC (c n : Nat) : Bool := nn32 (FP.fdiv (FP.i2f (Int32.ofInt (c : Int))) (FP.i2f (Int32.ofInt (n : Int)))) && decide (shB (FP.fdiv (FP.i2f (Int32.ofInt (c : Int))) (FP.i2f (Int32.ofInt (n : Int)))) = some ((FP.fdiv (FP.i2f (Int32.ofInt (c : Int))) (FP.i2f (Int32.ofInt (n : Int)))).toNat : Int))
theorem shC_all : (List.range 12).all (fun n => (List.range (n + 2)).all (fun c => shC c (n + 1))) = true := by decide +kernel
end Shares
