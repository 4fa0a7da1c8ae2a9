/-! THE REFERENCE: bestWord, pointsThen -/
def mBW (st : Nat → Int32) (s : Nat) : Nat → Int32 × Int32
  | 0 => (-6, nI 13)
  | w + 1 => if mDif st s w < (mBW st s w).2 then (nI w, mDif st s w) else mBW st s w
def mPt (c : Nat) : Nat → (Nat → Int32) → (Nat → Int32)
  | 0, st => st
  | f + 1, st => if 0 < mHow st (nI 0) c then mPt c f (mRnd st c) else st
section MX
variable {d : Nat} {σ : aS} {Q : aQ} {m c : Nat} {st kp hi sl sv pd : Nat → Int32} {fs : List Value}
end MX
