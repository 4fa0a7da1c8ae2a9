/-! THE REFERENCE: what will be -/
section MF
variable {d : Nat} {σ : aS} {Q : aQ} {m a c : Nat} {st kp hi sl sv pd : Nat → Int32} {fs : List Value}
/-- what 'foretold' answers -/
def mForeA (st : Nat → Int32) (a c : Nat) (w : Nat) : Int32 :=
  match w with
  | 0 => mFo a c 9 st (35 + 28 * a + (4 + 3 * ((bN (bk (mFo a c 9 st) a) - 1) / 2 * 2) + 1))
  | 1 => mFo a c 9 st (35 + 28 * a + 1)
  | 2 => nI (mFoN a c 9 st)
  | _ => mFo a c 9 st (35 + 28 * a + 2)
end MF
