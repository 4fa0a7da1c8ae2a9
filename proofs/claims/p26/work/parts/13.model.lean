/-! THE REFERENCE: its small methods -/
/-- a mask's bits, as the reference counts them -/
def mBits (v : Int32) : Nat → Int32
  | 0 => nI 0
  | k + 1 => mBits v k + (v >>> (nI k &&& 31) &&& nI 1)
def mTk (st : Nat → Int32) (s : Int32) : Bool := decide (st 16 >>> (s &&& 31) &&& nI 1 = nI 1)
def mSeats (st : Nat → Int32) (a : Nat) : Nat → Int32
  | 0 => nI 0
  | g + 1 => mSeats st a g ||| nI 1 <<< (st (35 + 28 * a + (4 + 3 * g + 0)) &&& 31)
def mAlbOf (st : Nat → Int32) (s : Int32) : Nat → Int32
  | 0 => -6
  | i + 1 => if st (35 + 28 * i + 0) = s ∧ st (35 + 28 * i + 2) = nI 0 then nI i else mAlbOf st s i
def mHow (st : Nat → Int32) (s : Int32) : Nat → Nat
  | 0 => 0
  | i + 1 => mHow st s i + (if st (35 + 28 * i + 2) = s then 1 else 0)
/-- the word that is most like a drawing, among the first ones -/
def mG (st : Nat → Int32) (dr : Int32) : Nat → Nat
  | 0 => 0
  | w + 1 => if w = 0 then 0 else if mBits (st w ^^^ dr) 12 < mBits (st (mG st dr w) ^^^ dr) 12 then w else mG st dr w
theorem mG_succ (st : Nat → Int32) (dr : Int32) {w : Nat} (h : 1 ≤ w) : mG st dr (w + 1) = if mBits (st w ^^^ dr) 12 < mBits (st (mG st dr w) ^^^ dr) 12 then w else mG st dr w := by
  rw [mG, if_neg (by omega)]
theorem mG_lt (st : Nat → Int32) (dr : Int32) : ∀ w, 1 ≤ w → mG st dr w < w
  | 1, _ => by simp [mG]
  | w + 2, _ => by
    have ih := mG_lt st dr (w + 1) (by omega)
    rw [mG_succ st dr (by omega)]
    split <;> omega
section MO
variable {d : Nat} {σ : aS} {Q : aQ} {m a p : Nat} {st : Nat → Int32} {fs : List Value}
theorem aIsT {σ : aS} {a ci : Nat} {fs : List Value} (h : σ.1 a = some (eO ci fs)) : aIs σ a ci = True := eq_true ⟨fs, h⟩
end MO
