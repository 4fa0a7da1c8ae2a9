/-! THE REFERENCE: what is asked of an album, a seat -/
theorem inR_split (lo hi : Nat) (x : Int32) (h : hi < 2147483648) (hlo : lo = 0) : (∃ j, j ≤ hi ∧ x = nI j) ∨ inR x lo hi = False := by
  subst hlo
  by_cases h0 : nI 0 ≤ x
  · rw [nI_0] at h0
    obtain ⟨j, hj, rfl⟩ := nI_of (Int32.not_lt.mpr h0)
    by_cases h2 : j ≤ hi
    · exact Or.inl ⟨j, h2, rfl⟩
    · exact Or.inr (eq_false (fun z => by have := z.2; rw [nI_leL (by omega) (by omega)] at this; omega))
  · exact Or.inr (eq_false (fun z => h0 z.1))
theorem inR_T {hi j : Nat} (h : j ≤ hi) (h2 : hi < 2147483648) : inR (nI j) 0 hi = True := by
  show (nI 0 ≤ nI j ∧ nI j ≤ nI hi) = True
  rw [nI_leT (by omega) (by omega), nI_leT h h2, and_self]
/-- how often a word in an album is another one than the word before -/
def mChg (st : Nat → Int32) (a : Nat) : Nat → Nat
  | 0 => 0
  | j + 1 => mChg st a j + (if st (35 + 28 * a + (4 + 3 * (2 * j + 2) + 1)) = st (35 + 28 * a + (4 + 3 * (2 * j) + 1)) then 0 else 1)
def mPb (st : Nat → Int32) (s : Nat) : Nat → Int32
  | 0 => nI 0
  | a + 1 => mPb st s a + (mSeats st a (bN (bk st a)) >>> (nI s &&& 31) &&& nI 1)
def mSum (st : Nat → Int32) : Nat → Int32
  | 0 => nI 0
  | s + 1 => mSum st s + st (25 + s)
section MQ
variable {d : Nat} {σ : aS} {Q : aQ} {m a : Nat} {st : Nat → Int32} {fs : List Value}
end MQ
