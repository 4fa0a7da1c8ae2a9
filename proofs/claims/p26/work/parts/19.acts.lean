/-! THE REFERENCE: the history; what each order does to the state -/
/-- the history behind a record -/
def mShift (hi : Nat → Int32) : Nat → Nat → Int32
  | 0 => hi
  | k + 1 => upd (mShift hi k) k (mShift hi k (k + 371))
theorem mShift_at (hi : Nat → Int32) : ∀ k j, mShift hi k j = if j < k then hi (j + 371) else hi j
  | 0, j => by rw [mShift, if_neg (by omega)]
  | k + 1, j => by
    rw [mShift]
    by_cases h : j = k
    · subst h
      rw [upd_same, if_pos (by omega), mShift_at hi j, if_neg (by omega)]
    · rw [upd_ne h, mShift_at hi k j]
      by_cases h2 : j < k
      · rw [if_pos h2, if_pos (by omega)]
      · rw [if_neg h2, if_neg (by omega)]
def mRecH (hi st : Nat → Int32) (rc : Nat) : Nat → Int32 := if rc = 6 then mMv st 0 (mShift hi 1855) 1855 371 else mMv st 0 hi (rc * 371) 371
def mRecN (rc : Nat) : Nat := if rc = 6 then 6 else rc + 1
section MA
variable {d : Nat} {σ : aS} {Q : aQ} {m a : Nat} {st kp hi sl sv pd : Nat → Int32} {fs : List Value} {pl at' le fi se : Int32}
end MA
