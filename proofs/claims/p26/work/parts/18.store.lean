/-! THE REFERENCE: all its cells; copies, the history -/
section MT
variable {σ : aS} {m : Nat} {fs fs' : List Value} {kp hi sl sv pd st x : Nat → Int32}
end MT
/-- 371 numbers of a row, at a place of another -/
def mMv (f : Nat → Int32) (p : Nat) (g : Nat → Int32) (t : Nat) : Nat → Nat → Int32
  | 0 => g
  | k + 1 => upd (mMv f p g t k) (t + k) (f (p + k))
theorem mMv_at (f : Nat → Int32) (p : Nat) (g : Nat → Int32) (t : Nat) : ∀ k j, mMv f p g t k j = if t ≤ j ∧ j < t + k then f (p + (j - t)) else g j
  | 0, j => by rw [mMv, if_neg (by omega)]
  | k + 1, j => by
    rw [mMv]
    by_cases h : j = t + k
    · subst h
      rw [upd_same, if_pos (by omega), show p + (t + k - t) = p + k by omega]
    · rw [upd_ne h, mMv_at f p g t k j]
      by_cases h2 : t ≤ j ∧ j < t + k
      · rw [if_pos h2, if_pos (by omega)]
      · rw [if_neg h2, if_neg (by omega)]
section MV
variable {d : Nat} {σ : aS} {Q : aQ}
end MV
