/-! THE REFERENCE: what each order asks, and does to the state -/
abbrev inR (x : Int32) (lo hi : Nat) : Prop := nI lo ≤ x ∧ x ≤ nI hi
def mWSat (s f : Int32) : Int32 := if inR s 0 7 then (if f = -6 then nI 0 else if inR f 0 4095 then nI 0 else -2) else -1
def mSat (st : Nat → Int32) (s : Nat) (f : Int32) : Nat → Int32 := upd (upd st 16 (st 16 ||| nI 1 <<< (nI s &&& 31))) (17 + s) (if f = -6 then st (17 + s) else f)
def mWLeft (st : Nat → Int32) (s : Int32) : Int32 := if inR s 0 7 then (if mTk st s = true then nI 0 else -5) else -1
def mLeft (st : Nat → Int32) (s : Nat) : Nat → Int32 := upd st 16 (st 16 &&& (nI 1 <<< (nI s &&& 31) ^^^ -1))
def mWBeg (st : Nat → Int32) (s w : Int32) (c : Nat) : Int32 := if inR s 0 7 ∧ inR w 0 15 then (if c = 12 then -4 else if mTk st s = true ∧ mAlbOf st s c = -6 then nI 0 else -5) else -1
def mClr (st : Nat → Int32) (a : Nat) : Nat → Nat → Int32
  | 0 => st
  | k + 1 => upd (mClr st a k) (35 + 28 * a + k) (nI 0)
def mBeg (st : Nat → Int32) (c s w : Nat) : Nat → Int32 := upd (mPut (upd (upd (mClr st c 28) (35 + 28 * c + 3) (-6)) (35 + 28 * c) (nI s)) c 0 (nI s) (nI w) (nI 0)) 34 (nI (c + 1))
def mWTell (st : Nat → Int32) (a n : Nat) (p : Int32) : Int32 := if inR p 0 (if n % 2 = 0 then 15 else 4095) then (if st (35 + 28 * a + 2) = nI 0 then nI 0 else -5) else -2
def mCp (st : Nat → Int32) (l a : Nat) : Nat → Nat → Int32
  | 0 => st
  | k + 1 => upd (mCp st l a k) (35 + 28 * l + k) (mCp st l a k (35 + 28 * a + k))
/-- how many albums go round, among the first ones -/
def mGR (st : Nat → Int32) : Nat → Nat
  | 0 => 0
  | a + 1 => mGR st a + (if st (35 + 28 * a + 2) = nI 0 then 1 else 0)
/-- the albums that go round, moved up -/
def mCl (st : Nat → Int32) : Nat → Nat → Int32
  | 0 => st
  | a + 1 => if st (35 + 28 * a + 2) = nI 0 then mCp (mCl st a) (mGR st a) a 28 else mCl st a
theorem mGR_le (st : Nat → Int32) : ∀ a, mGR st a ≤ a
  | 0 => Nat.le_refl _
  | a + 1 => by
    have := mGR_le st a
    unfold mGR
    split <;> omega
theorem mCp_hi (st : Nat → Int32) (l a : Nat) : ∀ k j, 35 + 28 * l + k ≤ j → mCp st l a k j = st j
  | 0, _, _ => rfl
  | k + 1, j, h => by rw [mCp, upd_ne (by omega), mCp_hi st l a k j (by omega)]
theorem mCl_hi (st : Nat → Int32) : ∀ a j, 35 + 28 * mGR st a ≤ j → mCl st a j = st j
  | 0, _, _ => rfl
  | a + 1, j, h => by
    unfold mGR at h
    unfold mCl
    split
    · rename_i g
      rw [if_pos g] at h
      rw [mCp_hi _ _ _ _ _ (by omega), mCl_hi st a j (by omega)]
    · rename_i g
      rw [if_neg g] at h
      exact mCl_hi st a j (by omega)
theorem mCp_lo (st : Nat → Int32) (l a : Nat) : ∀ k j, j < 35 → mCp st l a k j = st j
  | 0, _, _ => rfl
  | k + 1, j, h => by rw [mCp, upd_ne (by omega), mCp_lo st l a k j h]
theorem mCl_lo (st : Nat → Int32) : ∀ a j, j < 35 → mCl st a j = st j
  | 0, _, _ => rfl
  | a + 1, j, h => by
    unfold mCl
    split
    · rw [mCp_lo _ _ _ _ _ h, mCl_lo st a j h]
    · exact mCl_lo st a j h
def mClear (st : Nat → Int32) (c : Nat) : Nat → Int32 := upd (mCl st c) 34 (nI (mGR st c))
section MB
variable {d : Nat} {σ : aS} {Q : aQ} {m a : Nat} {st : Nat → Int32} {fs : List Value}
theorem mClr_at (a : Nat) : ∀ k j, mClr st a k j = if 35 + 28 * a ≤ j ∧ j < 35 + 28 * a + k then nI 0 else st j
  | 0, j => by rw [mClr, if_neg (by omega)]
  | k + 1, j => by
    rw [mClr]
    by_cases h : j = 35 + 28 * a + k
    · subst h; rw [upd_same, if_pos (by omega)]
    · rw [upd_ne h, mClr_at a k j]
      by_cases h2 : 35 + 28 * a ≤ j ∧ j < 35 + 28 * a + k
      · rw [if_pos h2, if_pos (by omega)]
      · rw [if_neg h2, if_neg (by omega)]
end MB
