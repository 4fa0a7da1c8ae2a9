/-! THE REFERENCE: its state as one row; what changes it -/
theorem aput_twice (σ : aS) (a : Nat) (e e2 : aE) : aput (aput σ a e) a e2 = aput σ a e2 := by
  unfold aput
  refine Prod.ext (funext fun q => ?_) rfl
  by_cases h : q = a <;> simp [h]
theorem aput_comm (σ : aS) {a b : Nat} (h : a ≠ b) (e e2 : aE) : aput (aput σ a e) b e2 = aput (aput σ b e2) a e := by
  unfold aput
  refine Prod.ext (funext fun q => ?_) rfl
  by_cases h1 : q = a
  · subst h1; simp [h]
  · by_cases h2 : q = b
    · subst h2; simp [h1]
    · simp [h1, h2]
theorem aput_self {σ : aS} {a : Nat} {e : aE} (h : σ.1 a = some e) : aput σ a e = σ := by
  unfold aput
  refine Prod.ext (funext fun q => ?_) rfl
  by_cases hq : q = a
  · subst hq; simp [h]
  · simp [hq]
theorem upd_same {f : Nat → Int32} {k : Nat} {x : Int32} : upd f k x k = x := pk_us
theorem upd_ne {f : Nat → Int32} {k j : Nat} {x : Int32} (h : j ≠ k) : upd f k x j = f j := pk_un h
theorem upd_twice (f : Nat → Int32) (k : Nat) (x y : Int32) : upd (upd f k x) k y = upd f k y := by
  funext j
  unfold upd
  by_cases h : j = k <;> simp [h]
def mPut (st : Nat → Int32) (a n : Nat) (seat what told : Int32) : Nat → Int32 := upd (upd (upd (upd st (35 + 28 * a + (4 + 3 * n)) seat) (35 + 28 * a + (4 + 3 * n + 1)) what) (35 + 28 * a + (4 + 3 * n + 2)) told) (35 + 28 * a + 1) (nI (n + 1))
def mNx (st : Nat → Int32) (sm : Int32) (s : Nat) : Nat → Int32
  | 0 => -6
  | j + 1 => if mTk st (nI ((s + (8 - j)) % 8)) = true ∧ sm >>> (nI ((s + (8 - j)) % 8) &&& 31) &&& nI 1 = nI 0 then nI ((s + (8 - j)) % 8) else mNx st sm s j
theorem n10 : ((1 : Nat) = 0) = False := eq_false (by decide)
section MP
variable {d : Nat} {σ : aS} {Q : aQ} {m a p : Nat} {st : Nat → Int32} {fs : List Value}
end MP
