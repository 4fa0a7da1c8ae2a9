/-! THE REFERENCE: a round -/
theorem bk_upd_lo (st : Nat → Int32) (a k : Nat) (v : Int32) (h : k < 35) : bk (upd st k v) a = bk st a := by
  funext i
  unfold bk
  exact upd_ne (by omega)
theorem mOne_ext {st f : Nat → Int32} {a : Nat} (h1 : ∀ i, i < 28 → f (35 + 28 * a + i) = bStep st (bk st a) i) (h2 : ∀ j, j < 8 → f (25 + j) = st (25 + j) + bDl st (bk st a) j) (h3 : ∀ k, ¬ (35 + 28 * a ≤ k ∧ k < 63 + 28 * a) → ¬ (25 ≤ k ∧ k < 33) → f k = st k) : f = mOne st a := by
  funext k
  unfold mOne
  by_cases k1 : 35 + 28 * a ≤ k ∧ k < 63 + 28 * a
  · rw [if_pos k1, ← h1 _ (by omega), show 35 + 28 * a + (k - (35 + 28 * a)) = k by omega]
  · rw [if_neg k1]
    by_cases k2 : 25 ≤ k ∧ k < 33
    · rw [if_pos k2]
      have := h2 (k - 25) (by omega)
      rw [show 25 + (k - 25) = k by omega] at this
      exact this
    · rw [if_neg k2]
      exact h3 k k1 k2
theorem mOne_done {st : Nat → Int32} {a : Nat} (h2 : ¬ bk st a 2 = nI 0) : mOne st a = st := by
  refine (mOne_ext (fun i hi => ?_) (fun j hj => ?_) (fun k k1 k2 => rfl)).symm
  · unfold bStep; rw [if_neg h2]; rfl
  · unfold bDl; rw [if_neg h2, nI_0, Int32.add_zero]
theorem mOne_env (st : Nat → Int32) (a : Nat) {k : Nat} (h : k < 25 ∨ k = 33 ∨ k = 34) : mOne st a k = st k := by
  unfold mOne
  rw [if_neg (by omega), if_neg (by omega)]
theorem mOne_bk_ne (st : Nat → Int32) {a b : Nat} (h : a ≠ b) {i : Nat} (hi : i < 28) : bk (mOne st a) b i = bk st b i := by
  unfold bk mOne
  rw [if_neg (by omega), if_neg (by omega)]
theorem mOne_bk (st : Nat → Int32) (a : Nat) {i : Nat} (hi : i < 28) : bk (mOne st a) a i = bStep st (bk st a) i := by
  show mOne st a (35 + 28 * a + i) = _
  unfold mOne
  rw [if_pos (by omega), show 35 + 28 * a + i - (35 + 28 * a) = i by omega]
