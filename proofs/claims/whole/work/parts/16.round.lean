/-! THE REFERENCE: a round -/
theorem bk_upd (st : Nat → Int32) (a i : Nat) (v : Int32) : bk (upd st (35 + 28 * a + i) v) a = upd (bk st a) i v := by
  funext k
  unfold bk upd
  by_cases h : k = i
  · subst h; simp
  · have h2 : ¬ (35 + 28 * a + k = 35 + 28 * a + i) := by omega
    simp [h, h2]
theorem bk_upd_ne (st : Nat → Int32) (a k : Nat) (v : Int32) (h : k < 35 ∨ ∀ i, i < 28 → k ≠ 35 + 28 * a + i) : ∀ i, i < 28 → bk (upd st k v) a i = bk st a i := by
  intro i hi
  unfold bk
  exact upd_ne (by rcases h with h | h; omega; exact (h i hi).symm)
theorem bk_upd_lo (st : Nat → Int32) (a k : Nat) (v : Int32) (h : k < 35) : bk (upd st k v) a = bk st a := by
  funext i
  unfold bk
  exact upd_ne (by omega)
theorem mOne_ext {st f : Nat → Int32} {a : Nat} (h1 : ∀ i, i < 28 → f (35 + 28 * a + i) = bStep st (bk st a) i) (h2 : ∀ j, j < 8 → f (25 + j) = st (25 + j) + bDl st (bk st a) j) (h3 : ∀ k, ¬ (35 + 28 * a ≤ k ∧ k < 63 + 28 * a) → ¬ (25 ≤ k ∧ k < 33) → f k = st k) : f = mOne st a := by
  funext k
  unfold mOne
  by_cases k1 : 35 + 28 * a ≤ k ∧ k < 63 + 28 * a
  · rw [if_pos k1, ← h1 _ (by omega), show 35 + 28 * a + (k - (35 + 28 * a)) = k by omega]
  · rw [if_neg k1]
    by_cases k2 : 25 ≤ k ∧ k < 33
    · rw [if_pos k2]
      have := h2 (k - 25) (by omega)
      rw [show 25 + (k - 25) = k by omega] at this
      exact this
    · rw [if_neg k2]
      exact h3 k k1 k2
theorem mHome_one {st : Nat → Int32} {a n o : Nat} (hn : bk st a 1 = nI n) (h8 : n ≤ 8) (ho : bk st a 0 = nI o) (ho8 : o < 8) (h2 : bk st a 2 = nI 0) (hx : bNx st (bk st a) = -6) : mHome st a n o = mOne st a := by
  have eN : bN (bk st a) = n := by unfold bN; rw [hn]; exact nIc (by omega)
  have eO : bOw (bk st a) = o := by unfold bOw; rw [ho]; exact nIc (by omega)
  have eL : bLw (bk st a) = st (35 + 28 * a + (4 + 3 * ((n - 1) / 2 * 2) + 1)) := by unfold bLw; rw [eN]; rfl
  have e5 : bk st a 5 = st (35 + 28 * a + 5) := rfl
  refine mOne_ext (fun i hi => ?_) (fun j hj => ?_) (fun k k1 k2 => ?_)
  · unfold bStep
    rw [if_pos h2, if_pos hx, ho]
    unfold mHome
    have e : ∀ v : Int32, upd st (35 + 28 * a + 2) v (35 + 28 * a + i) = upd (bk st a) 2 v i := fun v => congrFun (bk_upd st a 2 v) i
    by_cases g1 : mTk st (nI o) = true
    · rw [if_pos g1, if_pos g1]
      by_cases g2 : st (35 + 28 * a + (4 + 3 * ((n - 1) / 2 * 2) + 1)) = st (35 + 28 * a + 5) ∧ 2 < n
      · rw [if_pos g2, upd_ne (by omega)]
        exact e _
      · rw [if_neg g2]
        exact e _
    · rw [if_neg g1, if_neg g1]
      exact e _
  · unfold bDl
    rw [if_pos h2, if_pos hx, ho, eN, eO, eL, e5]
    unfold mHome
    by_cases g1 : mTk st (nI o) = true
    · rw [if_pos g1]
      by_cases g2 : st (35 + 28 * a + (4 + 3 * ((n - 1) / 2 * 2) + 1)) = st (35 + 28 * a + 5) ∧ 2 < n
      · rw [if_pos g2]
        by_cases g3 : j = o
        · subst g3
          rw [upd_same, if_pos ⟨g1, g2.1, g2.2, rfl⟩]
        · rw [upd_ne (by omega), upd_ne (by omega), if_neg (fun z => g3 z.2.2.2), nI_0, Int32.add_zero]
      · rw [if_neg g2, upd_ne (by omega), if_neg (fun z => g2 ⟨z.2.1, z.2.2.1⟩), nI_0, Int32.add_zero]
    · rw [if_neg g1, upd_ne (by omega), if_neg (fun z => g1 z.1), nI_0, Int32.add_zero]
  · unfold mHome
    by_cases g1 : mTk st (nI o) = true
    · rw [if_pos g1]
      by_cases g2 : st (35 + 28 * a + (4 + 3 * ((n - 1) / 2 * 2) + 1)) = st (35 + 28 * a + 5) ∧ 2 < n
      · rw [if_pos g2, upd_ne (by omega), upd_ne (by omega)]
      · rw [if_neg g2, upd_ne (by omega)]
    · rw [if_neg g1, upd_ne (by omega)]
theorem mPut2_bk (st : Nat → Int32) (a n s : Nat) (hn : bN (bk st a) = n) : bk (mPut2 st a n s) a = bGo (bk st a) s (mNew st a n s) (if st (35 + 28 * a + 3) = -6 then nI 0 else nI 1) := by
  unfold mPut2 mPut bGo
  rw [hn, bk_upd, bk_upd, bk_upd, bk_upd, bk_upd]
theorem mPut2_out (st : Nat → Int32) (a n s : Nat) (h8 : n ≤ 7) {k : Nat} (hk : ¬ (35 + 28 * a ≤ k ∧ k < 63 + 28 * a)) : mPut2 st a n s k = st k := by
  unfold mPut2 mPut
  rw [upd_ne (by omega), upd_ne (by omega), upd_ne (by omega), upd_ne (by omega), upd_ne (by omega)]
theorem mNew_bNew (st : Nat → Int32) (a n s : Nat) (hn : bN (bk st a) = n) : mNew st a n s = bNew st (bk st a) s := by
  unfold mNew bNew mWhat bWhat
  rw [hn]
  rfl
theorem mGoes_one {st : Nat → Int32} {a n s t : Nat} (hn : bk st a 1 = nI n) (h8 : n ≤ 7) (hs : s < 8) (ht : bk st a (4 + 3 * (n - 1)) = nI t) (ht8 : t < 8) (h2 : bk st a 2 = nI 0) (hx : bNx st (bk st a) = nI s) : mGoes st a n s t = mOne st a := by
  have eN : bN (bk st a) = n := by unfold bN; rw [hn]; exact nIc (by omega)
  have eT : bLi (bk st a) = t := by unfold bLi; rw [eN, ht]; exact nIc (by omega)
  have eS : (bNx st (bk st a)).toNatClampNeg = s := by rw [hx]; exact nIc (by omega)
  have hx6 : ¬ bNx st (bk st a) = -6 := by
    rw [hx]
    intro z
    have := congrArg Int32.toInt z
    rw [nI_toInt (by omega)] at this
    have h6 : (-6 : Int32).toInt = -6 := by decide
    omega
  have e3 : bk st a 3 = st (35 + 28 * a + 3) := rfl
  have ew := mNew_bNew st a n s eN
  have eb : bStep st (bk st a) = bk (mPut2 st a n s) a := by
    unfold bStep
    rw [if_pos h2, if_neg hx6, eS, mPut2_bk st a n s eN, ew, e3]
  have lo : ∀ f : Nat → Int32, ∀ u i, u < 8 → mSc f u (35 + 28 * a + i) = f (35 + 28 * a + i) := fun f u i hu => by unfold mSc; exact upd_ne (by omega)
  have sc : ∀ f : Nat → Int32, ∀ u j, mSc f u (25 + j) = f (25 + j) + (if j = u then nI 1 else nI 0) := by
    intro f u j
    unfold mSc
    by_cases h : j = u
    · subst h; rw [upd_same, if_pos rfl]
    · rw [upd_ne (by omega), if_neg h, nI_0, Int32.add_zero]
  have so : ∀ f : Nat → Int32, ∀ u k, u < 8 → ¬ (25 ≤ k ∧ k < 33) → mSc f u k = f k := fun f u k hu hk => by unfold mSc; exact upd_ne (by omega)
  refine mOne_ext (fun i hi => ?_) (fun j hj => ?_) (fun k k1 k2 => ?_)
  · rw [eb]
    unfold mGoes
    split
    · rw [lo _ _ _ hs, lo _ _ _ ht8]; rfl
    · rfl
  · unfold bDl
    rw [if_pos h2, if_neg hx6, eN, eS, eT, ← ew]
    unfold mGoes
    have e4 : bk st a (4 + 3 * (n - 2) + 1) = st (35 + 28 * a + (4 + 3 * (n - 2) + 1)) := rfl
    rw [e4]
    by_cases g : n % 2 = 0 ∧ mNew st a n s = st (35 + 28 * a + (4 + 3 * (n - 2) + 1))
    · rw [if_pos g, if_pos g, sc, sc, mPut2_out st a n s h8 (by omega), Int32.add_assoc]
    · rw [if_neg g, if_neg g, mPut2_out st a n s h8 (by omega), nI_0, Int32.add_zero]
  · unfold mGoes
    split
    · rw [so _ _ _ hs k2, so _ _ _ ht8 k2, mPut2_out st a n s h8 k1]
    · rw [mPut2_out st a n s h8 k1]
theorem mOne_done {st : Nat → Int32} {a : Nat} (h2 : ¬ bk st a 2 = nI 0) : mOne st a = st := by
  refine (mOne_ext (fun i hi => ?_) (fun j hj => ?_) (fun k k1 k2 => rfl)).symm
  · unfold bStep; rw [if_neg h2]; rfl
  · unfold bDl; rw [if_neg h2, nI_0, Int32.add_zero]
theorem mOne_env (st : Nat → Int32) (a : Nat) {k : Nat} (h : k < 25 ∨ k = 33 ∨ k = 34) : mOne st a k = st k := by
  unfold mOne
  rw [if_neg (by omega), if_neg (by omega)]
theorem mOne_bk_ne (st : Nat → Int32) {a b : Nat} (h : a ≠ b) {i : Nat} (hi : i < 28) : bk (mOne st a) b i = bk st b i := by
  unfold bk mOne
  rw [if_neg (by omega), if_neg (by omega)]
theorem mOne_bk (st : Nat → Int32) (a : Nat) {i : Nat} (hi : i < 28) : bk (mOne st a) a i = bStep st (bk st a) i := by
  show mOne st a (35 + 28 * a + i) = _
  unfold mOne
  rw [if_pos (by omega), show 35 + 28 * a + i - (35 + 28 * a) = i by omega]
