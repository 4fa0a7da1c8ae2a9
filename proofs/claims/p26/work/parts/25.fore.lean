/-! an album alone: what it becomes depends on it and on words, players, what they can draw -/
theorem bN_cong {b b' : Nat → Int32} (h : ∀ i, i < 28 → b' i = b i) : bN b' = bN b := by unfold bN; rw [h 1 (by omega)]
theorem bSe_cong {b b' : Nat → Int32} (h : ∀ i, i < 28 → b' i = b i) : ∀ n, n ≤ 8 → bSe b' n = bSe b n
  | 0, _ => rfl
  | n + 1, hn => by rw [bSe, bSe, bSe_cong h n (by omega), h _ (by omega)]
theorem bLi_cong {b b' : Nat → Int32} (h : ∀ i, i < 28 → b' i = b i) (h8 : bN b ≤ 8) : bLi b' = bLi b := by unfold bLi; rw [bN_cong h, h _ (by omega)]
theorem mTk_cong {st st' : Nat → Int32} (h : ∀ k, k < 25 → st' k = st k) (s : Int32) : mTk st' s = mTk st s := by unfold mTk; rw [h 16 (by omega)]
theorem mNx_cong {st st' : Nat → Int32} (h : ∀ k, k < 25 → st' k = st k) (sm : Int32) (s : Nat) : ∀ j, mNx st' sm s j = mNx st sm s j
  | 0 => rfl
  | j + 1 => by rw [mNx, mNx, mTk_cong h, mNx_cong h sm s j]
theorem mG_cong {st st' : Nat → Int32} (h : ∀ k, k < 25 → st' k = st k) (dr : Int32) : ∀ w, w ≤ 16 → mG st' dr w = mG st dr w
  | 0, _ => rfl
  | w + 1, hw => by
    rw [mG, mG, mG_cong h dr w (by omega), h w (by omega)]
    by_cases h0 : w = 0
    · rw [if_pos h0, if_pos h0]
    · have := mG_lt st dr w (by omega)
      rw [if_neg h0, if_neg h0, h (mG st dr w) (by omega)]
theorem bNx_cong {st st' b b' : Nat → Int32} (he : ∀ k, k < 25 → st' k = st k) (h : ∀ i, i < 28 → b' i = b i) (h8 : bN b ≤ 8) : bNx st' b' = bNx st b := by
  unfold bNx
  rw [mNx_cong he, bN_cong h, bSe_cong h _ h8, bLi_cong h h8]
theorem bNew_cong {st st' b b' : Nat → Int32} (he : ∀ k, k < 25 → st' k = st k) (h : ∀ i, i < 28 → b' i = b i) (hb : bOK b) {s : Nat} (hs : s < 8) : bNew st' b' s = bNew st b s := by
  obtain ⟨n, h1, h2, h3, ho, hh, hsq, hd, hw, hf, ht⟩ := hb
  have eN := bOK_N h1 h3
  unfold bNew bWhat
  rw [bN_cong h, eN, h 3 (by omega), h (4 + 3 * (n - 1) + 1) (by omega), he (17 + s) (by omega), mG_cong he _ 16 (by omega)]
  by_cases hp : n % 2 = 0
  · rw [if_pos hp, if_pos hp]
  · obtain ⟨w, e1, e2, e3⟩ := hw (n - 1) (by omega)
    rw [if_neg hp, if_neg hp, e1, nIc (by omega), he w (by have := e3 (by omega); omega)]
theorem bStep_cong {st st' b b' : Nat → Int32} (he : ∀ k, k < 25 → st' k = st k) (h : ∀ i, i < 28 → b' i = b i) (hb : bOK b) : ∀ i, i < 28 → bStep st' b' i = bStep st b i := by
  intro i hi
  have hb2 := hb
  obtain ⟨n, h1, h2, h3, -⟩ := hb2
  have eN := bOK_N h1 h3
  unfold bStep
  rw [h 2 (by omega), h 0 (by omega), h 3 (by omega), bNx_cong he h (by omega), mTk_cong he]
  by_cases g : b 2 = nI 0
  · rw [if_pos g, if_pos g]
    rcases bNx_cases (st := st) hb with hx | ⟨q, hq, hx, hbt, h7, hno⟩
    · rw [if_pos hx, if_pos hx]
      unfold upd
      by_cases h2i : i = 2
      · rw [if_pos h2i, if_pos h2i]
      · rw [if_neg h2i, if_neg h2i]; exact h i hi
    · have hx6 : ¬ bNx st b = -6 := by rw [hx, nI_neg6 (by omega)]; exact id
      rw [if_neg hx6, if_neg hx6, hx, nIc (by omega), bNew_cong he h hb hq]
      unfold bGo
      rw [bN_cong h]
      unfold upd
      rw [h i hi]
  · rw [if_neg g, if_neg g]; exact h i hi
theorem bDl_cong {st st' b b' : Nat → Int32} (he : ∀ k, k < 25 → st' k = st k) (h : ∀ i, i < 28 → b' i = b i) (hb : bOK b) : ∀ j, bDl st' b' j = bDl st b j := by
  intro j
  have hb2 := hb
  obtain ⟨n, h1, h2, h3, -⟩ := hb2
  have eN := bOK_N h1 h3
  have eO : bOw b' = bOw b := by unfold bOw; rw [h 0 (by omega)]
  have eL : bLw b' = bLw b := by unfold bLw; rw [bN_cong h, eN, h _ (by omega)]
  unfold bDl
  rw [h 2 (by omega), h 0 (by omega), h 5 (by omega), eO, eL, bN_cong h, bNx_cong he h (by omega), mTk_cong he, bLi_cong h (by omega)]
  by_cases g : b 2 = nI 0
  · rw [if_pos g, if_pos g]
    rcases bNx_cases (st := st) hb with hx | ⟨q, hq, hx, hbt, h7, hno⟩
    · rw [if_pos hx, if_pos hx]
    · have hx6 : ¬ bNx st b = -6 := by rw [hx, nI_neg6 (by omega)]; exact id
      rw [if_neg hx6, if_neg hx6, hx, nIc (by omega), bNew_cong he h hb hq, eN, h (4 + 3 * (n - 2) + 1) (by omega)]
  · rw [if_neg g, if_neg g]
theorem mAll_bk_hi (st : Nat → Int32) {a : Nat} : ∀ i, i ≤ a → ∀ k, k < 28 → bk (mAll st i) a k = bk st a k
  | 0, _, _, _ => rfl
  | i + 1, h, k, hk => by rw [mAll, mOne_bk_ne _ (by omega) hk, mAll_bk_hi st i (by omega) k hk]
theorem mAll_bk {st : Nat → Int32} (hok : mOK st) {c a : Nat} (hc : st 34 = nI c) (h12 : c ≤ 12) (ha : a < c) : ∀ i, a < i → ∀ k, k < 28 → bk (mAll st i) a k = bStep st (bk st a) k
  | 0, h, _, _ => absurd h (Nat.not_lt_zero _)
  | i + 1, h, k, hk => by
    rw [mAll]
    by_cases hi : a = i
    · subst hi
      obtain ⟨he, c2, hc2, hc12, hball⟩ := hok
      have hc3 : c2 = c := nI_inj (by omega) (by omega) (hc2.symm.trans hc)
      subst hc3
      rw [mOne_bk _ _ hk]
      exact bStep_cong (fun k hk => mAll_env st (by omega) _) (mAll_bk_hi st a (Nat.le_refl _)) (hball a ha) k hk
    · rw [mOne_bk_ne _ (fun z => hi z.symm) hk]
      exact mAll_bk hok hc h12 ha i (by omega) k hk
theorem mRnd_bk {st : Nat → Int32} (hok : mOK st) {c a : Nat} (hc : st 34 = nI c) (h12 : c ≤ 12) (ha : a < c) : ∀ k, k < 28 → bk (mRnd st c) a k = bStep st (bk st a) k := by
  intro k hk
  unfold mRnd
  obtain ⟨he, c2, hc2, hc12, hball⟩ := id hok
  have hc3 : c2 = c := nI_inj (by omega) (by omega) (hc2.symm.trans hc)
  rw [mAll_bk (mOK_33 hok) (by rw [upd_ne (by omega)]; exact hc) h12 ha c ha k hk]
  rw [bk_upd_lo st a 33 _ (by omega)]
  exact bStep_cong (fun k hk => upd_ne (by omega)) (fun i hi => rfl) (hball a (by omega)) k hk
theorem mRnd_env {st : Nat → Int32} {c k : Nat} (h : k < 25 ∨ k = 34) : mRnd st c k = st k := by
  unfold mRnd
  rw [mAll_env _ (by omega), upd_ne (by omega)]
/-- rounds until an album ends: how many; what the state is then -/
def mFoN (a c : Nat) : Nat → (Nat → Int32) → Nat
  | 0, _ => 0
  | f + 1, st => if st (35 + 28 * a + 2) = nI 0 then mFoN a c f (mRnd st c) + 1 else 0
def mFo (a c : Nat) : Nat → (Nat → Int32) → (Nat → Int32)
  | 0, st => st
  | f + 1, st => if st (35 + 28 * a + 2) = nI 0 then mFo a c f (mRnd st c) else st
