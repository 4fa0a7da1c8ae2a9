/-! THE REFERENCE: what always holds, kept by each change -/
theorem eOK_cong {st st' : Nat → Int32} (h : ∀ k, k < 25 → st' k = st k) (he : eOK st) : eOK st' := by
  obtain ⟨h1, h2, h3⟩ := he
  refine ⟨fun w hw => ?_, ?_, fun s hs => ?_⟩
  · rw [h w (by omega)]; exact h1 w hw
  · rw [h 16 (by omega)]; exact h2
  · rw [h (17 + s) (by omega)]; exact h3 s hs
theorem mTeach_ok {st : Nat → Int32} {w x : Nat} (hok : mOK st) (hw : w ≤ 15) (hx : x ≤ 4095) : mOK (upd st w (nI x)) := by
  obtain ⟨⟨h1, h2, h3⟩, c, hc, h12, hb⟩ := hok
  refine ⟨⟨fun w' hw' => ?_, ?_, fun s hs => ?_⟩, c, ?_, h12, fun a ha => bOK_congr (fun i hi => ?_) (hb a ha)⟩
  · by_cases g : w' = w
    · subst g; exact ⟨x, upd_same, by omega⟩
    · rw [upd_ne g]; exact h1 w' hw'
  · rw [upd_ne (by omega)]; exact h2
  · rw [upd_ne (by omega)]; exact h3 s hs
  · rw [upd_ne (by omega)]; exact hc
  · unfold bk; rw [upd_ne (by omega)]
theorem or_256 : ∀ x, x < 256 → ∀ s, s < 8 → ∃ y, nI x ||| nI 1 <<< (nI s &&& 31) = nI y ∧ y < 256 := fun x hx s hs =>
  ⟨(nI x ||| nI 1 <<< (nI s &&& 31)).toNatClampNeg, (by decide +kernel : ∀ x, x < 256 → ∀ s, s < 8 → nI x ||| nI 1 <<< (nI s &&& 31) = nI (nI x ||| nI 1 <<< (nI s &&& 31)).toNatClampNeg ∧ (nI x ||| nI 1 <<< (nI s &&& 31)).toNatClampNeg < 256) x hx s hs⟩
theorem an_256 : ∀ x, x < 256 → ∀ s, s < 8 → ∃ y, nI x &&& (nI 1 <<< (nI s &&& 31) ^^^ -1) = nI y ∧ y < 256 := fun x hx s hs =>
  ⟨(nI x &&& (nI 1 <<< (nI s &&& 31) ^^^ -1)).toNatClampNeg, (by decide +kernel : ∀ x, x < 256 → ∀ s, s < 8 → nI x &&& (nI 1 <<< (nI s &&& 31) ^^^ -1) = nI (nI x &&& (nI 1 <<< (nI s &&& 31) ^^^ -1)).toNatClampNeg ∧ (nI x &&& (nI 1 <<< (nI s &&& 31) ^^^ -1)).toNatClampNeg < 256) x hx s hs⟩
theorem mSat_ok {st : Nat → Int32} {s : Nat} {f : Int32} (hok : mOK st) (hs : s ≤ 7) (hf : mWSat (nI s) f = nI 0) : mOK (mSat st s f) := by
  obtain ⟨⟨h1, ⟨x, hx, hx2⟩, h3⟩, c, hc, h12, hb⟩ := hok
  have hff : f = -6 ∨ ∃ j, j < 4096 ∧ f = nI j := by
    by_cases g : f = -6
    · exact Or.inl g
    · rcases inR_split 0 4095 f (by decide) rfl with ⟨j, hj, e⟩ | e
      · exact Or.inr ⟨j, by omega, e⟩
      · unfold mWSat at hf
        rw [if_neg g, if_pos (of_eq_true (inR_T (show s ≤ 7 by omega) (by decide))), if_neg (of_eq_false e)] at hf
        exact absurd hf (by decide)
  unfold mSat
  refine ⟨⟨fun w' hw' => ?_, ?_, fun s' hs' => ?_⟩, c, ?_, h12, fun a ha => bOK_congr (fun i hi => ?_) (hb a ha)⟩
  · rw [upd_ne (by omega), upd_ne (by omega)]; exact h1 w' hw'
  · rw [upd_ne (by omega), upd_same, hx]; exact or_256 x hx2 s (by omega)
  · by_cases g : s' = s
    · subst g
      rw [upd_same]
      rcases hff with e | ⟨j, hj, e⟩
      · rw [if_pos e]; exact h3 s' hs'
      · by_cases e6 : f = -6
        · rw [if_pos e6]; exact h3 s' hs'
        · rw [if_neg e6]; exact ⟨j, e, hj⟩
    · rw [upd_ne (by omega), upd_ne (by omega)]; exact h3 s' hs'
  · rw [upd_ne (by omega), upd_ne (by omega)]; exact hc
  · unfold bk; rw [upd_ne (by omega), upd_ne (by omega)]
theorem mLeft_ok {st : Nat → Int32} {s : Nat} (hok : mOK st) (hs : s ≤ 7) : mOK (mLeft st s) := by
  obtain ⟨⟨h1, ⟨x, hx, hx2⟩, h3⟩, c, hc, h12, hb⟩ := hok
  unfold mLeft
  refine ⟨⟨fun w' hw' => ?_, ?_, fun s' hs' => ?_⟩, c, ?_, h12, fun a ha => bOK_congr (fun i hi => ?_) (hb a ha)⟩
  · rw [upd_ne (by omega)]; exact h1 w' hw'
  · rw [upd_same, hx]; exact an_256 x hx2 s (by omega)
  · rw [upd_ne (by omega)]; exact h3 s' hs'
  · rw [upd_ne (by omega)]; exact hc
  · unfold bk; rw [upd_ne (by omega)]
theorem mTells_ok {st : Nat → Int32} {a n c : Nat} {p : Int32} (hok : mOK st) (hc : st 34 = nI c) (h12 : c ≤ 12) (ha : a < c) (hn : st (35 + 28 * a + 1) = nI n) (h8 : n ≤ 8) (hv : mWTell st a n p = nI 0) : mOK (upd st (35 + 28 * a + 3) p) := by
  obtain ⟨he, c', hc', h12', hb⟩ := hok
  have hcc : c' = c := nI_inj (by omega) (by omega) (hc'.symm.trans hc)
  subst hcc
  refine ⟨eOK_cong (fun k hk => upd_ne (by omega)) he, c', by rw [upd_ne (by omega)]; exact hc, h12, fun a' ha' => ?_⟩
  by_cases g : a' = a
  · subst g
    obtain ⟨n', e1, e2, e3, e4, e5, e6, e7, e8, e9, e10⟩ := hb a' ha'
    have hnn : n' = n := nI_inj (by omega) (by omega) (e1.symm.trans hn)
    subst hnn
    have hE : ∀ i, i ≠ 3 → bk (upd st (35 + 28 * a' + 3) p) a' i = bk st a' i := fun i hi => upd_ne (by omega)
    have h3 : bk (upd st (35 + 28 * a' + 3) p) a' 3 = p := upd_same
    refine ⟨n', ?_, e2, e3, ?_, ?_, fun g hg => ?_, fun g g' h1 h2 => ?_, fun g hg => ?_, fun g hg => ?_, ?_⟩
    · rw [hE 1 (by omega)]; exact e1
    · rw [hE 0 (by omega)]; exact e4
    · rw [hE 2 (by omega)]; exact e5
    · rw [hE _ (by omega)]; exact e6 g hg
    · rw [hE _ (by omega), hE _ (by omega)]; exact e7 g g' h1 h2
    · rw [hE _ (by omega)]; exact e8 g hg
    · rw [hE _ (by omega)]; exact e9 g hg
    · rw [h3]
      right
      unfold mWTell at hv
      by_cases hev : n' % 2 = 0
      · rw [if_pos hev] at hv
        rcases inR_split 0 15 p (by decide) rfl with ⟨j, hj, e⟩ | e
        · exact ⟨j, e, by omega, fun _ => by omega⟩
        · rw [if_neg (of_eq_false e)] at hv; exact absurd hv (by decide)
      · rw [if_neg hev] at hv
        rcases inR_split 0 4095 p (by decide) rfl with ⟨j, hj, e⟩ | e
        · exact ⟨j, e, by omega, fun z => absurd z hev⟩
        · rw [if_neg (of_eq_false e)] at hv; exact absurd hv (by decide)
  · exact bOK_congr (fun i hi => upd_ne (by omega)) (hb a' ha')
theorem mCp_be (st : Nat → Int32) (l a : Nat) : ∀ k j, j < 35 + 28 * l → mCp st l a k j = st j
  | 0, _, _ => rfl
  | k + 1, j, h => by rw [mCp, upd_ne (by omega), mCp_be st l a k j h]
theorem mCp_at (st : Nat → Int32) {l a : Nat} (hl : l ≤ a) : ∀ k i, i < k → mCp st l a k (35 + 28 * l + i) = st (35 + 28 * a + i)
  | 0, i, h => by omega
  | k + 1, i, h => by
    rw [mCp]
    by_cases g : i = k
    · subst g
      rw [upd_same, mCp_hi _ _ _ _ _ (by omega)]
    · rw [upd_ne (by omega), mCp_at st hl k i (by omega)]
theorem mCl_blk (st : Nat → Int32) : ∀ a j, j < mGR st a → ∃ a', a' < a ∧ mGR st a' = j ∧ st (35 + 28 * a' + 2) = nI 0 ∧ ∀ i, i < 28 → mCl st a (35 + 28 * j + i) = st (35 + 28 * a' + i)
  | 0, j, h => by simp [mGR] at h
  | a + 1, j, h => by
    have hle := mGR_le st a
    rw [mGR] at h
    rw [mCl]
    by_cases g : st (35 + 28 * a + 2) = nI 0
    · rw [if_pos g] at h
      rw [if_pos g]
      by_cases hj : j = mGR st a
      · subst hj
        refine ⟨a, by omega, rfl, g, fun i hi => ?_⟩
        rw [mCp_at _ hle 28 i hi, mCl_hi st a _ (by omega)]
      · obtain ⟨a', h1, h2, h3, h4⟩ := mCl_blk st a j (by omega)
        refine ⟨a', by omega, h2, h3, fun i hi => ?_⟩
        rw [mCp_be _ _ _ _ _ (by omega)]
        exact h4 i hi
    · rw [if_neg g] at h
      rw [if_neg g]
      obtain ⟨a', h1, h2, h3, h4⟩ := mCl_blk st a j (by omega)
      exact ⟨a', by omega, h2, h3, h4⟩
theorem mClear_ok {st : Nat → Int32} {c : Nat} (hok : mOK st) (hc : st 34 = nI c) (h12 : c ≤ 12) : mOK (mClear st c) := by
  obtain ⟨he, c', hc', h12', hb⟩ := hok
  have hcc : c' = c := nI_inj (by omega) (by omega) (hc'.symm.trans hc)
  subst hcc
  have hle := mGR_le st c'
  unfold mClear
  refine ⟨eOK_cong (fun k hk => by rw [upd_ne (by omega), mCl_lo _ _ _ (by omega)]) he, mGR st c', upd_same, by omega, fun j hj => ?_⟩
  obtain ⟨a', h1, h2, h3, h4⟩ := mCl_blk st c' j hj
  refine bOK_congr (fun i hi => ?_) (hb a' h1)
  unfold bk
  rw [upd_ne (by omega)]
  exact h4 i hi
def mRnds (st : Nat → Int32) (c : Nat) : Nat → Nat → Int32
  | 0 => st
  | k + 1 => mRnd (mRnds st c k) c
theorem mRnds_ok {st : Nat → Int32} {c : Nat} (hok : mOK st) (hc : st 34 = nI c) : ∀ k, mOK (mRnds st c k) ∧ mRnds st c k 34 = nI c
  | 0 => ⟨hok, hc⟩
  | k + 1 => ⟨mRnd_ok (mRnds_ok hok hc k).1, by rw [mRnds, mRnd_34]; exact (mRnds_ok hok hc k).2⟩
