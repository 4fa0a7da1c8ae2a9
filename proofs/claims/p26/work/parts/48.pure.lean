/-! points of albums played to their ends; an owner has one album that goes round -/
theorem bDl_done {st b : Nat → Int32} {j : Nat} (h : ¬ b 2 = nI 0) : bDl st b j = nI 0 := by unfold bDl; rw [if_neg h]
theorem bStep_done {st b : Nat → Int32} (h : ¬ b 2 = nI 0) : bStep st b = b := by unfold bStep; rw [if_neg h]
theorem bEndD_done {st b : Nat → Int32} {j : Nat} (h : ¬ b 2 = nI 0) : ∀ f, bEndD st f b j = nI 0
  | 0 => rfl
  | f + 1 => by rw [bEndD, if_neg h]
theorem bEndD_succ (st b : Nat → Int32) (f j : Nat) : bEndD st (f + 1) b j = bDl st b j + bEndD st f (bStep st b) j := by
  by_cases h : b 2 = nI 0
  · rw [bEndD, if_pos h]
  · rw [bEndD_done h, bDl_done h, bStep_done h, bEndD_done h]
    decide
theorem bEndD_cong {st st' : Nat → Int32} (he : ∀ k, k < 25 → st' k = st k) (hE : eOK st) (j : Nat) : ∀ (f : Nat) (b b' : Nat → Int32), (∀ i, i < 28 → b' i = b i) → bOK b → bEndD st' f b' j = bEndD st f b j
  | 0, _, _, _, _ => rfl
  | f + 1, b, b', h, hb => by
    rw [bEndD_succ, bEndD_succ, bDl_cong he h hb, bEndD_cong he hE j f (bStep st b) (bStep st' b') (bStep_cong he h hb) (bStep_ok hE hb)]
def mPtF (st : Nat → Int32) (f j : Nat) : Nat → Int32
  | 0 => nI 0
  | a + 1 => mPtF st f j a + bEndD st f (bk st a) j
theorem mPtD_F (st : Nat → Int32) (j : Nat) : ∀ c, mPtD st j c = mPtF st 9 j c
  | 0 => rfl
  | c + 1 => by rw [mPtD, mPtF, mPtD_F st j c]
def mDlS (st : Nat → Int32) (j : Nat) : Nat → Int32
  | 0 => nI 0
  | a + 1 => mDlS st j a + bDl st (bk st a) j
theorem mAll_pts {st : Nat → Int32} (hok : mOK st) {c j : Nat} (hc : st 34 = nI c) (h12 : c ≤ 12) (hj : j < 8) : ∀ i, i ≤ c → mAll st i (25 + j) = st (25 + j) + mDlS st j i
  | 0, _ => by rw [mAll, mDlS, nI_0, Int32.add_zero]
  | i + 1, h => by
    have ih := mAll_pts hok hc h12 hj i (by omega)
    rw [mAll, mDlS]
    unfold mOne
    rw [if_neg (by omega), if_pos (by omega), ih, show 25 + j - 25 = j by omega, bDl_cong (fun k hk => mAll_env st (by omega) i) (mAll_bk_hi st i (Nat.le_refl i)) (mOK_b hok hc h12 (by omega)), Int32.add_assoc]
theorem mDlS_33 (st : Nat → Int32) (hok : mOK st) (v : Int32) (j : Nat) {c : Nat} (hc : st 34 = nI c) (h12 : c ≤ 12) : ∀ i, i ≤ c → mDlS (upd st 33 v) j i = mDlS st j i
  | 0, _ => rfl
  | i + 1, h => by
    rw [mDlS, mDlS, mDlS_33 st hok v j hc h12 i (by omega), bk_upd_lo st i 33 v (by omega), bDl_cong (fun k hk => upd_ne (by omega)) (fun i hi => rfl) (mOK_b hok hc h12 (by omega))]
theorem mRnd_pts {st : Nat → Int32} (hok : mOK st) {c j : Nat} (hc : st 34 = nI c) (h12 : c ≤ 12) (hj : j < 8) : mRnd st c (25 + j) = st (25 + j) + mDlS st j c := by
  unfold mRnd
  rw [mAll_pts (mOK_33 hok) (by rw [upd_ne (by omega)]; exact hc) h12 hj c (Nat.le_refl c), upd_ne (by omega), mDlS_33 st hok _ j hc h12 c (Nat.le_refl c)]
theorem mPtF_zero (st : Nat → Int32) (j : Nat) : ∀ c, mPtF st 0 j c = nI 0
  | 0 => rfl
  | c + 1 => by rw [mPtF, mPtF_zero st j c, bEndD]; decide
theorem mPtF_done (st : Nat → Int32) (f j : Nat) : ∀ c, (∀ a, a < c → ¬ st (35 + 28 * a + 2) = nI 0) → mPtF st f j c = nI 0
  | 0, _ => rfl
  | c + 1, h => by
    rw [mPtF, mPtF_done st f j c (fun a ha => h a (by omega)), bEndD_done (h c (by omega))]
    decide
theorem mHow_zero {st : Nat → Int32} {v : Int32} : ∀ c, ¬ 0 < mHow st v c → ∀ a, a < c → ¬ st (35 + 28 * a + 2) = v
  | 0, _, a, ha => by omega
  | c + 1, h, a, ha => by
    rw [mHow] at h
    by_cases e : a = c
    · subst e
      intro z
      rw [if_pos z] at h
      omega
    · exact mHow_zero c (by omega) a (by omega)
theorem mPtF_succ {st : Nat → Int32} (hok : mOK st) {c : Nat} (f j : Nat) (hc : st 34 = nI c) (h12 : c ≤ 12) : ∀ i, i ≤ c → mPtF st (f + 1) j i = mDlS st j i + mPtF (mRnd st c) f j i
  | 0, _ => by rw [mPtF, mPtF, mDlS]; decide
  | i + 1, h => by
    have hb := mOK_b hok hc h12 (show i < c by omega)
    rw [mPtF, mPtF, mDlS, mPtF_succ hok f j hc h12 i (by omega), bEndD_succ]
    rw [bEndD_cong (st := st) (fun k hk => mRnd_env (by omega)) hok.1 j f (bStep st (bk st i)) (bk (mRnd st c) i) (mRnd_bk hok hc h12 (by omega)) (bStep_ok hok.1 hb)]
    rw [Int32.add_assoc, Int32.add_assoc, ← Int32.add_assoc (mPtF _ _ _ _), Int32.add_comm (mPtF _ _ _ _) (bDl _ _ _), Int32.add_assoc]
theorem mPt_pts {c j : Nat} (h12 : c ≤ 12) (hj : j < 8) : ∀ (f : Nat) (st : Nat → Int32), mOK st → st 34 = nI c → mPt c f st (25 + j) = st (25 + j) + mPtF st f j c
  | 0, st, _, _ => by rw [mPt, mPtF_zero, nI_0, Int32.add_zero]
  | f + 1, st, hok, hc => by
    rw [mPt]
    by_cases h : 0 < mHow st (nI 0) c
    · rw [if_pos h, mPt_pts h12 hj f _ (mRnd_ok hok) (by rw [mRnd_34]; exact hc), mRnd_pts hok hc h12 hj, mPtF_succ hok f j hc h12 c (Nat.le_refl c), Int32.add_assoc]
    · rw [if_neg h, mPtF_done st (f + 1) j c (mHow_zero c h), nI_0, Int32.add_zero]
/-! an owner has at most one album that goes round -/
def mK (st : Nat → Int32) : Prop := mOK st ∧ mUn st (st 34).toNatClampNeg
theorem mK_u {st : Nat → Int32} {c : Nat} (h : mK st) (hc : st 34 = nI c) (h12 : c ≤ 12) : mUn st c := by
  have := h.2
  rw [hc, nIc (by omega)] at this
  exact this
theorem mK_of {st : Nat → Int32} {c : Nat} (h : mOK st) (hc : st 34 = nI c) (h12 : c ≤ 12) (hu : mUn st c) : mK st := ⟨h, by rw [hc, nIc (by omega)]; exact hu⟩
theorem mUn_keep {st st' : Nat → Int32} {c : Nat} (h0 : ∀ a, a < c → st' (35 + 28 * a + 0) = st (35 + 28 * a + 0)) (h2 : ∀ a, a < c → st' (35 + 28 * a + 2) = nI 0 → st (35 + 28 * a + 2) = nI 0) (h : mUn st c) : mUn st' c := fun a b ha hb e1 e2 e3 => h a b ha hb (by rw [← h0 a ha, ← h0 b hb]; exact e1) (h2 a ha e2) (h2 b hb e3)
theorem mTeach_K {st : Nat → Int32} {w x : Nat} (h : mK st) (hw : w ≤ 15) (hx : x ≤ 4095) : mK (upd st w (nI x)) := by
  refine ⟨mTeach_ok h.1 hw hx, ?_⟩
  rw [upd_ne (by omega)]
  exact mUn_keep (fun a ha => upd_ne (by omega)) (fun a ha => by rw [upd_ne (by omega)]; exact id) h.2
theorem mSat_hi {st : Nat → Int32} {s : Nat} {f : Int32} {k : Nat} (hs : s ≤ 7) (h : 25 ≤ k) : mSat st s f k = st k := by unfold mSat; rw [upd_ne (by omega), upd_ne (by omega)]
theorem mLeft_hi {st : Nat → Int32} {s k : Nat} (h : 25 ≤ k) : mLeft st s k = st k := upd_ne (by omega)
theorem mSat_K {st : Nat → Int32} {s : Nat} {f : Int32} (h : mK st) (hs : s ≤ 7) (hf : mWSat (nI s) f = nI 0) : mK (mSat st s f) := by
  refine ⟨mSat_ok h.1 hs hf, ?_⟩
  rw [mSat_hi hs (by omega)]
  exact mUn_keep (fun a ha => mSat_hi hs (by omega)) (fun a ha => by rw [mSat_hi hs (by omega)]; exact id) h.2
theorem mLeft_K {st : Nat → Int32} {s : Nat} (h : mK st) (hs : s ≤ 7) : mK (mLeft st s) := by
  refine ⟨mLeft_ok h.1 hs, ?_⟩
  rw [mLeft_hi (by omega)]
  exact mUn_keep (fun a ha => mLeft_hi (by omega)) (fun a ha => by rw [mLeft_hi (by omega)]; exact id) h.2
theorem mTells_K {st : Nat → Int32} {a n c : Nat} {p : Int32} (h : mK st) (hc : st 34 = nI c) (h12 : c ≤ 12) (ha : a < c) (hn : st (35 + 28 * a + 1) = nI n) (h8 : n ≤ 8) (hv : mWTell st a n p = nI 0) : mK (upd st (35 + 28 * a + 3) p) := by
  refine ⟨mTells_ok h.1 hc h12 ha hn h8 hv, ?_⟩
  rw [upd_ne (by omega)]
  exact mUn_keep (fun a ha => upd_ne (by omega)) (fun a ha => by rw [upd_ne (by omega)]; exact id) h.2
theorem mAlbOf_none {st : Nat → Int32} {s : Int32} : ∀ c, c ≤ 12 → mAlbOf st s c = -6 → ∀ a, a < c → ¬ (st (35 + 28 * a + 0) = s ∧ st (35 + 28 * a + 2) = nI 0)
  | 0, _, _, a, ha => by omega
  | c + 1, h12, h, a, ha => by
    rw [mAlbOf] at h
    by_cases g : st (35 + 28 * c + 0) = s ∧ st (35 + 28 * c + 2) = nI 0
    · rw [if_pos g] at h
      exact absurd h (of_eq_false (nI_neg6 (by omega)))
    · rw [if_neg g] at h
      by_cases e : a = c
      · subst e; exact g
      · exact mAlbOf_none c (by omega) h a (by omega)
theorem mBeg_K {st : Nat → Int32} {c s w : Nat} (h : mK st) (hc : st 34 = nI c) (h12 : c < 12) (hs : s ≤ 7) (hw : w ≤ 15) (hv : mWBeg st (nI s) (nI w) c = nI 0) : mK (mBeg st c s w) := by
  obtain ⟨-, -, -, -, -, -, -, -, g2⟩ := mWBeg_0 hv
  refine mK_of (mBeg_ok h.1.1 (fun a ha => mOK_b h.1 hc (by omega) ha) h12 (by omega) (by omega)) (mBeg_34 st c s w) (by omega) ?_
  have hu := mK_u h hc (by omega)
  have hno := mAlbOf_none c (by omega) g2
  have ec : ∀ k, k < 28 → mBeg st c s w (35 + 28 * c + k) = b0 s w k := mBeg_bk st c s w
  have ec0 : mBeg st c s w (35 + 28 * c + 0) = nI s := ec 0 (by omega)
  have eo : ∀ a, a < c → ∀ k, k < 28 → mBeg st c s w (35 + 28 * a + k) = st (35 + 28 * a + k) := fun a ha k hk => mBeg_out st c s w (by omega) (by omega)
  intro a b ha hb e1 e2 e3
  by_cases ga : a = c
  · by_cases gb : b = c
    · omega
    · subst ga
      rw [ec0, eo b (by omega) 0 (by omega)] at e1
      rw [eo b (by omega) 2 (by omega)] at e3
      exact absurd ⟨e1.symm, e3⟩ (hno b (by omega))
  · by_cases gb : b = c
    · subst gb
      rw [ec0, eo a (by omega) 0 (by omega)] at e1
      rw [eo a (by omega) 2 (by omega)] at e2
      exact absurd ⟨e1, e2⟩ (hno a (by omega))
    · rw [eo a (by omega) 0 (by omega), eo b (by omega) 0 (by omega)] at e1
      rw [eo a (by omega) 2 (by omega)] at e2
      rw [eo b (by omega) 2 (by omega)] at e3
      exact hu a b (by omega) (by omega) e1 e2 e3
theorem bStep_0 {st b : Nat → Int32} (hb : bOK b) : bStep st b 0 = b 0 ∧ (bStep st b 2 = nI 0 → b 2 = nI 0) := by
  by_cases g : b 2 = nI 0
  · refine ⟨?_, fun _ => g⟩
    obtain ⟨n, n1, n2, n3, -⟩ := id hb
    have eN := bOK_N n1 n3
    unfold bStep bGo
    rw [if_pos g, eN]
    split
    · exact upd_ne (by omega)
    · simp (disch := omega) only [upd_ne]
  · rw [bStep_done g]
    exact ⟨rfl, id⟩
theorem mRnd_K {st : Nat → Int32} {c : Nat} (h : mK st) (hc : st 34 = nI c) (h12 : c ≤ 12) : mK (mRnd st c) := by
  refine mK_of (mRnd_ok h.1) (by rw [mRnd_34]; exact hc) h12 ?_
  have e := fun a (ha : a < c) => mRnd_bk h.1 hc h12 ha
  refine mUn_keep (fun a ha => ?_) (fun a ha hz => ?_) (mK_u h hc h12)
  · have := e a ha 0 (by omega)
    rw [(bStep_0 (mOK_b h.1 hc h12 ha)).1] at this
    exact this
  · have := e a ha 2 (by omega)
    exact (bStep_0 (mOK_b h.1 hc h12 ha)).2 (this.symm.trans hz)
theorem mRnds_K {st : Nat → Int32} {c : Nat} (h : mK st) (hc : st 34 = nI c) (h12 : c ≤ 12) : ∀ k, mK (mRnds st c k)
  | 0 => h
  | k + 1 => mRnd_K (mRnds_K h hc h12 k) (mRnds_ok h.1 hc k).2 h12
theorem mClear_K {st : Nat → Int32} {c : Nat} (h : mK st) (hc : st 34 = nI c) (h12 : c ≤ 12) : mK (mClear st c) := by
  have hle := mGR_le st c
  refine mK_of (mClear_ok h.1 hc h12) upd_same (by omega) ?_
  intro a b ha hb e1 e2 e3
  obtain ⟨a', a1, a2, a3, a4⟩ := mCl_blk st c a ha
  obtain ⟨b', b1, b2, b3, b4⟩ := mCl_blk st c b hb
  have u : ∀ k, k ≠ 34 → mClear st c k = mCl st c k := fun k hk => upd_ne hk
  rw [u _ (by omega), u _ (by omega), a4 0 (by omega), b4 0 (by omega)] at e1
  have := mK_u h hc h12 a' b' a1 b1 e1 a3 b3
  rw [← a2, ← b2, this]
