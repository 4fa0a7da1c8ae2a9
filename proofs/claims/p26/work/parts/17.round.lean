/-! THE REFERENCE: what holds stays so; a round of all albums -/
theorem nI_neg6 {x : Nat} (h : x < 2147483648) : (nI x = -6) = False := eq_false fun z => by
  have h1 := congrArg Int32.toInt z
  rw [nI_toInt (by omega)] at h1
  have h6 : (-6 : Int32).toInt = -6 := by decide
  omega
theorem nI_inj {a b : Nat} (ha : a < 2147483648) (hb : b < 2147483648) (h : nI a = nI b) : a = b := (nI_eq ha hb).mp h
theorem mG_16 (st : Nat → Int32) (dr : Int32) : mG st dr 16 < 16 := mG_lt st dr 16 (by decide)
theorem and_4096 {x y : Nat} (hx : x < 4096) : x &&& y < 4096 := Nat.lt_of_le_of_lt Nat.and_le_left hx
theorem nx_and' (x y : Nat) : nI x &&& nI y = nI (x &&& y) := by
  apply Int32.toBitVec_inj.1
  show BitVec.ofNat 32 x &&& BitVec.ofNat 32 y = BitVec.ofNat 32 (x &&& y)
  apply BitVec.eq_of_getLsbD_eq
  intro i hi
  simp [hi]
theorem bOK_N {b : Nat → Int32} {n : Nat} (h : b 1 = nI n) (h8 : n ≤ 8) : bN b = n := by unfold bN; rw [h]; exact nIc (by omega)
theorem bNx_cases {st b : Nat → Int32} (hb : bOK b) : bNx st b = -6 ∨ ∃ q, q < 8 ∧ bNx st b = nI q ∧ bt (st 16) q = true ∧ bN b ≤ 7 ∧ ∀ g, g < bN b → b (4 + 3 * g) ≠ nI q := by
  obtain ⟨n, h1, h2, h3, ho, hh, hs, hd, -⟩ := hb
  have eN := bOK_N h1 h3
  rcases mNx_cases st (bSe b (bN b)) (bLi b) 8 with h | ⟨q, hq, e, ht, hf⟩
  · exact Or.inl h
  · rw [eN] at hf
    have hno : ∀ g, g < n → b (4 + 3 * g) ≠ nI q := by
      intro g hg e2
      have := (bSe_bt n hs q (by omega)).mpr ⟨g, hg, e2⟩
      rw [hf] at this
      cases this
    refine Or.inr ⟨q, hq, e, ht, ?_, by rw [eN]; exact hno⟩
    rw [eN]
    refine Nat.le_of_lt_succ (Nat.lt_of_not_le fun h8 => ?_)
    have hn8 : n = 8 := by omega
    subst hn8
    have := fb_holes 8 9 (fun g => if g < 8 then (b (4 + 3 * g)).toNatClampNeg else q) (by
      intro i hi
      split
      · rename_i hl
        obtain ⟨s, e1, e2⟩ := hs i hl
        rw [e1, nIc (by omega)]
        exact e2
      · exact hq) (by
      intro i j hij hj
      rw [if_pos (by omega)]
      obtain ⟨s, e1, e2⟩ := hs i (by omega)
      split
      · rename_i hl
        obtain ⟨s', e3, e4⟩ := hs j hl
        rw [e1, e3, nIc (by omega), nIc (by omega)]
        intro z
        exact hd i j hij hl (by rw [e1, e3, z])
      · rw [e1, nIc (by omega)]
        intro z
        exact hno i (by omega) (by rw [e1, z]))
    omega
theorem bNew_ok {st b : Nat → Int32} (he : eOK st) (hb : bOK b) {s : Nat} (hs : s < 8) : ∃ x, bNew st b s = nI x ∧ x < 4096 ∧ (bN b % 2 = 0 → x < 16) := by
  obtain ⟨n, h1, h2, h3, ho, hh, hsq, hd, hw, hf, ht⟩ := hb
  have eN := bOK_N h1 h3
  rw [eN]
  unfold bNew
  by_cases h : b 3 = -6
  · rw [if_pos h]
    unfold bWhat
    rw [eN]
    by_cases hp : n % 2 = 0
    · rw [if_pos hp]
      have := mG_16 st (b (4 + 3 * (n - 1) + 1))
      exact ⟨_, rfl, by omega, fun _ => this⟩
    · rw [if_neg hp]
      obtain ⟨w, e1, e2, e3⟩ := hw (n - 1) (by omega)
      have hw16 := e3 (by omega)
      rw [e1, nIc (by omega)]
      obtain ⟨x, f1, f2⟩ := he.1 w hw16
      obtain ⟨y, g1, g2⟩ := he.2.2 s hs
      rw [f1, g1, nx_and']
      exact ⟨_, rfl, and_4096 f2, fun z => absurd z hp⟩
  · rw [if_neg h]
    rcases ht with ht | ht
    · exact absurd ht h
    · exact ht
theorem bStep_ok {st b : Nat → Int32} (he : eOK st) (hb : bOK b) : bOK (bStep st b) := by
  unfold bStep
  by_cases h2 : b 2 = nI 0
  · rw [if_pos h2]
    rcases bNx_cases (st := st) hb with hx | ⟨q, hq, hx, hbt, h7, hno⟩
    · rw [if_pos hx]
      obtain ⟨n, h1, h2', h3, ho, hh, hsq, hd, hw, hf, ht⟩ := hb
      have u : ∀ k v, k ≠ 2 → upd b 2 v k = b k := fun k v hk => upd_ne hk
      refine ⟨n, by rw [u 1 _ (by omega)]; exact h1, h2', h3, by rw [u 0 _ (by omega)]; exact ho, ?_, fun g hg => by rw [u _ _ (by omega)]; exact hsq g hg, fun g g' a1 a2 => by rw [u _ _ (by omega), u _ _ (by omega)]; exact hd g g' a1 a2, fun g hg => by rw [u _ _ (by omega)]; exact hw g hg, fun g hg => by rw [u _ _ (by omega)]; exact hf g hg, by rw [u _ _ (by omega)]; exact ht⟩
      rw [upd_same]
      by_cases hm : mTk st (b 0) = true
      · rw [if_pos hm]; exact Or.inr (Or.inl rfl)
      · rw [if_neg hm]; exact Or.inr (Or.inr rfl)
    · rw [if_neg (by rw [hx, nI_neg6 (by omega)]; exact id), hx, nIc (by omega)]
      obtain ⟨x, hx1, hx2, hx3⟩ := bNew_ok he hb hq
      obtain ⟨n, h1, h2', h3, ho, hh, hsq, hd, hw, hf, ht⟩ := hb
      have eN := bOK_N h1 h3
      rw [eN] at h7 hno hx3
      rw [hx1]
      generalize hfl : (if b 3 = -6 then nI 0 else nI 1) = fl
      have hfl2 : fl = nI 0 ∨ fl = nI 1 := by
        rw [← hfl]
        by_cases h : b 3 = -6
        · rw [if_pos h]; exact Or.inl rfl
        · rw [if_neg h]; exact Or.inr rfl
      have u1 : bGo b q (nI x) fl 1 = nI (n + 1) := by unfold bGo; rw [eN, upd_ne (by omega), upd_same]
      have u3 : bGo b q (nI x) fl 3 = -6 := by unfold bGo; rw [upd_same]
      have us : bGo b q (nI x) fl (4 + 3 * n) = nI q := by unfold bGo; rw [eN, upd_ne (by omega), upd_ne (by omega), upd_ne (by omega), upd_ne (by omega), upd_same]
      have uw : bGo b q (nI x) fl (4 + 3 * n + 1) = nI x := by unfold bGo; rw [eN, upd_ne (by omega), upd_ne (by omega), upd_ne (by omega), upd_same]
      have uf : bGo b q (nI x) fl (4 + 3 * n + 2) = fl := by unfold bGo; rw [eN, upd_ne (by omega), upd_ne (by omega), upd_same]
      have u : ∀ k, k ≠ 1 → k ≠ 3 → k < 4 + 3 * n → bGo b q (nI x) fl k = b k := fun k a1 a2 a3 => by unfold bGo; rw [eN, upd_ne (by omega), upd_ne (by omega), upd_ne (by omega), upd_ne (by omega), upd_ne (by omega)]
      refine ⟨n + 1, u1, by omega, by omega, by rw [u 0 (by omega) (by omega) (by omega)]; exact ho, by rw [u 2 (by omega) (by omega) (by omega)]; exact hh, fun g hg => ?_, fun g g' a1 a2 => ?_, fun g hg => ?_, fun g hg => ?_, Or.inl u3⟩
      · by_cases hgn : g = n
        · subst hgn; rw [us]; exact ⟨q, rfl, hq⟩
        · rw [u _ (by omega) (by omega) (by omega)]; exact hsq g (by omega)
      · by_cases hgn : g' = n
        · subst hgn
          rw [us, u _ (by omega) (by omega) (by omega)]
          exact hno g a1
        · rw [u _ (by omega) (by omega) (by omega), u _ (by omega) (by omega) (by omega)]
          exact hd g g' a1 (by omega)
      · by_cases hgn : g = n
        · subst hgn; rw [uw]; exact ⟨x, rfl, hx2, hx3⟩
        · rw [u _ (by omega) (by omega) (by omega)]; exact hw g (by omega)
      · by_cases hgn : g = n
        · subst hgn; rw [uf]; exact hfl2
        · rw [u _ (by omega) (by omega) (by omega)]; exact hf g (by omega)
  · rw [if_neg h2]; exact hb
theorem eOK_of {st st' : Nat → Int32} (h : ∀ k, k < 25 → st' k = st k) (he : eOK st) : eOK st' :=
  ⟨fun w hw => by rw [h w (by omega)]; exact he.1 w hw, by rw [h 16 (by omega)]; exact he.2.1, fun s hs => by rw [h (17 + s) (by omega)]; exact he.2.2 s hs⟩
theorem bOK_congr {b b' : Nat → Int32} (h : ∀ i, i < 28 → b' i = b i) (hb : bOK b) : bOK b' := by
  obtain ⟨n, h1, h2', h3, ho, hh, hsq, hd, hw, hf, ht⟩ := hb
  refine ⟨n, by rw [h 1 (by omega)]; exact h1, h2', h3, by rw [h 0 (by omega)]; exact ho, by rw [h 2 (by omega)]; exact hh, fun g hg => by rw [h _ (by omega)]; exact hsq g hg, fun g g' a1 a2 => by rw [h _ (by omega), h _ (by omega)]; exact hd g g' a1 a2, fun g hg => by rw [h _ (by omega)]; exact hw g hg, fun g hg => by rw [h _ (by omega)]; exact hf g hg, by rw [h 3 (by omega)]; exact ht⟩
theorem mOne_ok {st : Nat → Int32} {a : Nat} (h : mOK st) : mOK (mOne st a) := by
  obtain ⟨he, c, hc, h12, hb⟩ := h
  refine ⟨eOK_of (fun k hk => mOne_env st a (by omega)) he, c, by rw [mOne_env st a (by omega)]; exact hc, h12, fun a' ha' => ?_⟩
  by_cases h : a' = a
  · subst h
    exact bOK_congr (fun i hi => mOne_bk st a' hi) (bStep_ok he (hb a' ha'))
  · exact bOK_congr (fun i hi => mOne_bk_ne st (Ne.symm h) hi) (hb a' ha')
theorem mAll_ok {st : Nat → Int32} (h : mOK st) : ∀ i, mOK (mAll st i)
  | 0 => h
  | i + 1 => mOne_ok (mAll_ok h i)
theorem mAll_env (st : Nat → Int32) {k : Nat} (h : k < 25 ∨ k = 33 ∨ k = 34) : ∀ i, mAll st i k = st k
  | 0 => rfl
  | i + 1 => by rw [mAll, mOne_env _ _ h, mAll_env st h i]
section MR
variable {d : Nat} {σ : aS} {Q : aQ} {m a : Nat} {st : Nat → Int32} {fs : List Value}
/-- a round: the counter, then each album -/
def mRnd (st : Nat → Int32) (c : Nat) : Nat → Int32 := mAll (upd st 33 (st 33 + nI 1)) c
theorem mOK_33 {v : Int32} (h : mOK st) : mOK (upd st 33 v) := by
  obtain ⟨he, c, hc, h12, hb⟩ := h
  refine ⟨eOK_of (fun k hk => upd_ne (by omega)) he, c, by rw [upd_ne (by omega)]; exact hc, h12, fun a ha => ?_⟩
  rw [bk_upd_lo st a 33 v (by omega)]
  exact hb a ha
theorem mRnd_ok {c : Nat} (h : mOK st) : mOK (mRnd st c) := mAll_ok (mOK_33 h) c
end MR
