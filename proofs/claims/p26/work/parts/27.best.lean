/-! an album alone, to its end -/
def bEnd (st : Nat → Int32) : Nat → (Nat → Int32) → (Nat → Int32)
  | 0, b => b
  | f + 1, b => if b 2 = nI 0 then bEnd st f (bStep st b) else b
def bEndN (st : Nat → Int32) : Nat → (Nat → Int32) → Nat
  | 0, _ => 0
  | f + 1, b => if b 2 = nI 0 then bEndN st f (bStep st b) + 1 else 0
theorem bEnd_cong {st st' : Nat → Int32} (he : ∀ k, k < 25 → st' k = st k) (hE : eOK st) : ∀ (f : Nat) (b b' : Nat → Int32), (∀ i, i < 28 → b' i = b i) → bOK b → (∀ i, i < 28 → bEnd st' f b' i = bEnd st f b i) ∧ bEndN st' f b' = bEndN st f b
  | 0, _, _, h, _ => ⟨h, rfl⟩
  | f + 1, b, b', h, hb => by
    rw [bEnd, bEnd, bEndN, bEndN, h 2 (by omega)]
    by_cases g : b 2 = nI 0
    · rw [if_pos g, if_pos g, if_pos g, if_pos g]
      obtain ⟨h1, h2⟩ := bEnd_cong he hE f (bStep st b) (bStep st' b') (bStep_cong he h hb) (bStep_ok hE hb)
      exact ⟨h1, by rw [h2]⟩
    · rw [if_neg g, if_neg g, if_neg g, if_neg g]
      exact ⟨h, rfl⟩
theorem bEnd_ok {st : Nat → Int32} (hE : eOK st) : ∀ (f : Nat) (b : Nat → Int32), bOK b → bOK (bEnd st f b)
  | 0, _, h => h
  | f + 1, b, h => by
    rw [bEnd]
    split
    · exact bEnd_ok hE f _ (bStep_ok hE h)
    · exact h
theorem mFo_bk {a c : Nat} (h12 : c ≤ 12) (ha : a < c) : ∀ (f : Nat) (st : Nat → Int32), mOK st → st 34 = nI c → (∀ k, k < 28 → bk (mFo a c f st) a k = bEnd st f (bk st a) k) ∧ mFoN a c f st = bEndN st f (bk st a)
  | 0, _, _, _ => ⟨fun _ _ => rfl, rfl⟩
  | f + 1, st, hok, hc => by
    have hb : bOK (bk st a) := by
      obtain ⟨he, c2, hc2, hc12, hball⟩ := id hok
      have hc3 : c2 = c := nI_inj (by omega) (by omega) (hc2.symm.trans hc)
      subst hc3
      exact hball a ha
    have e2 : bk st a 2 = st (35 + 28 * a + 2) := rfl
    rw [mFo, mFoN, bEnd, bEndN, e2]
    by_cases g : st (35 + 28 * a + 2) = nI 0
    · rw [if_pos g, if_pos g, if_pos g, if_pos g]
      obtain ⟨h1, h2⟩ := mFo_bk h12 ha f (mRnd st c) (mRnd_ok hok) (by rw [mRnd_34]; exact hc)
      obtain ⟨h3, h4⟩ := bEnd_cong (st := st) (st' := mRnd st c) (fun k hk => mRnd_env (by omega)) hok.1 f (bStep st (bk st a)) (bk (mRnd st c) a) (mRnd_bk hok hc h12 ha) (bStep_ok hok.1 hb)
      exact ⟨fun k hk => (h1 k hk).trans (h3 k hk), by rw [h2, h4]⟩
    · rw [if_neg g, if_neg g, if_neg g, if_neg g]
      exact ⟨fun _ _ => rfl, rfl⟩
/-- a new album -/
def b0 (s w : Nat) (k : Nat) : Int32 := if k = 0 then nI s else if k = 1 then nI 1 else if k = 3 then -6 else if k = 4 then nI s else if k = 5 then nI w else nI 0
theorem b0_ok {s w : Nat} (hs : s < 8) (hw : w < 16) : bOK (b0 s w) := by
  refine ⟨1, rfl, by omega, by omega, ⟨s, rfl, hs⟩, Or.inl rfl, fun g hg => ?_, fun g g' h1 h2 => by omega, fun g hg => ?_, fun g hg => ?_, Or.inl rfl⟩ <;> have hg0 : g = 0 := by omega
  · subst hg0; exact ⟨s, rfl, hs⟩
  · subst hg0; exact ⟨w, rfl, by omega, fun _ => hw⟩
  · subst hg0; exact Or.inl rfl
theorem mBeg_bk (st : Nat → Int32) (c s w : Nat) : ∀ k, k < 28 → bk (mBeg st c s w) c k = b0 s w k := by
  intro k hk
  unfold mBeg
  show upd _ _ _ (35 + 28 * c + k) = _
  rw [upd_ne (by omega)]
  unfold mPut
  have h : k = 0 ∨ k = 1 ∨ k = 3 ∨ k = 4 ∨ k = 5 ∨ k = 6 ∨ (k ≠ 0 ∧ k ≠ 1 ∧ k ≠ 3 ∧ k ≠ 4 ∧ k ≠ 5 ∧ k ≠ 6) := by omega
  rcases h with rfl | rfl | rfl | rfl | rfl | rfl | ⟨a0, a1, a3, a4, a5, a6⟩
  · rw [upd_ne (by omega), upd_ne (by omega), upd_ne (by omega), upd_ne (by omega)]; exact upd_same
  · rw [upd_same]; rfl
  · rw [upd_ne (by omega), upd_ne (by omega), upd_ne (by omega), upd_ne (by omega), upd_ne (by omega), upd_same]; rfl
  · rw [upd_ne (by omega), upd_ne (by omega), upd_ne (by omega)]; exact upd_same
  · rw [upd_ne (by omega), upd_ne (by omega)]; exact upd_same
  · rw [upd_ne (by omega)]; exact upd_same
  · rw [upd_ne (by omega), upd_ne (by omega), upd_ne (by omega), upd_ne (by omega), upd_ne (by omega), upd_ne (by omega), mClr_at, if_pos (by omega)]
    unfold b0
    rw [if_neg a0, if_neg a1, if_neg a3, if_neg a4, if_neg a5]
theorem mBeg_out (st : Nat → Int32) (c s w : Nat) {k : Nat} (h : ¬ (35 + 28 * c ≤ k ∧ k < 63 + 28 * c)) (h34 : k ≠ 34) : mBeg st c s w k = st k := by
  unfold mBeg mPut
  rw [upd_ne h34, upd_ne (by omega), upd_ne (by omega), upd_ne (by omega), upd_ne (by omega), upd_ne (by omega), upd_ne (by omega), mClr_at, if_neg (by omega)]
theorem mBeg_34 (st : Nat → Int32) (c s w : Nat) : mBeg st c s w 34 = nI (c + 1) := upd_same
theorem mBeg_ok {st : Nat → Int32} {c s w : Nat} (hE : eOK st) (hb : ∀ a, a < c → bOK (bk st a)) (h12 : c < 12) (hs : s < 8) (hw : w < 16) : mOK (mBeg st c s w) := by
  refine ⟨eOK_of (fun k hk => mBeg_out st c s w (by omega) (by omega)) hE, c + 1, mBeg_34 st c s w, by omega, fun a ha => ?_⟩
  by_cases h : a = c
  · subst h
    exact bOK_congr (mBeg_bk st a s w) (b0_ok hs hw)
  · exact bOK_congr (fun i hi => mBeg_out st c s w (by omega) (by omega)) (hb a (by omega))
/-- in how many features the last word of a new album will differ from its first -/
def mDif (st : Nat → Int32) (s w : Nat) : Int32 := mBits (st (bLw (bEnd st 9 (b0 s w))).toNatClampNeg ^^^ st w) 12
theorem bLw_ok {b : Nat → Int32} (hb : bOK b) : ∃ x, bLw b = nI x ∧ x < 16 := by
  obtain ⟨n, h1, h2, h3, ho, hh, hsq, hd, hw, -⟩ := hb
  obtain ⟨x, e1, e2, e3⟩ := hw ((n - 1) / 2 * 2) (by omega)
  refine ⟨x, ?_, e3 (by omega)⟩
  unfold bLw
  rw [bOK_N h1 h3]
  exact e1
section MB2
variable {d : Nat} {σ : aS} {Q : aQ} {m a c : Nat} {st kp hi sl sv pd : Nat → Int32} {fs : List Value}
end MB2
