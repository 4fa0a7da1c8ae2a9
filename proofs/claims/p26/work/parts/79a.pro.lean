/-! an album: each round brings it on (from whole, part 25) -/
theorem bStep_pro {st b : Nat → Int32} (hb : bOK b) (h2 : b 2 = nI 0) : ¬ bStep st b 2 = nI 0 ∨ bN (bStep st b) = bN b + 1 := by
  have hb2 := hb
  obtain ⟨n, h1, -, h3, -⟩ := hb2
  have eN := bOK_N h1 h3
  unfold bStep
  rw [if_pos h2]
  rcases bNx_cases (st := st) hb with hx | ⟨q, hq, hx, hbt, h7, hno⟩
  · left
    rw [if_pos hx, upd_same]
    by_cases hm : mTk st (b 0) = true
    · rw [if_pos hm]; decide
    · rw [if_neg hm]; decide
  · right
    rw [if_neg (by rw [hx, nI_neg6 (by omega)]; exact id)]
    unfold bGo bN
    rw [upd_ne (by omega), upd_same]
    exact nIc (by have : bN b = n := eN; unfold bN at this; omega)
