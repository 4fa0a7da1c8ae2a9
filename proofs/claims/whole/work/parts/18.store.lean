/-! THE REFERENCE: all its cells; copies, the history -/
def mF (m : Nat) (rc pl at' le fi se : Int32) : List Value := [.ref (m + 2), .ref (m + 3), .int rc, .ref (m + 4), .ref (m + 5), .ref (m + 6), .int pl, .int at', .int le, .int fi, .int se]
def mU (σ : aS) (m : Nat) (fs : List Value) (kp hi sl sv pd : Nat → Int32) : aS := aput (aput (aput (aput (aput (aput σ m (eO 7 (.ref (m + 1) :: fs))) (m + 2) (eI 371 kp)) (m + 3) (eI 2226 hi)) (m + 4) (eI 742 sl)) (m + 5) (eI 2 sv)) (m + 6) (eI 80 pd)
/-- the reference's cells: st the state, kp kept, hi the history, sl the slots, sv what is saved, pd the pad -/
abbrev mT (σ : aS) (m : Nat) (fs : List Value) (kp hi sl sv pd st : Nat → Int32) : aS := mS (mU σ m fs kp hi sl sv pd) m st
section MT
variable {σ : aS} {m : Nat} {fs fs' : List Value} {kp hi sl sv pd st x : Nat → Int32}
theorem mU_0 : (mU σ m fs kp hi sl sv pd).1 m = some (eO 7 (.ref (m + 1) :: fs)) := by unfold mU; simp (disch := omega) only [aput_ne, aput_same]
theorem mT_0 : (mT σ m fs kp hi sl sv pd st).1 m = some (eO 7 (.ref (m + 1) :: fs)) := mS_0 mU_0
theorem mT_1 : (mT σ m fs kp hi sl sv pd st).1 (m + 1) = some (eI 371 st) := mS_1 _ _ _
theorem mT_2 : (mT σ m fs kp hi sl sv pd st).1 (m + 2) = some (eI 371 kp) := by unfold mT mS mU; simp (disch := omega) only [aput_ne, aput_same]
theorem mT_3 : (mT σ m fs kp hi sl sv pd st).1 (m + 3) = some (eI 2226 hi) := by unfold mT mS mU; simp (disch := omega) only [aput_ne, aput_same]
theorem mT_4 : (mT σ m fs kp hi sl sv pd st).1 (m + 4) = some (eI 742 sl) := by unfold mT mS mU; simp (disch := omega) only [aput_ne, aput_same]
theorem mT_5 : (mT σ m fs kp hi sl sv pd st).1 (m + 5) = some (eI 2 sv) := by unfold mT mS mU; simp (disch := omega) only [aput_ne, aput_same]
theorem mT_6 : (mT σ m fs kp hi sl sv pd st).1 (m + 6) = some (eI 80 pd) := by unfold mT mS mU; simp (disch := omega) only [aput_ne, aput_same]
theorem mT_w1 : aput (mT σ m fs kp hi sl sv pd st) (m + 1) (eI 371 x) = mT σ m fs kp hi sl sv pd x := mS_put _ _ _ _
theorem mT_w0 : aput (mT σ m fs kp hi sl sv pd st) m (eO 7 (.ref (m + 1) :: fs')) = mT σ m fs' kp hi sl sv pd st := by
  unfold mT mS mU
  rw [aput_comm _ (show m + 1 ≠ m by omega), aput_comm _ (show m + 6 ≠ m by omega), aput_comm _ (show m + 5 ≠ m by omega), aput_comm _ (show m + 4 ≠ m by omega), aput_comm _ (show m + 3 ≠ m by omega), aput_comm _ (show m + 2 ≠ m by omega), aput_twice]
theorem mT_w2 : aput (mT σ m fs kp hi sl sv pd st) (m + 2) (eI 371 x) = mT σ m fs x hi sl sv pd st := by
  unfold mT mS mU
  rw [aput_comm _ (show m + 1 ≠ m + 2 by omega), aput_comm _ (show m + 6 ≠ m + 2 by omega), aput_comm _ (show m + 5 ≠ m + 2 by omega), aput_comm _ (show m + 4 ≠ m + 2 by omega), aput_comm _ (show m + 3 ≠ m + 2 by omega), aput_twice]
theorem mT_w3 : aput (mT σ m fs kp hi sl sv pd st) (m + 3) (eI 2226 x) = mT σ m fs kp x sl sv pd st := by
  unfold mT mS mU
  rw [aput_comm _ (show m + 1 ≠ m + 3 by omega), aput_comm _ (show m + 6 ≠ m + 3 by omega), aput_comm _ (show m + 5 ≠ m + 3 by omega), aput_comm _ (show m + 4 ≠ m + 3 by omega), aput_twice]
theorem mT_w4 : aput (mT σ m fs kp hi sl sv pd st) (m + 4) (eI 742 x) = mT σ m fs kp hi x sv pd st := by
  unfold mT mS mU
  rw [aput_comm _ (show m + 1 ≠ m + 4 by omega), aput_comm _ (show m + 6 ≠ m + 4 by omega), aput_comm _ (show m + 5 ≠ m + 4 by omega), aput_twice]
theorem mT_w5 : aput (mT σ m fs kp hi sl sv pd st) (m + 5) (eI 2 x) = mT σ m fs kp hi sl x pd st := by
  unfold mT mS mU
  rw [aput_comm _ (show m + 1 ≠ m + 5 by omega), aput_comm _ (show m + 6 ≠ m + 5 by omega), aput_twice]
theorem mT_w6 : aput (mT σ m fs kp hi sl sv pd st) (m + 6) (eI 80 x) = mT σ m fs kp hi sl sv x st := by
  unfold mT mS mU
  rw [aput_comm _ (show m + 1 ≠ m + 6 by omega), aput_twice]
theorem mT_ne {q : Nat} (h : q < m ∨ m + 6 < q) : (mT σ m fs kp hi sl sv pd st).1 q = σ.1 q := by unfold mT mS mU; simp (disch := omega) only [aput_ne]
theorem mT_hi : (mT σ m fs kp hi sl sv pd st).2 = σ.2 := rfl
end MT
/-- 371 numbers of a row, at a place of another -/
def mMv (f : Nat → Int32) (p : Nat) (g : Nat → Int32) (t : Nat) : Nat → Nat → Int32
  | 0 => g
  | k + 1 => upd (mMv f p g t k) (t + k) (f (p + k))
theorem mMv_at (f : Nat → Int32) (p : Nat) (g : Nat → Int32) (t : Nat) : ∀ k j, mMv f p g t k j = if t ≤ j ∧ j < t + k then f (p + (j - t)) else g j
  | 0, j => by rw [mMv, if_neg (by omega)]
  | k + 1, j => by
    rw [mMv]
    by_cases h : j = t + k
    · subst h
      rw [upd_same, if_pos (by omega), show p + (t + k - t) = p + k by omega]
    · rw [upd_ne h, mMv_at f p g t k j]
      by_cases h2 : t ≤ j ∧ j < t + k
      · rw [if_pos h2, if_pos (by omega)]
      · rw [if_neg h2, if_neg (by omega)]
section MV
variable {d : Nat} {σ : aS} {Q : aQ}
theorem mm_moves_loop {a0 a n0 n1 p t : Nat} {f g : Nat → Int32} (h0 : σ.1 a0 = some (eI n0 f)) (hne : a0 ≠ a) (h1 : p + 371 ≤ n0) (h2 : t + 371 ≤ n1) (hb : n0 < 100000 ∧ n1 < 100000) : ∀ (k i : Nat) (Q : aQ), i + k = 371 → (aX d iX7_moves 3 [some (.ref a0), some (.int (nI p)), some (.ref a), some (.int (nI t)), some (.int (nI i))] [] (aput σ a (eI n1 (mMv f p g t i))) Q ↔ Q none (aput σ a (eI n1 (mMv f p g t 371))))
  | 0, i, Q, h => by
    have e : i = 371 := by omega
    subst e
    rw [sX7_moves_3]
    simp (disch := omega) only [sX7_moves_0, sX7_moves_1, sX7_moves_5, sX7_moves_8, sX7_moves_11, sX7_moves_11n, sX7_moves_12, sX7_moves_13, sX7_moves_15, sX7_moves_16, sX7_moves_17, sX7_moves_18, sX7_moves_20, sX7_moves_21, sX7_moves_22, sX7_moves_23, sX7_moves_26, sX7_moves_29, aFld, aFds, aRow, aRowR, aRefs, aLn, if_true, List.getElem?_cons_zero, List.getElem?_cons_succ, List.set_cons_zero, List.set_cons_succ, List.length_cons, List.length_nil, Option.some.injEq, exists_eq_left', aput_same, aclr_none, aclr_int, aclr_ref, aclr_null, aret_some, aret_none, bz, bz0, bz1, true_and, and_true, vpT, nIc, nI_add, pk_mul, nI_sub', Nat.add_zero, Nat.zero_add, upd_same, upd_ne, if_false, not_true_eq_false, not_false_eq_true, ite_z, ite_o, eq_self, Bool.false_eq_true, nI_leT, nI_leF, nI_ltT, nI_ltF, nI_ne, and_self, false_and, and_false]
  | k + 1, i, Q, h => by
    rw [sX7_moves_3]
    have ih := mm_moves_loop (g := g) h0 hne h1 h2 hb k (i + 1) Q (by omega)
    simp (disch := omega) only [sX7_moves_0, sX7_moves_1, sX7_moves_5, sX7_moves_8, sX7_moves_11, sX7_moves_11n, sX7_moves_12, sX7_moves_13, sX7_moves_15, sX7_moves_16, sX7_moves_17, sX7_moves_18, sX7_moves_20, sX7_moves_21, sX7_moves_22, sX7_moves_23, sX7_moves_26, sX7_moves_29, aput_ne, h0, aput_twice, aFld, aFds, aRow, aRowR, aRefs, aLn, if_true, List.getElem?_cons_zero, List.getElem?_cons_succ, List.set_cons_zero, List.set_cons_succ, List.length_cons, List.length_nil, Option.some.injEq, exists_eq_left', aput_same, aclr_none, aclr_int, aclr_ref, aclr_null, aret_some, aret_none, bz, bz0, bz1, true_and, and_true, vpT, nIc, nI_add, pk_mul, nI_sub', Nat.add_zero, Nat.zero_add, upd_same, upd_ne, if_false, not_true_eq_false, not_false_eq_true, ite_z, ite_o, eq_self, Bool.false_eq_true, nI_leT, nI_leF, nI_ltT, nI_ltF, nI_ne, and_self, false_and, and_false]
    exact ih
theorem mm_moves {a0 a n0 n1 p t : Nat} {f g : Nat → Int32} (h0 : σ.1 a0 = some (eI n0 f)) (ha : σ.1 a = some (eI n1 g)) (hne : a0 ≠ a) (h1 : p + 371 ≤ n0) (h2 : t + 371 ≤ n1) (hb : n0 < 100000 ∧ n1 < 100000) : aX d iX7_moves 0 [some (.ref a0), some (.int (nI p)), some (.ref a), some (.int (nI t)), none] [] σ Q ↔ Q none (aput σ a (eI n1 (mMv f p g t 371))) := by
  have e : aput σ a (eI n1 (mMv f p g t 0)) = σ := aput_self ha
  have := mm_moves_loop (σ := σ) (d := d) (g := g) h0 hne h1 h2 hb 371 0 Q rfl
  rw [e] at this
  simp only [sX7_moves_0, sX7_moves_1, aFld, aFds, aRow, aRowR, aRefs, aLn, if_true, List.getElem?_cons_zero, List.getElem?_cons_succ, List.set_cons_zero, List.set_cons_succ, List.length_cons, List.length_nil, Option.some.injEq, exists_eq_left', aput_same, aclr_none, aclr_int, aclr_ref, aclr_null, aret_some, aret_none, bz, bz0, bz1, true_and, and_true, vpT, nIc, nI_add, pk_mul, nI_sub', Nat.add_zero, Nat.zero_add, upd_same, upd_ne, if_false, not_true_eq_false, not_false_eq_true, ite_z, ite_o, eq_self, Bool.false_eq_true, nI_leT, nI_leF, nI_ltT, nI_ltF, nI_ne, and_self, false_and, and_false]
  exact this
end MV
