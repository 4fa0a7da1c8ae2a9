/-! THE REFERENCE: what is asked of an album, a seat -/
theorem isA_T {a c : Nat} (h : a < c) (hc : c ≤ 12) : (nI 0 ≤ nI a ∧ nI a ≤ nI c - nI 1) = True := by
  rw [nI_sub' (show 1 ≤ c by omega), nI_leT (by omega) (by omega), nI_leT (by omega) (by omega), and_self]
theorem isA_split (c : Nat) (hc : c ≤ 12) (x : Int32) : (∃ a, a < c ∧ x = nI a) ∨ (nI 0 ≤ x ∧ x ≤ nI c - nI 1) = False := by
  by_cases h : nI 0 ≤ x
  · rw [nI_0] at h
    obtain ⟨j, hj, rfl⟩ := nI_of (Int32.not_lt.mpr h)
    by_cases h2 : j < c
    · exact Or.inl ⟨j, h2, rfl⟩
    · right
      apply eq_false
      rintro ⟨-, h3⟩
      by_cases hc0 : c = 0
      · subst hc0
        rw [Int32.le_iff_toInt_le, nI_toInt (by omega), show (nI 0 - nI 1).toInt = -1 by decide] at h3
        omega
      · rw [nI_sub' (show 1 ≤ c by omega), nI_leL (by omega) (by omega)] at h3
        omega
  · exact Or.inr (eq_false (fun z => h z.1))
theorem inR_split (lo hi : Nat) (x : Int32) (h : hi < 2147483648) (hlo : lo = 0) : (∃ j, j ≤ hi ∧ x = nI j) ∨ inR x lo hi = False := by
  subst hlo
  by_cases h0 : nI 0 ≤ x
  · rw [nI_0] at h0
    obtain ⟨j, hj, rfl⟩ := nI_of (Int32.not_lt.mpr h0)
    by_cases h2 : j ≤ hi
    · exact Or.inl ⟨j, h2, rfl⟩
    · exact Or.inr (eq_false (fun z => by have := z.2; rw [nI_leL (by omega) (by omega)] at this; omega))
  · exact Or.inr (eq_false (fun z => h0 z.1))
theorem inR_T {hi j : Nat} (h : j ≤ hi) (h2 : hi < 2147483648) : inR (nI j) 0 hi = True := by
  show (nI 0 ≤ nI j ∧ nI j ≤ nI hi) = True
  rw [nI_leT (by omega) (by omega), nI_leT h h2, and_self]
/-- how often a word in an album is another one than the word before -/
def mChg (st : Nat → Int32) (a : Nat) : Nat → Nat
  | 0 => 0
  | j + 1 => mChg st a j + (if st (35 + 28 * a + (4 + 3 * (2 * j + 2) + 1)) = st (35 + 28 * a + (4 + 3 * (2 * j) + 1)) then 0 else 1)
def mPb (st : Nat → Int32) (s : Nat) : Nat → Int32
  | 0 => nI 0
  | a + 1 => mPb st s a + (mSeats st a (bN (bk st a)) >>> (nI s &&& 31) &&& nI 1)
def mSum (st : Nat → Int32) : Nat → Int32
  | 0 => nI 0
  | s + 1 => mSum st s + st (25 + s)
section MQ
variable {d : Nat} {σ : aS} {Q : aQ} {m a : Nat} {st : Nat → Int32} {fs : List Value}
theorem mp_isAlbT {c : Nat} (h0 : σ.1 m = some (eO 7 (.ref (m + 1) :: fs))) (hc : st 34 = nI c) (h12 : c ≤ 12) (ha : a < c) : aX (d + 1) iX7_isAlbum 0 [some (.ref m), some (.int (nI a))] [] (mS σ m st) Q ↔ Q (some (.int (nI 1))) (mS σ m st) := by
  rw [mm_isAlbum (c := c) (mS_0 h0) (mS_1 _ _ _), hc]
  simp only [isA_T ha h12, if_true]
theorem mp_isAlbF {c : Nat} {x : Int32} (h0 : σ.1 m = some (eO 7 (.ref (m + 1) :: fs))) (hc : st 34 = nI c) (hx : (nI 0 ≤ x ∧ x ≤ nI c - nI 1) = False) : aX (d + 1) iX7_isAlbum 0 [some (.ref m), some (.int x)] [] (mS σ m st) Q ↔ Q (some (.int (nI 0))) (mS σ m st) := by
  rw [mm_isAlbum (c := c) (mS_0 h0) (mS_1 _ _ _), hc]
  simp only [hx, if_false]
theorem mp_whyTellF {c : Nat} {x p : Int32} (h0 : σ.1 m = some (eO 7 (.ref (m + 1) :: fs))) (hc : st 34 = nI c) (hx : (nI 0 ≤ x ∧ x ≤ nI c - nI 1) = False) : aX (d + 2) iX7_whyNotTold 0 [some (.ref m), some (.int x), some (.int p), none] [] (mS σ m st) Q ↔ Q (some (.int (-1))) (mS σ m st) := by
  simp (disch := omega) only [sX7_whyNotTold_0, sX7_whyNotTold_1, sX7_whyNotTold_2, sX7_whyNotTold_5, sX7_whyNotTold_8, sX7_whyNotTold_9, sX7_whyNotTold_10, sX7_whyNotTold_11, sX7_whyNotTold_12, sX7_whyNotTold_13, sX7_whyNotTold_16, sX7_whyNotTold_17, sX7_whyNotTold_18, sX7_whyNotTold_21, sX7_whyNotTold_22, sX7_whyNotTold_25, sX7_whyNotTold_26, sX7_whyNotTold_27, sX7_whyNotTold_28, sX7_whyNotTold_29, sX7_whyNotTold_30, sX7_whyNotTold_33, sX7_whyNotTold_35, sX7_whyNotTold_38, sX7_whyNotTold_41, sX7_whyNotTold_44, sX7_whyNotTold_47, sX7_whyNotTold_49, sX7_whyNotTold_52, sX7_whyNotTold_53, sX7_whyNotTold_54, sX7_whyNotTold_57, sX7_whyNotTold_60, sX7_whyNotTold_61, sX7_whyNotTold_64, sX7_whyNotTold_66, mp_isAlbF h0 hc hx, aIsT (mS_0 h0), aFld, aFds, aRow, aRowR, aRefs, aLn, if_true, List.getElem?_cons_zero, List.getElem?_cons_succ, List.set_cons_zero, List.set_cons_succ, List.length_cons, List.length_nil, Option.some.injEq, exists_eq_left', aput_same, aclr_none, aclr_int, aclr_ref, aclr_null, aret_some, aret_none, bz, bz0, bz1, true_and, and_true, vpT, nIc, nI_add, pk_mul, nI_sub', Nat.add_zero, Nat.zero_add, upd_same, upd_ne, if_false, not_true_eq_false, not_false_eq_true, ite_z, ite_o, eq_self, Bool.false_eq_true, nI_leT, nI_leF, nI_ltT, nI_ltF, nI_ne, and_self, false_and, and_false]
theorem mp_whyTellT {c n : Nat} {p : Int32} (h0 : σ.1 m = some (eO 7 (.ref (m + 1) :: fs))) (hc : st 34 = nI c) (h12 : c ≤ 12) (ha : a < c) (hn : st (35 + 28 * a + 1) = nI n) (h8 : n ≤ 8) : aX (d + 2) iX7_whyNotTold 0 [some (.ref m), some (.int (nI a)), some (.int p), none] [] (mS σ m st) Q ↔ Q (some (.int (mWTell st a n p))) (mS σ m st) := by
  rcases Nat.mod_two_eq_zero_or_one n with e | e
  · by_cases h1 : inR p 0 15
    · by_cases h2 : st (35 + 28 * a + 2) = nI 0 <;> simp (disch := omega) only [sX7_whyNotTold_0, sX7_whyNotTold_1, sX7_whyNotTold_2, sX7_whyNotTold_5, sX7_whyNotTold_8, sX7_whyNotTold_9, sX7_whyNotTold_10, sX7_whyNotTold_11, sX7_whyNotTold_12, sX7_whyNotTold_13, sX7_whyNotTold_16, sX7_whyNotTold_17, sX7_whyNotTold_18, sX7_whyNotTold_21, sX7_whyNotTold_22, sX7_whyNotTold_25, sX7_whyNotTold_26, sX7_whyNotTold_27, sX7_whyNotTold_28, sX7_whyNotTold_29, sX7_whyNotTold_30, sX7_whyNotTold_33, sX7_whyNotTold_35, sX7_whyNotTold_38, sX7_whyNotTold_41, sX7_whyNotTold_44, sX7_whyNotTold_47, sX7_whyNotTold_49, sX7_whyNotTold_52, sX7_whyNotTold_53, sX7_whyNotTold_54, sX7_whyNotTold_57, sX7_whyNotTold_60, sX7_whyNotTold_61, sX7_whyNotTold_64, sX7_whyNotTold_66, mp_isAlbT h0 hc h12 ha, mp_part h0, mp_goesRound h0, mm_within, aIsT (mS_0 h0), hn, nI_rem, e, aFld, aFds, aRow, aRowR, aRefs, aLn, if_true, List.getElem?_cons_zero, List.getElem?_cons_succ, List.set_cons_zero, List.set_cons_succ, List.length_cons, List.length_nil, Option.some.injEq, exists_eq_left', aput_same, aclr_none, aclr_int, aclr_ref, aclr_null, aret_some, aret_none, bz, bz0, bz1, true_and, and_true, vpT, nIc, nI_add, pk_mul, nI_sub', Nat.add_zero, Nat.zero_add, upd_same, upd_ne, if_false, not_true_eq_false, not_false_eq_true, ite_z, ite_o, eq_self, Bool.false_eq_true, nI_leT, nI_leF, nI_ltT, nI_ltF, nI_ne, and_self, false_and, and_false, inR, mWTell, h1, h2]
    · simp (disch := omega) only [sX7_whyNotTold_0, sX7_whyNotTold_1, sX7_whyNotTold_2, sX7_whyNotTold_5, sX7_whyNotTold_8, sX7_whyNotTold_9, sX7_whyNotTold_10, sX7_whyNotTold_11, sX7_whyNotTold_12, sX7_whyNotTold_13, sX7_whyNotTold_16, sX7_whyNotTold_17, sX7_whyNotTold_18, sX7_whyNotTold_21, sX7_whyNotTold_22, sX7_whyNotTold_25, sX7_whyNotTold_26, sX7_whyNotTold_27, sX7_whyNotTold_28, sX7_whyNotTold_29, sX7_whyNotTold_30, sX7_whyNotTold_33, sX7_whyNotTold_35, sX7_whyNotTold_38, sX7_whyNotTold_41, sX7_whyNotTold_44, sX7_whyNotTold_47, sX7_whyNotTold_49, sX7_whyNotTold_52, sX7_whyNotTold_53, sX7_whyNotTold_54, sX7_whyNotTold_57, sX7_whyNotTold_60, sX7_whyNotTold_61, sX7_whyNotTold_64, sX7_whyNotTold_66, mp_isAlbT h0 hc h12 ha, mp_part h0, mp_goesRound h0, mm_within, aIsT (mS_0 h0), hn, nI_rem, e, aFld, aFds, aRow, aRowR, aRefs, aLn, if_true, List.getElem?_cons_zero, List.getElem?_cons_succ, List.set_cons_zero, List.set_cons_succ, List.length_cons, List.length_nil, Option.some.injEq, exists_eq_left', aput_same, aclr_none, aclr_int, aclr_ref, aclr_null, aret_some, aret_none, bz, bz0, bz1, true_and, and_true, vpT, nIc, nI_add, pk_mul, nI_sub', Nat.add_zero, Nat.zero_add, upd_same, upd_ne, if_false, not_true_eq_false, not_false_eq_true, ite_z, ite_o, eq_self, Bool.false_eq_true, nI_leT, nI_leF, nI_ltT, nI_ltF, nI_ne, and_self, false_and, and_false, inR, mWTell, h1]
  · by_cases h1 : inR p 0 4095
    · by_cases h2 : st (35 + 28 * a + 2) = nI 0 <;> simp (disch := omega) only [sX7_whyNotTold_0, sX7_whyNotTold_1, sX7_whyNotTold_2, sX7_whyNotTold_5, sX7_whyNotTold_8, sX7_whyNotTold_9, sX7_whyNotTold_10, sX7_whyNotTold_11, sX7_whyNotTold_12, sX7_whyNotTold_13, sX7_whyNotTold_16, sX7_whyNotTold_17, sX7_whyNotTold_18, sX7_whyNotTold_21, sX7_whyNotTold_22, sX7_whyNotTold_25, sX7_whyNotTold_26, sX7_whyNotTold_27, sX7_whyNotTold_28, sX7_whyNotTold_29, sX7_whyNotTold_30, sX7_whyNotTold_33, sX7_whyNotTold_35, sX7_whyNotTold_38, sX7_whyNotTold_41, sX7_whyNotTold_44, sX7_whyNotTold_47, sX7_whyNotTold_49, sX7_whyNotTold_52, sX7_whyNotTold_53, sX7_whyNotTold_54, sX7_whyNotTold_57, sX7_whyNotTold_60, sX7_whyNotTold_61, sX7_whyNotTold_64, sX7_whyNotTold_66, mp_isAlbT h0 hc h12 ha, mp_part h0, mp_goesRound h0, mm_within, aIsT (mS_0 h0), hn, nI_rem, e, aFld, aFds, aRow, aRowR, aRefs, aLn, if_true, List.getElem?_cons_zero, List.getElem?_cons_succ, List.set_cons_zero, List.set_cons_succ, List.length_cons, List.length_nil, Option.some.injEq, exists_eq_left', aput_same, aclr_none, aclr_int, aclr_ref, aclr_null, aret_some, aret_none, bz, bz0, bz1, true_and, and_true, vpT, nIc, nI_add, pk_mul, nI_sub', Nat.add_zero, Nat.zero_add, upd_same, upd_ne, if_false, not_true_eq_false, not_false_eq_true, ite_z, ite_o, eq_self, Bool.false_eq_true, nI_leT, nI_leF, nI_ltT, nI_ltF, nI_ne, and_self, false_and, and_false, n10, inR, mWTell, h1, h2]
    · simp (disch := omega) only [sX7_whyNotTold_0, sX7_whyNotTold_1, sX7_whyNotTold_2, sX7_whyNotTold_5, sX7_whyNotTold_8, sX7_whyNotTold_9, sX7_whyNotTold_10, sX7_whyNotTold_11, sX7_whyNotTold_12, sX7_whyNotTold_13, sX7_whyNotTold_16, sX7_whyNotTold_17, sX7_whyNotTold_18, sX7_whyNotTold_21, sX7_whyNotTold_22, sX7_whyNotTold_25, sX7_whyNotTold_26, sX7_whyNotTold_27, sX7_whyNotTold_28, sX7_whyNotTold_29, sX7_whyNotTold_30, sX7_whyNotTold_33, sX7_whyNotTold_35, sX7_whyNotTold_38, sX7_whyNotTold_41, sX7_whyNotTold_44, sX7_whyNotTold_47, sX7_whyNotTold_49, sX7_whyNotTold_52, sX7_whyNotTold_53, sX7_whyNotTold_54, sX7_whyNotTold_57, sX7_whyNotTold_60, sX7_whyNotTold_61, sX7_whyNotTold_64, sX7_whyNotTold_66, mp_isAlbT h0 hc h12 ha, mp_part h0, mp_goesRound h0, mm_within, aIsT (mS_0 h0), hn, nI_rem, e, aFld, aFds, aRow, aRowR, aRefs, aLn, if_true, List.getElem?_cons_zero, List.getElem?_cons_succ, List.set_cons_zero, List.set_cons_succ, List.length_cons, List.length_nil, Option.some.injEq, exists_eq_left', aput_same, aclr_none, aclr_int, aclr_ref, aclr_null, aret_some, aret_none, bz, bz0, bz1, true_and, and_true, vpT, nIc, nI_add, pk_mul, nI_sub', Nat.add_zero, Nat.zero_add, upd_same, upd_ne, if_false, not_true_eq_false, not_false_eq_true, ite_z, ite_o, eq_self, Bool.false_eq_true, nI_leT, nI_leF, nI_ltT, nI_ltF, nI_ne, and_self, false_and, and_false, n10, inR, mWTell, h1]
theorem mp_changed_loop {n : Nat} (h0 : σ.1 m = some (eO 7 (.ref (m + 1) :: fs))) (ha : a < 12) (hn : st (35 + 28 * a + 1) = nI n) (h1 : 1 ≤ n) (h8 : n ≤ 8) : ∀ (k i : Nat) (Q : aQ), i + k = (n - 1) / 2 → (aX (d + 2) iX7_changed 4 [some (.ref m), some (.int (nI a)), some (.int (nI (mChg st a i))), some (.int (nI (2 * i + 2)))] [] (mS σ m st) Q ↔ Q (some (.int (nI (mChg st a ((n - 1) / 2))))) (mS σ m st))
  | 0, i, Q, h => by
    have e : i = (n - 1) / 2 := by omega
    subst e
    rw [sX7_changed_4]
    simp (disch := omega) only [sX7_changed_0, sX7_changed_1, sX7_changed_2, sX7_changed_3, sX7_changed_5, sX7_changed_6, sX7_changed_7, sX7_changed_8, sX7_changed_11, sX7_changed_14, sX7_changed_15, sX7_changed_16, sX7_changed_17, sX7_changed_18, sX7_changed_19, sX7_changed_22, sX7_changed_23, sX7_changed_24, sX7_changed_25, sX7_changed_26, sX7_changed_27, sX7_changed_28, sX7_changed_31, sX7_changed_34, sX7_changed_35, sX7_changed_38, sX7_changed_39, sX7_changed_40, sX7_changed_41, sX7_changed_44, sX7_changed_47, sX7_changed_48, mp_part h0, aIsT (mS_0 h0), hn, aFld, aFds, aRow, aRowR, aRefs, aLn, if_true, List.getElem?_cons_zero, List.getElem?_cons_succ, List.set_cons_zero, List.set_cons_succ, List.length_cons, List.length_nil, Option.some.injEq, exists_eq_left', aput_same, aclr_none, aclr_int, aclr_ref, aclr_null, aret_some, aret_none, bz, bz0, bz1, true_and, and_true, vpT, nIc, nI_add, pk_mul, nI_sub', Nat.add_zero, Nat.zero_add, upd_same, upd_ne, if_false, not_true_eq_false, not_false_eq_true, ite_z, ite_o, eq_self, Bool.false_eq_true, nI_leT, nI_leF, nI_ltT, nI_ltF, nI_ne, and_self, false_and, and_false]
  | k + 1, i, Q, h => by
    have ih := mp_changed_loop h0 ha hn h1 h8 k (i + 1) Q (by omega)
    rw [mChg, show 2 * (i + 1) + 2 = 2 * i + 2 + 2 by omega] at ih
    rw [sX7_changed_4]
    have e2 : 2 * i + 2 - 2 = 2 * i := by omega
    by_cases g : st (35 + 28 * a + (4 + 3 * (2 * i + 2) + 1)) = st (35 + 28 * a + (4 + 3 * (2 * i) + 1))
    · rw [if_pos g] at ih
      simp (disch := omega) only [sX7_changed_0, sX7_changed_1, sX7_changed_2, sX7_changed_3, sX7_changed_5, sX7_changed_6, sX7_changed_7, sX7_changed_8, sX7_changed_11, sX7_changed_14, sX7_changed_15, sX7_changed_16, sX7_changed_17, sX7_changed_18, sX7_changed_19, sX7_changed_22, sX7_changed_23, sX7_changed_24, sX7_changed_25, sX7_changed_26, sX7_changed_27, sX7_changed_28, sX7_changed_31, sX7_changed_34, sX7_changed_35, sX7_changed_38, sX7_changed_39, sX7_changed_40, sX7_changed_41, sX7_changed_44, sX7_changed_47, sX7_changed_48, mp_part h0, mp_pagePart h0, aIsT (mS_0 h0), hn, aFld, aFds, aRow, aRowR, aRefs, aLn, if_true, List.getElem?_cons_zero, List.getElem?_cons_succ, List.set_cons_zero, List.set_cons_succ, List.length_cons, List.length_nil, Option.some.injEq, exists_eq_left', aput_same, aclr_none, aclr_int, aclr_ref, aclr_null, aret_some, aret_none, bz, bz0, bz1, true_and, and_true, vpT, nIc, nI_add, pk_mul, nI_sub', Nat.add_zero, Nat.zero_add, upd_same, upd_ne, if_false, not_true_eq_false, not_false_eq_true, ite_z, ite_o, eq_self, Bool.false_eq_true, nI_leT, nI_leF, nI_ltT, nI_ltF, nI_ne, and_self, false_and, and_false, e2, g]
      exact ih
    · rw [if_neg g] at ih
      simp (disch := omega) only [sX7_changed_0, sX7_changed_1, sX7_changed_2, sX7_changed_3, sX7_changed_5, sX7_changed_6, sX7_changed_7, sX7_changed_8, sX7_changed_11, sX7_changed_14, sX7_changed_15, sX7_changed_16, sX7_changed_17, sX7_changed_18, sX7_changed_19, sX7_changed_22, sX7_changed_23, sX7_changed_24, sX7_changed_25, sX7_changed_26, sX7_changed_27, sX7_changed_28, sX7_changed_31, sX7_changed_34, sX7_changed_35, sX7_changed_38, sX7_changed_39, sX7_changed_40, sX7_changed_41, sX7_changed_44, sX7_changed_47, sX7_changed_48, mp_part h0, mp_pagePart h0, aIsT (mS_0 h0), hn, aFld, aFds, aRow, aRowR, aRefs, aLn, if_true, List.getElem?_cons_zero, List.getElem?_cons_succ, List.set_cons_zero, List.set_cons_succ, List.length_cons, List.length_nil, Option.some.injEq, exists_eq_left', aput_same, aclr_none, aclr_int, aclr_ref, aclr_null, aret_some, aret_none, bz, bz0, bz1, true_and, and_true, vpT, nIc, nI_add, pk_mul, nI_sub', Nat.add_zero, Nat.zero_add, upd_same, upd_ne, if_false, not_true_eq_false, not_false_eq_true, ite_z, ite_o, eq_self, Bool.false_eq_true, nI_leT, nI_leF, nI_ltT, nI_ltF, nI_ne, and_self, false_and, and_false, e2, g]
      exact ih
theorem mp_changed {n : Nat} (h0 : σ.1 m = some (eO 7 (.ref (m + 1) :: fs))) (ha : a < 12) (hn : st (35 + 28 * a + 1) = nI n) (h1 : 1 ≤ n) (h8 : n ≤ 8) : aX (d + 2) iX7_changed 0 [some (.ref m), some (.int (nI a)), none, none] [] (mS σ m st) Q ↔ Q (some (.int (nI (mChg st a ((n - 1) / 2))))) (mS σ m st) := by
  simp only [sX7_changed_0, sX7_changed_1, sX7_changed_2, sX7_changed_3, aFld, aFds, aRow, aRowR, aRefs, aLn, if_true, List.getElem?_cons_zero, List.getElem?_cons_succ, List.set_cons_zero, List.set_cons_succ, List.length_cons, List.length_nil, Option.some.injEq, exists_eq_left', aput_same, aclr_none, aclr_int, aclr_ref, aclr_null, aret_some, aret_none, bz, bz0, bz1, true_and, and_true, vpT, nIc, nI_add, pk_mul, nI_sub']
  exact mp_changed_loop h0 ha hn h1 h8 ((n - 1) / 2) 0 Q (by omega)
theorem mp_apart {x y : Nat} (h0 : σ.1 m = some (eO 7 (.ref (m + 1) :: fs))) (hx : x < 16) (hy : y < 16) : aX (d + 1) iX7_apart 0 [some (.ref m), some (.int (nI x)), some (.int (nI y))] [] (mS σ m st) Q ↔ Q (some (.int (mBits (st x ^^^ st y) 12))) (mS σ m st) := by
  simp (disch := omega) only [sX7_apart_0, sX7_apart_1, sX7_apart_4, sX7_apart_5, sX7_apart_6, sX7_apart_7, sX7_apart_8, sX7_apart_9, sX7_apart_12, sX7_apart_13, sX7_apart_14, sX7_apart_15, sX7_apart_16, sX7_apart_17, sX7_apart_20, mS_0 h0, mS_1, mm_bits, aFld, aFds, aRow, aRowR, aRefs, aLn, if_true, List.getElem?_cons_zero, List.getElem?_cons_succ, List.set_cons_zero, List.set_cons_succ, List.length_cons, List.length_nil, Option.some.injEq, exists_eq_left', aput_same, aclr_none, aclr_int, aclr_ref, aclr_null, aret_some, aret_none, bz, bz0, bz1, true_and, and_true, vpT, nIc, nI_add, pk_mul, nI_sub', Nat.add_zero, Nat.zero_add, upd_same, upd_ne, if_false, not_true_eq_false, not_false_eq_true, ite_z, ite_o, eq_self, Bool.false_eq_true, nI_leT, nI_leF, nI_ltT, nI_ltF, nI_ne, and_self, false_and, and_false]
theorem mp_pagesBy_loop {c s : Nat} (h0 : σ.1 m = some (eO 7 (.ref (m + 1) :: fs))) (hok : mOK st) (hc : st 34 = nI c) (h12 : c ≤ 12) : ∀ (k i : Nat) (Q : aQ), i + k = c → (aX (d + 3) iX7_pagesBy 4 [some (.ref m), some (.int (nI s)), some (.int (mPb st s i)), some (.int (nI i))] [] (mS σ m st) Q ↔ Q (some (.int (mPb st s c))) (mS σ m st))
  | 0, i, Q, h => by
    have e : i = c := by omega
    subst e
    rw [sX7_pagesBy_4]
    simp (disch := omega) only [sX7_pagesBy_0, sX7_pagesBy_1, sX7_pagesBy_2, sX7_pagesBy_3, sX7_pagesBy_5, sX7_pagesBy_6, sX7_pagesBy_9, sX7_pagesBy_11, sX7_pagesBy_12, sX7_pagesBy_15, sX7_pagesBy_16, sX7_pagesBy_17, sX7_pagesBy_18, sX7_pagesBy_21, sX7_pagesBy_22, sX7_pagesBy_23, sX7_pagesBy_24, sX7_pagesBy_25, sX7_pagesBy_26, sX7_pagesBy_27, sX7_pagesBy_30, sX7_pagesBy_33, sX7_pagesBy_34, mS_0 h0, mS_1, hc, aFld, aFds, aRow, aRowR, aRefs, aLn, if_true, List.getElem?_cons_zero, List.getElem?_cons_succ, List.set_cons_zero, List.set_cons_succ, List.length_cons, List.length_nil, Option.some.injEq, exists_eq_left', aput_same, aclr_none, aclr_int, aclr_ref, aclr_null, aret_some, aret_none, bz, bz0, bz1, true_and, and_true, vpT, nIc, nI_add, pk_mul, nI_sub', Nat.add_zero, Nat.zero_add, upd_same, upd_ne, if_false, not_true_eq_false, not_false_eq_true, ite_z, ite_o, eq_self, Bool.false_eq_true, nI_leT, nI_leF, nI_ltT, nI_ltF, nI_ne, and_self, false_and, and_false]
  | k + 1, i, Q, h => by
    have ih := mp_pagesBy_loop (s := s) h0 hok hc h12 k (i + 1) Q (by omega)
    obtain ⟨he, c2, hc2, hc12, hball⟩ := hok
    have hc3 : c2 = c := nI_inj (by omega) (by omega) (hc2.symm.trans hc)
    subst hc3
    obtain ⟨n, h1, h2', h3, -⟩ := hball i (by omega)
    have eN := bOK_N h1 h3
    rw [mPb, eN] at ih
    rw [sX7_pagesBy_4]
    simp (disch := omega) only [sX7_pagesBy_0, sX7_pagesBy_1, sX7_pagesBy_2, sX7_pagesBy_3, sX7_pagesBy_5, sX7_pagesBy_6, sX7_pagesBy_9, sX7_pagesBy_11, sX7_pagesBy_12, sX7_pagesBy_15, sX7_pagesBy_16, sX7_pagesBy_17, sX7_pagesBy_18, sX7_pagesBy_21, sX7_pagesBy_22, sX7_pagesBy_23, sX7_pagesBy_24, sX7_pagesBy_25, sX7_pagesBy_26, sX7_pagesBy_27, sX7_pagesBy_30, sX7_pagesBy_33, sX7_pagesBy_34, mS_0 h0, mS_1, hc, mp_seatsOf h0 (show i < 12 by omega) h1 h3, aIsT (mS_0 h0), aFld, aFds, aRow, aRowR, aRefs, aLn, if_true, List.getElem?_cons_zero, List.getElem?_cons_succ, List.set_cons_zero, List.set_cons_succ, List.length_cons, List.length_nil, Option.some.injEq, exists_eq_left', aput_same, aclr_none, aclr_int, aclr_ref, aclr_null, aret_some, aret_none, bz, bz0, bz1, true_and, and_true, vpT, nIc, nI_add, pk_mul, nI_sub', Nat.add_zero, Nat.zero_add, upd_same, upd_ne, if_false, not_true_eq_false, not_false_eq_true, ite_z, ite_o, eq_self, Bool.false_eq_true, nI_leT, nI_leF, nI_ltT, nI_ltF, nI_ne, and_self, false_and, and_false]
    exact ih
theorem mp_pagesBy {c s : Nat} (h0 : σ.1 m = some (eO 7 (.ref (m + 1) :: fs))) (hok : mOK st) (hc : st 34 = nI c) (h12 : c ≤ 12) : aX (d + 3) iX7_pagesBy 0 [some (.ref m), some (.int (nI s)), none, none] [] (mS σ m st) Q ↔ Q (some (.int (mPb st s c))) (mS σ m st) := by
  simp only [sX7_pagesBy_0, sX7_pagesBy_1, sX7_pagesBy_2, sX7_pagesBy_3, aFld, aFds, aRow, aRowR, aRefs, aLn, if_true, List.getElem?_cons_zero, List.getElem?_cons_succ, List.set_cons_zero, List.set_cons_succ, List.length_cons, List.length_nil, Option.some.injEq, exists_eq_left', aput_same, aclr_none, aclr_int, aclr_ref, aclr_null, aret_some, aret_none, bz, bz0, bz1, true_and, and_true, vpT, nIc, nI_add, pk_mul, nI_sub']
  exact mp_pagesBy_loop h0 hok hc h12 c 0 Q (by omega)
theorem mp_allPoints_loop (h0 : σ.1 m = some (eO 7 (.ref (m + 1) :: fs))) : ∀ (k i : Nat) (Q : aQ), i + k = 8 → (aX d iX7_allPoints 4 [some (.ref m), some (.int (mSum st i)), some (.int (nI i))] [] (mS σ m st) Q ↔ Q (some (.int (mSum st 8))) (mS σ m st))
  | 0, i, Q, h => by
    have e : i = 8 := by omega
    subst e
    rw [sX7_allPoints_4]
    simp (disch := omega) only [sX7_allPoints_0, sX7_allPoints_1, sX7_allPoints_2, sX7_allPoints_3, sX7_allPoints_5, sX7_allPoints_7, sX7_allPoints_10, sX7_allPoints_11, sX7_allPoints_12, sX7_allPoints_15, sX7_allPoints_17, sX7_allPoints_18, sX7_allPoints_19, sX7_allPoints_20, sX7_allPoints_21, sX7_allPoints_22, sX7_allPoints_25, sX7_allPoints_28, sX7_allPoints_29, mS_0 h0, mS_1, aFld, aFds, aRow, aRowR, aRefs, aLn, if_true, List.getElem?_cons_zero, List.getElem?_cons_succ, List.set_cons_zero, List.set_cons_succ, List.length_cons, List.length_nil, Option.some.injEq, exists_eq_left', aput_same, aclr_none, aclr_int, aclr_ref, aclr_null, aret_some, aret_none, bz, bz0, bz1, true_and, and_true, vpT, nIc, nI_add, pk_mul, nI_sub', Nat.add_zero, Nat.zero_add, upd_same, upd_ne, if_false, not_true_eq_false, not_false_eq_true, ite_z, ite_o, eq_self, Bool.false_eq_true, nI_leT, nI_leF, nI_ltT, nI_ltF, nI_ne, and_self, false_and, and_false]
  | k + 1, i, Q, h => by
    have ih := mp_allPoints_loop h0 k (i + 1) Q (by omega)
    rw [mSum] at ih
    rw [sX7_allPoints_4]
    simp (disch := omega) only [sX7_allPoints_0, sX7_allPoints_1, sX7_allPoints_2, sX7_allPoints_3, sX7_allPoints_5, sX7_allPoints_7, sX7_allPoints_10, sX7_allPoints_11, sX7_allPoints_12, sX7_allPoints_15, sX7_allPoints_17, sX7_allPoints_18, sX7_allPoints_19, sX7_allPoints_20, sX7_allPoints_21, sX7_allPoints_22, sX7_allPoints_25, sX7_allPoints_28, sX7_allPoints_29, mS_0 h0, mS_1, aFld, aFds, aRow, aRowR, aRefs, aLn, if_true, List.getElem?_cons_zero, List.getElem?_cons_succ, List.set_cons_zero, List.set_cons_succ, List.length_cons, List.length_nil, Option.some.injEq, exists_eq_left', aput_same, aclr_none, aclr_int, aclr_ref, aclr_null, aret_some, aret_none, bz, bz0, bz1, true_and, and_true, vpT, nIc, nI_add, pk_mul, nI_sub', Nat.add_zero, Nat.zero_add, upd_same, upd_ne, if_false, not_true_eq_false, not_false_eq_true, ite_z, ite_o, eq_self, Bool.false_eq_true, nI_leT, nI_leF, nI_ltT, nI_ltF, nI_ne, and_self, false_and, and_false]
    exact ih
theorem mp_allPoints (h0 : σ.1 m = some (eO 7 (.ref (m + 1) :: fs))) : aX d iX7_allPoints 0 [some (.ref m), none, none] [] (mS σ m st) Q ↔ Q (some (.int (mSum st 8))) (mS σ m st) := by
  simp only [sX7_allPoints_0, sX7_allPoints_1, sX7_allPoints_2, sX7_allPoints_3, aFld, aFds, aRow, aRowR, aRefs, aLn, if_true, List.getElem?_cons_zero, List.getElem?_cons_succ, List.set_cons_zero, List.set_cons_succ, List.length_cons, List.length_nil, Option.some.injEq, exists_eq_left', aput_same, aclr_none, aclr_int, aclr_ref, aclr_null, aret_some, aret_none, bz, bz0, bz1, true_and, and_true, vpT, nIc, nI_add, pk_mul, nI_sub']
  exact mp_allPoints_loop h0 8 0 Q rfl
end MQ
