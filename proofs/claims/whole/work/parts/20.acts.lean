/-! THE REFERENCE: what each order asks, and does to the state -/
abbrev inR (x : Int32) (lo hi : Nat) : Prop := nI lo ≤ x ∧ x ≤ nI hi
def mWSat (s f : Int32) : Int32 := if inR s 0 7 then (if f = -6 then nI 0 else if inR f 0 4095 then nI 0 else -2) else -1
def mSat (st : Nat → Int32) (s : Nat) (f : Int32) : Nat → Int32 := upd (upd st 16 (st 16 ||| nI 1 <<< (nI s &&& 31))) (17 + s) (if f = -6 then st (17 + s) else f)
def mWLeft (st : Nat → Int32) (s : Int32) : Int32 := if inR s 0 7 then (if mTk st s = true then nI 0 else -5) else -1
def mLeft (st : Nat → Int32) (s : Nat) : Nat → Int32 := upd st 16 (st 16 &&& (nI 1 <<< (nI s &&& 31) ^^^ -1))
def mWBeg (st : Nat → Int32) (s w : Int32) (c : Nat) : Int32 := if inR s 0 7 ∧ inR w 0 15 then (if c = 12 then -4 else if mTk st s = true ∧ mAlbOf st s c = -6 then nI 0 else -5) else -1
def mClr (st : Nat → Int32) (a : Nat) : Nat → Nat → Int32
  | 0 => st
  | k + 1 => upd (mClr st a k) (35 + 28 * a + k) (nI 0)
def mBeg (st : Nat → Int32) (c s w : Nat) : Nat → Int32 := upd (mPut (upd (upd (mClr st c 28) (35 + 28 * c + 3) (-6)) (35 + 28 * c) (nI s)) c 0 (nI s) (nI w) (nI 0)) 34 (nI (c + 1))
def mWTell (st : Nat → Int32) (a n : Nat) (p : Int32) : Int32 := if inR p 0 (if n % 2 = 0 then 15 else 4095) then (if st (35 + 28 * a + 2) = nI 0 then nI 0 else -5) else -2
def mCp (st : Nat → Int32) (l a : Nat) : Nat → Nat → Int32
  | 0 => st
  | k + 1 => upd (mCp st l a k) (35 + 28 * l + k) (mCp st l a k (35 + 28 * a + k))
/-- how many albums go round, among the first ones -/
def mGR (st : Nat → Int32) : Nat → Nat
  | 0 => 0
  | a + 1 => mGR st a + (if st (35 + 28 * a + 2) = nI 0 then 1 else 0)
/-- the albums that go round, moved up -/
def mCl (st : Nat → Int32) : Nat → Nat → Int32
  | 0 => st
  | a + 1 => if st (35 + 28 * a + 2) = nI 0 then mCp (mCl st a) (mGR st a) a 28 else mCl st a
theorem mGR_le (st : Nat → Int32) : ∀ a, mGR st a ≤ a
  | 0 => Nat.le_refl _
  | a + 1 => by
    have := mGR_le st a
    unfold mGR
    split <;> omega
theorem mCp_hi (st : Nat → Int32) (l a : Nat) : ∀ k j, 35 + 28 * l + k ≤ j → mCp st l a k j = st j
  | 0, _, _ => rfl
  | k + 1, j, h => by rw [mCp, upd_ne (by omega), mCp_hi st l a k j (by omega)]
theorem mCl_hi (st : Nat → Int32) : ∀ a j, 35 + 28 * mGR st a ≤ j → mCl st a j = st j
  | 0, _, _ => rfl
  | a + 1, j, h => by
    unfold mGR at h
    unfold mCl
    split
    · rename_i g
      rw [if_pos g] at h
      rw [mCp_hi _ _ _ _ _ (by omega), mCl_hi st a j (by omega)]
    · rename_i g
      rw [if_neg g] at h
      exact mCl_hi st a j (by omega)
theorem mCp_lo (st : Nat → Int32) (l a : Nat) : ∀ k j, j < 35 → mCp st l a k j = st j
  | 0, _, _ => rfl
  | k + 1, j, h => by rw [mCp, upd_ne (by omega), mCp_lo st l a k j h]
theorem mCl_lo (st : Nat → Int32) : ∀ a j, j < 35 → mCl st a j = st j
  | 0, _, _ => rfl
  | a + 1, j, h => by
    unfold mCl
    split
    · rw [mCp_lo _ _ _ _ _ h, mCl_lo st a j h]
    · exact mCl_lo st a j h
def mClear (st : Nat → Int32) (c : Nat) : Nat → Int32 := upd (mCl st c) 34 (nI (mGR st c))
section MB
variable {d : Nat} {σ : aS} {Q : aQ} {m a : Nat} {st : Nat → Int32} {fs : List Value}
theorem mp_whySat {s f : Int32} : aX (d + 2) iX7_whyNotSat 0 [some (.ref m), some (.int s), some (.int f)] [] σ Q ↔ Q (some (.int (mWSat s f))) σ := by
  by_cases h1 : inR s 0 7
  · by_cases h2 : f = -6
    · simp (disch := omega) only [sX7_whyNotSat_0, sX7_whyNotSat_1, sX7_whyNotSat_4, sX7_whyNotSat_7, sX7_whyNotSat_8, sX7_whyNotSat_11, sX7_whyNotSat_12, sX7_whyNotSat_14, sX7_whyNotSat_17, sX7_whyNotSat_18, sX7_whyNotSat_19, sX7_whyNotSat_22, sX7_whyNotSat_25, sX7_whyNotSat_28, sX7_whyNotSat_29, sX7_whyNotSat_32, sX7_whyNotSat_34, mm_isSeat, mm_within, aFld, aFds, aRow, aRowR, aRefs, aLn, if_true, List.getElem?_cons_zero, List.getElem?_cons_succ, List.set_cons_zero, List.set_cons_succ, List.length_cons, List.length_nil, Option.some.injEq, exists_eq_left', aput_same, aclr_none, aclr_int, aclr_ref, aclr_null, aret_some, aret_none, bz, bz0, bz1, true_and, and_true, vpT, nIc, nI_add, pk_mul, nI_sub', Nat.add_zero, Nat.zero_add, upd_same, upd_ne, if_false, not_true_eq_false, not_false_eq_true, ite_z, ite_o, eq_self, Bool.false_eq_true, nI_leT, nI_leF, nI_ltT, nI_ltF, nI_ne, and_self, false_and, and_false, inR, mWSat, h1, h2]
    · by_cases h3 : inR f 0 4095 <;> simp (disch := omega) only [sX7_whyNotSat_0, sX7_whyNotSat_1, sX7_whyNotSat_4, sX7_whyNotSat_7, sX7_whyNotSat_8, sX7_whyNotSat_11, sX7_whyNotSat_12, sX7_whyNotSat_14, sX7_whyNotSat_17, sX7_whyNotSat_18, sX7_whyNotSat_19, sX7_whyNotSat_22, sX7_whyNotSat_25, sX7_whyNotSat_28, sX7_whyNotSat_29, sX7_whyNotSat_32, sX7_whyNotSat_34, mm_isSeat, mm_within, aFld, aFds, aRow, aRowR, aRefs, aLn, if_true, List.getElem?_cons_zero, List.getElem?_cons_succ, List.set_cons_zero, List.set_cons_succ, List.length_cons, List.length_nil, Option.some.injEq, exists_eq_left', aput_same, aclr_none, aclr_int, aclr_ref, aclr_null, aret_some, aret_none, bz, bz0, bz1, true_and, and_true, vpT, nIc, nI_add, pk_mul, nI_sub', Nat.add_zero, Nat.zero_add, upd_same, upd_ne, if_false, not_true_eq_false, not_false_eq_true, ite_z, ite_o, eq_self, Bool.false_eq_true, nI_leT, nI_leF, nI_ltT, nI_ltF, nI_ne, and_self, false_and, and_false, inR, mWSat, h1, h2, h3]
  · simp (disch := omega) only [sX7_whyNotSat_0, sX7_whyNotSat_1, sX7_whyNotSat_4, sX7_whyNotSat_7, sX7_whyNotSat_8, sX7_whyNotSat_11, sX7_whyNotSat_12, sX7_whyNotSat_14, sX7_whyNotSat_17, sX7_whyNotSat_18, sX7_whyNotSat_19, sX7_whyNotSat_22, sX7_whyNotSat_25, sX7_whyNotSat_28, sX7_whyNotSat_29, sX7_whyNotSat_32, sX7_whyNotSat_34, mm_isSeat, mm_within, aFld, aFds, aRow, aRowR, aRefs, aLn, if_true, List.getElem?_cons_zero, List.getElem?_cons_succ, List.set_cons_zero, List.set_cons_succ, List.length_cons, List.length_nil, Option.some.injEq, exists_eq_left', aput_same, aclr_none, aclr_int, aclr_ref, aclr_null, aret_some, aret_none, bz, bz0, bz1, true_and, and_true, vpT, nIc, nI_add, pk_mul, nI_sub', Nat.add_zero, Nat.zero_add, upd_same, upd_ne, if_false, not_true_eq_false, not_false_eq_true, ite_z, ite_o, eq_self, Bool.false_eq_true, nI_leT, nI_leF, nI_ltT, nI_ltF, nI_ne, and_self, false_and, and_false, inR, mWSat, h1]
theorem mp_sat {s : Nat} (h0 : σ.1 m = some (eO 7 (.ref (m + 1) :: fs))) (hs : s < 8) {f : Int32} : aX (d + 1) iX7_sat 0 [some (.ref m), some (.int (nI s)), some (.int f)] [] (mS σ m st) Q ↔ Q (some (.int (mBits (st 16 ||| nI 1 <<< (nI s &&& 31)) 12))) (mS σ m (mSat st s f)) := by
  by_cases h2 : f = -6 <;> simp (disch := omega) only [sX7_sat_0, sX7_sat_1, sX7_sat_4, sX7_sat_6, sX7_sat_7, sX7_sat_8, sX7_sat_9, sX7_sat_10, sX7_sat_11, sX7_sat_12, sX7_sat_13, sX7_sat_14, sX7_sat_17, sX7_sat_19, sX7_sat_20, sX7_sat_21, sX7_sat_22, sX7_sat_24, sX7_sat_27, sX7_sat_28, sX7_sat_31, sX7_sat_33, sX7_sat_34, sX7_sat_35, sX7_sat_36, sX7_sat_39, sX7_sat_40, sX7_sat_41, sX7_sat_42, sX7_sat_45, sX7_sat_47, sX7_sat_48, sX7_sat_51, mS_0 h0, mS_1, mS_put, mm_bits, aFld, aFds, aRow, aRowR, aRefs, aLn, if_true, List.getElem?_cons_zero, List.getElem?_cons_succ, List.set_cons_zero, List.set_cons_succ, List.length_cons, List.length_nil, Option.some.injEq, exists_eq_left', aput_same, aclr_none, aclr_int, aclr_ref, aclr_null, aret_some, aret_none, bz, bz0, bz1, true_and, and_true, vpT, nIc, nI_add, pk_mul, nI_sub', Nat.add_zero, Nat.zero_add, upd_same, upd_ne, if_false, not_true_eq_false, not_false_eq_true, ite_z, ite_o, eq_self, Bool.false_eq_true, nI_leT, nI_leF, nI_ltT, nI_ltF, nI_ne, and_self, false_and, and_false, mSat, h2]
theorem mp_whyLeft (h0 : σ.1 m = some (eO 7 (.ref (m + 1) :: fs))) {s : Int32} : aX (d + 2) iX7_whyNotLeft 0 [some (.ref m), some (.int s)] [] (mS σ m st) Q ↔ Q (some (.int (mWLeft st s))) (mS σ m st) := by
  by_cases h1 : inR s 0 7
  · by_cases h2 : mTk st s = true <;> simp (disch := omega) only [sX7_whyNotLeft_0, sX7_whyNotLeft_1, sX7_whyNotLeft_4, sX7_whyNotLeft_7, sX7_whyNotLeft_8, sX7_whyNotLeft_11, sX7_whyNotLeft_12, sX7_whyNotLeft_13, sX7_whyNotLeft_16, sX7_whyNotLeft_19, sX7_whyNotLeft_20, sX7_whyNotLeft_23, sX7_whyNotLeft_25, mm_isSeat, mp_isTaken h0, aIsT (mS_0 h0), aFld, aFds, aRow, aRowR, aRefs, aLn, if_true, List.getElem?_cons_zero, List.getElem?_cons_succ, List.set_cons_zero, List.set_cons_succ, List.length_cons, List.length_nil, Option.some.injEq, exists_eq_left', aput_same, aclr_none, aclr_int, aclr_ref, aclr_null, aret_some, aret_none, bz, bz0, bz1, true_and, and_true, vpT, nIc, nI_add, pk_mul, nI_sub', Nat.add_zero, Nat.zero_add, upd_same, upd_ne, if_false, not_true_eq_false, not_false_eq_true, ite_z, ite_o, eq_self, Bool.false_eq_true, nI_leT, nI_leF, nI_ltT, nI_ltF, nI_ne, and_self, false_and, and_false, inR, mWLeft, h1, h2]
  · simp (disch := omega) only [sX7_whyNotLeft_0, sX7_whyNotLeft_1, sX7_whyNotLeft_4, sX7_whyNotLeft_7, sX7_whyNotLeft_8, sX7_whyNotLeft_11, sX7_whyNotLeft_12, sX7_whyNotLeft_13, sX7_whyNotLeft_16, sX7_whyNotLeft_19, sX7_whyNotLeft_20, sX7_whyNotLeft_23, sX7_whyNotLeft_25, mm_isSeat, mp_isTaken h0, aIsT (mS_0 h0), aFld, aFds, aRow, aRowR, aRefs, aLn, if_true, List.getElem?_cons_zero, List.getElem?_cons_succ, List.set_cons_zero, List.set_cons_succ, List.length_cons, List.length_nil, Option.some.injEq, exists_eq_left', aput_same, aclr_none, aclr_int, aclr_ref, aclr_null, aret_some, aret_none, bz, bz0, bz1, true_and, and_true, vpT, nIc, nI_add, pk_mul, nI_sub', Nat.add_zero, Nat.zero_add, upd_same, upd_ne, if_false, not_true_eq_false, not_false_eq_true, ite_z, ite_o, eq_self, Bool.false_eq_true, nI_leT, nI_leF, nI_ltT, nI_ltF, nI_ne, and_self, false_and, and_false, inR, mWLeft, h1]
theorem mp_left {s : Nat} (h0 : σ.1 m = some (eO 7 (.ref (m + 1) :: fs))) : aX (d + 1) iX7_left 0 [some (.ref m), some (.int (nI s))] [] (mS σ m st) Q ↔ Q (some (.int (mBits (st 16 &&& (nI 1 <<< (nI s &&& 31) ^^^ -1)) 12))) (mS σ m (mLeft st s)) := by
  simp (disch := omega) only [sX7_left_0, sX7_left_1, sX7_left_4, sX7_left_6, sX7_left_7, sX7_left_8, sX7_left_9, sX7_left_10, sX7_left_11, sX7_left_12, sX7_left_13, sX7_left_14, sX7_left_15, sX7_left_16, sX7_left_19, sX7_left_21, sX7_left_22, sX7_left_25, mS_0 h0, mS_1, mS_put, mm_bits, aFld, aFds, aRow, aRowR, aRefs, aLn, if_true, List.getElem?_cons_zero, List.getElem?_cons_succ, List.set_cons_zero, List.set_cons_succ, List.length_cons, List.length_nil, Option.some.injEq, exists_eq_left', aput_same, aclr_none, aclr_int, aclr_ref, aclr_null, aret_some, aret_none, bz, bz0, bz1, true_and, and_true, vpT, nIc, nI_add, pk_mul, nI_sub', Nat.add_zero, Nat.zero_add, upd_same, upd_ne, if_false, not_true_eq_false, not_false_eq_true, ite_z, ite_o, eq_self, Bool.false_eq_true, nI_leT, nI_leF, nI_ltT, nI_ltF, nI_ne, and_self, false_and, and_false, mLeft]
theorem mp_whyBeg {c : Nat} (h0 : σ.1 m = some (eO 7 (.ref (m + 1) :: fs))) (hc : st 34 = nI c) (h12 : c ≤ 12) {s w : Int32} : aX (d + 3) iX7_whyNotBegun 0 [some (.ref m), some (.int s), some (.int w)] [] (mS σ m st) Q ↔ Q (some (.int (mWBeg st s w c))) (mS σ m st) := by
  by_cases h1 : inR s 0 7
  · by_cases h2 : inR w 0 15
    · by_cases h3 : c = 12
      · subst h3
        simp (disch := omega) only [sX7_whyNotBegun_0, sX7_whyNotBegun_1, sX7_whyNotBegun_4, sX7_whyNotBegun_7, sX7_whyNotBegun_8, sX7_whyNotBegun_11, sX7_whyNotBegun_14, sX7_whyNotBegun_15, sX7_whyNotBegun_16, sX7_whyNotBegun_17, sX7_whyNotBegun_20, sX7_whyNotBegun_22, sX7_whyNotBegun_23, sX7_whyNotBegun_25, sX7_whyNotBegun_28, sX7_whyNotBegun_30, sX7_whyNotBegun_33, sX7_whyNotBegun_34, sX7_whyNotBegun_35, sX7_whyNotBegun_38, sX7_whyNotBegun_41, sX7_whyNotBegun_42, sX7_whyNotBegun_43, sX7_whyNotBegun_46, sX7_whyNotBegun_48, sX7_whyNotBegun_51, sX7_whyNotBegun_52, sX7_whyNotBegun_55, sX7_whyNotBegun_57, mm_isSeat, mm_isWord, mS_0 h0, mS_1, hc, mp_isTaken h0, mp_albumOf h0 hc h12, aIsT (mS_0 h0), aFld, aFds, aRow, aRowR, aRefs, aLn, if_true, List.getElem?_cons_zero, List.getElem?_cons_succ, List.set_cons_zero, List.set_cons_succ, List.length_cons, List.length_nil, Option.some.injEq, exists_eq_left', aput_same, aclr_none, aclr_int, aclr_ref, aclr_null, aret_some, aret_none, bz, bz0, bz1, true_and, and_true, vpT, nIc, nI_add, pk_mul, nI_sub', Nat.add_zero, Nat.zero_add, upd_same, upd_ne, if_false, not_true_eq_false, not_false_eq_true, ite_z, ite_o, eq_self, Bool.false_eq_true, nI_leT, nI_leF, nI_ltT, nI_ltF, nI_ne, and_self, false_and, and_false, inR, mWBeg, h1, h2]
      · by_cases h4 : mTk st s = true
        · by_cases h5 : mAlbOf st s c = -6 <;> simp (disch := omega) only [sX7_whyNotBegun_0, sX7_whyNotBegun_1, sX7_whyNotBegun_4, sX7_whyNotBegun_7, sX7_whyNotBegun_8, sX7_whyNotBegun_11, sX7_whyNotBegun_14, sX7_whyNotBegun_15, sX7_whyNotBegun_16, sX7_whyNotBegun_17, sX7_whyNotBegun_20, sX7_whyNotBegun_22, sX7_whyNotBegun_23, sX7_whyNotBegun_25, sX7_whyNotBegun_28, sX7_whyNotBegun_30, sX7_whyNotBegun_33, sX7_whyNotBegun_34, sX7_whyNotBegun_35, sX7_whyNotBegun_38, sX7_whyNotBegun_41, sX7_whyNotBegun_42, sX7_whyNotBegun_43, sX7_whyNotBegun_46, sX7_whyNotBegun_48, sX7_whyNotBegun_51, sX7_whyNotBegun_52, sX7_whyNotBegun_55, sX7_whyNotBegun_57, mm_isSeat, mm_isWord, mS_0 h0, mS_1, hc, mp_isTaken h0, mp_albumOf h0 hc h12, aIsT (mS_0 h0), aFld, aFds, aRow, aRowR, aRefs, aLn, if_true, List.getElem?_cons_zero, List.getElem?_cons_succ, List.set_cons_zero, List.set_cons_succ, List.length_cons, List.length_nil, Option.some.injEq, exists_eq_left', aput_same, aclr_none, aclr_int, aclr_ref, aclr_null, aret_some, aret_none, bz, bz0, bz1, true_and, and_true, vpT, nIc, nI_add, pk_mul, nI_sub', Nat.add_zero, Nat.zero_add, upd_same, upd_ne, if_false, not_true_eq_false, not_false_eq_true, ite_z, ite_o, eq_self, Bool.false_eq_true, nI_leT, nI_leF, nI_ltT, nI_ltF, nI_ne, and_self, false_and, and_false, inR, mWBeg, h1, h2, h3, h4, h5]
        · simp (disch := omega) only [sX7_whyNotBegun_0, sX7_whyNotBegun_1, sX7_whyNotBegun_4, sX7_whyNotBegun_7, sX7_whyNotBegun_8, sX7_whyNotBegun_11, sX7_whyNotBegun_14, sX7_whyNotBegun_15, sX7_whyNotBegun_16, sX7_whyNotBegun_17, sX7_whyNotBegun_20, sX7_whyNotBegun_22, sX7_whyNotBegun_23, sX7_whyNotBegun_25, sX7_whyNotBegun_28, sX7_whyNotBegun_30, sX7_whyNotBegun_33, sX7_whyNotBegun_34, sX7_whyNotBegun_35, sX7_whyNotBegun_38, sX7_whyNotBegun_41, sX7_whyNotBegun_42, sX7_whyNotBegun_43, sX7_whyNotBegun_46, sX7_whyNotBegun_48, sX7_whyNotBegun_51, sX7_whyNotBegun_52, sX7_whyNotBegun_55, sX7_whyNotBegun_57, mm_isSeat, mm_isWord, mS_0 h0, mS_1, hc, mp_isTaken h0, mp_albumOf h0 hc h12, aIsT (mS_0 h0), aFld, aFds, aRow, aRowR, aRefs, aLn, if_true, List.getElem?_cons_zero, List.getElem?_cons_succ, List.set_cons_zero, List.set_cons_succ, List.length_cons, List.length_nil, Option.some.injEq, exists_eq_left', aput_same, aclr_none, aclr_int, aclr_ref, aclr_null, aret_some, aret_none, bz, bz0, bz1, true_and, and_true, vpT, nIc, nI_add, pk_mul, nI_sub', Nat.add_zero, Nat.zero_add, upd_same, upd_ne, if_false, not_true_eq_false, not_false_eq_true, ite_z, ite_o, eq_self, Bool.false_eq_true, nI_leT, nI_leF, nI_ltT, nI_ltF, nI_ne, and_self, false_and, and_false, inR, mWBeg, h1, h2, h3, h4]
    · simp (disch := omega) only [sX7_whyNotBegun_0, sX7_whyNotBegun_1, sX7_whyNotBegun_4, sX7_whyNotBegun_7, sX7_whyNotBegun_8, sX7_whyNotBegun_11, sX7_whyNotBegun_14, sX7_whyNotBegun_15, sX7_whyNotBegun_16, sX7_whyNotBegun_17, sX7_whyNotBegun_20, sX7_whyNotBegun_22, sX7_whyNotBegun_23, sX7_whyNotBegun_25, sX7_whyNotBegun_28, sX7_whyNotBegun_30, sX7_whyNotBegun_33, sX7_whyNotBegun_34, sX7_whyNotBegun_35, sX7_whyNotBegun_38, sX7_whyNotBegun_41, sX7_whyNotBegun_42, sX7_whyNotBegun_43, sX7_whyNotBegun_46, sX7_whyNotBegun_48, sX7_whyNotBegun_51, sX7_whyNotBegun_52, sX7_whyNotBegun_55, sX7_whyNotBegun_57, mm_isSeat, mm_isWord, aFld, aFds, aRow, aRowR, aRefs, aLn, if_true, List.getElem?_cons_zero, List.getElem?_cons_succ, List.set_cons_zero, List.set_cons_succ, List.length_cons, List.length_nil, Option.some.injEq, exists_eq_left', aput_same, aclr_none, aclr_int, aclr_ref, aclr_null, aret_some, aret_none, bz, bz0, bz1, true_and, and_true, vpT, nIc, nI_add, pk_mul, nI_sub', Nat.add_zero, Nat.zero_add, upd_same, upd_ne, if_false, not_true_eq_false, not_false_eq_true, ite_z, ite_o, eq_self, Bool.false_eq_true, nI_leT, nI_leF, nI_ltT, nI_ltF, nI_ne, and_self, false_and, and_false, inR, mWBeg, h1, h2]
  · simp (disch := omega) only [sX7_whyNotBegun_0, sX7_whyNotBegun_1, sX7_whyNotBegun_4, sX7_whyNotBegun_7, sX7_whyNotBegun_8, sX7_whyNotBegun_11, sX7_whyNotBegun_14, sX7_whyNotBegun_15, sX7_whyNotBegun_16, sX7_whyNotBegun_17, sX7_whyNotBegun_20, sX7_whyNotBegun_22, sX7_whyNotBegun_23, sX7_whyNotBegun_25, sX7_whyNotBegun_28, sX7_whyNotBegun_30, sX7_whyNotBegun_33, sX7_whyNotBegun_34, sX7_whyNotBegun_35, sX7_whyNotBegun_38, sX7_whyNotBegun_41, sX7_whyNotBegun_42, sX7_whyNotBegun_43, sX7_whyNotBegun_46, sX7_whyNotBegun_48, sX7_whyNotBegun_51, sX7_whyNotBegun_52, sX7_whyNotBegun_55, sX7_whyNotBegun_57, mm_isSeat, mm_isWord, aFld, aFds, aRow, aRowR, aRefs, aLn, if_true, List.getElem?_cons_zero, List.getElem?_cons_succ, List.set_cons_zero, List.set_cons_succ, List.length_cons, List.length_nil, Option.some.injEq, exists_eq_left', aput_same, aclr_none, aclr_int, aclr_ref, aclr_null, aret_some, aret_none, bz, bz0, bz1, true_and, and_true, vpT, nIc, nI_add, pk_mul, nI_sub', Nat.add_zero, Nat.zero_add, upd_same, upd_ne, if_false, not_true_eq_false, not_false_eq_true, ite_z, ite_o, eq_self, Bool.false_eq_true, nI_leT, nI_leF, nI_ltT, nI_ltF, nI_ne, and_self, false_and, and_false, inR, mWBeg, h1]
theorem mp_clr_loop (h0 : σ.1 m = some (eO 7 (.ref (m + 1) :: fs))) (ha : a < 12) : ∀ (k i : Nat) (Q : aQ), i + k = 28 → (aX (d + 1) iX7_clearAlbum 2 [some (.ref m), some (.int (nI a)), some (.int (nI i))] [] (mS σ m (mClr st a i)) Q ↔ Q none (mS σ m (upd (mClr st a 28) (35 + 28 * a + 3) (-6))))
  | 0, i, Q, h => by
    have e : i = 28 := by omega
    subst e
    rw [sX7_clearAlbum_2]
    simp (disch := omega) only [sX7_clearAlbum_0, sX7_clearAlbum_1, sX7_clearAlbum_3, sX7_clearAlbum_5, sX7_clearAlbum_8, sX7_clearAlbum_9, sX7_clearAlbum_10, sX7_clearAlbum_11, sX7_clearAlbum_12, sX7_clearAlbum_15, sX7_clearAlbum_18, sX7_clearAlbum_21, sX7_clearAlbum_22, sX7_clearAlbum_23, sX7_clearAlbum_24, sX7_clearAlbum_26, sX7_clearAlbum_29, mp_setPart h0, aIsT (mS_0 h0), aFld, aFds, aRow, aRowR, aRefs, aLn, if_true, List.getElem?_cons_zero, List.getElem?_cons_succ, List.set_cons_zero, List.set_cons_succ, List.length_cons, List.length_nil, Option.some.injEq, exists_eq_left', aput_same, aclr_none, aclr_int, aclr_ref, aclr_null, aret_some, aret_none, bz, bz0, bz1, true_and, and_true, vpT, nIc, nI_add, pk_mul, nI_sub', Nat.add_zero, Nat.zero_add, upd_same, upd_ne, if_false, not_true_eq_false, not_false_eq_true, ite_z, ite_o, eq_self, Bool.false_eq_true, nI_leT, nI_leF, nI_ltT, nI_ltF, nI_ne, and_self, false_and, and_false]
  | k + 1, i, Q, h => by
    have ih := mp_clr_loop h0 ha k (i + 1) Q (by omega)
    rw [mClr] at ih
    rw [sX7_clearAlbum_2]
    simp (disch := omega) only [sX7_clearAlbum_0, sX7_clearAlbum_1, sX7_clearAlbum_3, sX7_clearAlbum_5, sX7_clearAlbum_8, sX7_clearAlbum_9, sX7_clearAlbum_10, sX7_clearAlbum_11, sX7_clearAlbum_12, sX7_clearAlbum_15, sX7_clearAlbum_18, sX7_clearAlbum_21, sX7_clearAlbum_22, sX7_clearAlbum_23, sX7_clearAlbum_24, sX7_clearAlbum_26, sX7_clearAlbum_29, mp_setPart h0, aIsT (mS_0 h0), aFld, aFds, aRow, aRowR, aRefs, aLn, if_true, List.getElem?_cons_zero, List.getElem?_cons_succ, List.set_cons_zero, List.set_cons_succ, List.length_cons, List.length_nil, Option.some.injEq, exists_eq_left', aput_same, aclr_none, aclr_int, aclr_ref, aclr_null, aret_some, aret_none, bz, bz0, bz1, true_and, and_true, vpT, nIc, nI_add, pk_mul, nI_sub', Nat.add_zero, Nat.zero_add, upd_same, upd_ne, if_false, not_true_eq_false, not_false_eq_true, ite_z, ite_o, eq_self, Bool.false_eq_true, nI_leT, nI_leF, nI_ltT, nI_ltF, nI_ne, and_self, false_and, and_false]
    exact ih
theorem mp_clr (h0 : σ.1 m = some (eO 7 (.ref (m + 1) :: fs))) (ha : a < 12) : aX (d + 1) iX7_clearAlbum 0 [some (.ref m), some (.int (nI a)), none] [] (mS σ m st) Q ↔ Q none (mS σ m (upd (mClr st a 28) (35 + 28 * a + 3) (-6))) := by
  simp only [sX7_clearAlbum_0, sX7_clearAlbum_1, aFld, aFds, aRow, aRowR, aRefs, aLn, if_true, List.getElem?_cons_zero, List.getElem?_cons_succ, List.set_cons_zero, List.set_cons_succ, List.length_cons, List.length_nil, Option.some.injEq, exists_eq_left', aput_same, aclr_none, aclr_int, aclr_ref, aclr_null, aret_some, aret_none, bz, bz0, bz1, true_and, and_true, vpT, nIc, nI_add, pk_mul, nI_sub']
  exact mp_clr_loop h0 ha 28 0 Q rfl
theorem mClr_at (a : Nat) : ∀ k j, mClr st a k j = if 35 + 28 * a ≤ j ∧ j < 35 + 28 * a + k then nI 0 else st j
  | 0, j => by rw [mClr, if_neg (by omega)]
  | k + 1, j => by
    rw [mClr]
    by_cases h : j = 35 + 28 * a + k
    · subst h; rw [upd_same, if_pos (by omega)]
    · rw [upd_ne h, mClr_at a k j]
      by_cases h2 : 35 + 28 * a ≤ j ∧ j < 35 + 28 * a + k
      · rw [if_pos h2, if_pos (by omega)]
      · rw [if_neg h2, if_neg (by omega)]
theorem mp_begun {c s w : Nat} (h0 : σ.1 m = some (eO 7 (.ref (m + 1) :: fs))) (hc : st 34 = nI c) (h12 : c < 12) : aX (d + 2) iX7_begun 0 [some (.ref m), some (.int (nI s)), some (.int (nI w)), none] [] (mS σ m st) Q ↔ Q (some (.int (nI c))) (mS σ m (mBeg st c s w)) := by
  have e1 : upd (upd (mClr st c 28) (35 + 28 * c + 3) (-6)) (35 + 28 * c) (nI s) (35 + 28 * c + 1) = nI 0 := by rw [upd_ne (by omega), upd_ne (by omega), mClr_at, if_pos (by omega)]
  have e2 : mPut (upd (upd (mClr st c 28) (35 + 28 * c + 3) (-6)) (35 + 28 * c) (nI s)) c 0 (nI s) (nI w) (nI 0) 34 = nI c := by
    unfold mPut
    rw [upd_ne (by omega), upd_ne (by omega), upd_ne (by omega), upd_ne (by omega), upd_ne (by omega), upd_ne (by omega), mClr_at, if_neg (by omega), hc]
  simp (disch := omega) only [sX7_begun_0, sX7_begun_1, sX7_begun_4, sX7_begun_6, sX7_begun_7, sX7_begun_8, sX7_begun_9, sX7_begun_10, sX7_begun_13, sX7_begun_14, sX7_begun_15, sX7_begun_16, sX7_begun_17, sX7_begun_20, sX7_begun_21, sX7_begun_22, sX7_begun_23, sX7_begun_24, sX7_begun_25, sX7_begun_28, sX7_begun_29, sX7_begun_32, sX7_begun_34, sX7_begun_35, sX7_begun_36, sX7_begun_37, sX7_begun_38, sX7_begun_39, sX7_begun_40, mS_0 h0, mS_1, mS_put, hc, mp_clr h0, mp_setPart h0, mp_putPage h0 h12 e1 (by omega), e2, aIsT (mS_0 h0), aFld, aFds, aRow, aRowR, aRefs, aLn, if_true, List.getElem?_cons_zero, List.getElem?_cons_succ, List.set_cons_zero, List.set_cons_succ, List.length_cons, List.length_nil, Option.some.injEq, exists_eq_left', aput_same, aclr_none, aclr_int, aclr_ref, aclr_null, aret_some, aret_none, bz, bz0, bz1, true_and, and_true, vpT, nIc, nI_add, pk_mul, nI_sub', Nat.add_zero, Nat.zero_add, upd_same, upd_ne, if_false, not_true_eq_false, not_false_eq_true, ite_z, ite_o, eq_self, Bool.false_eq_true, nI_leT, nI_leF, nI_ltT, nI_ltF, nI_ne, and_self, false_and, and_false, mBeg]
theorem mp_tells (h0 : σ.1 m = some (eO 7 (.ref (m + 1) :: fs))) (ha : a < 12) {p : Int32} : aX (d + 1) iX7_tells 0 [some (.ref m), some (.int (nI a)), some (.int p), none] [] (mS σ m st) Q ↔ Q (some (.int (if st (35 + 28 * a + 3) = -6 then nI 0 else nI 1))) (mS σ m (upd st (35 + 28 * a + 3) p)) := by
  by_cases h : st (35 + 28 * a + 3) = -6 <;> simp (disch := omega) only [sX7_tells_0, sX7_tells_1, sX7_tells_2, sX7_tells_3, sX7_tells_6, sX7_tells_8, sX7_tells_11, sX7_tells_12, sX7_tells_15, sX7_tells_16, sX7_tells_17, sX7_tells_18, sX7_tells_19, sX7_tells_20, sX7_tells_21, sX7_tells_24, sX7_tells_25, mp_part h0, mp_setPart h0, aIsT (mS_0 h0), aFld, aFds, aRow, aRowR, aRefs, aLn, if_true, List.getElem?_cons_zero, List.getElem?_cons_succ, List.set_cons_zero, List.set_cons_succ, List.length_cons, List.length_nil, Option.some.injEq, exists_eq_left', aput_same, aclr_none, aclr_int, aclr_ref, aclr_null, aret_some, aret_none, bz, bz0, bz1, true_and, and_true, vpT, nIc, nI_add, pk_mul, nI_sub', Nat.add_zero, Nat.zero_add, upd_same, upd_ne, if_false, not_true_eq_false, not_false_eq_true, ite_z, ite_o, eq_self, Bool.false_eq_true, nI_leT, nI_leF, nI_ltT, nI_ltF, nI_ne, and_self, false_and, and_false, h]
theorem mp_cleared_in {l x : Nat} {st0 : Nat → Int32} (h0 : σ.1 m = some (eO 7 (.ref (m + 1) :: fs))) (ha : a < 12) (hl : l ≤ a) : ∀ (k i : Nat) (Q : aQ), i + k = 28 → (aX (d + 2) iX7_cleared 25 [some (.ref m), some (.int (nI l)), some (.int (nI a)), some (.int (nI i))] [] (mS σ m (mCp st l a i)) Q ↔ aX (d + 2) iX7_cleared 49 [some (.ref m), some (.int (nI l)), some (.int (nI a)), some (.int (nI 28))] [] (mS σ m (mCp st l a 28)) Q)
  | 0, i, Q, h => by
    have e : i = 28 := by omega
    subst e
    rw [sX7_cleared_25]
    simp (disch := omega) only [sX7_cleared_26, sX7_cleared_28, sX7_cleared_31, sX7_cleared_32, sX7_cleared_33, sX7_cleared_34, sX7_cleared_35, sX7_cleared_36, sX7_cleared_37, sX7_cleared_40, sX7_cleared_43, sX7_cleared_46, aFld, aFds, aRow, aRowR, aRefs, aLn, if_true, List.getElem?_cons_zero, List.getElem?_cons_succ, List.set_cons_zero, List.set_cons_succ, List.length_cons, List.length_nil, Option.some.injEq, exists_eq_left', aput_same, aclr_none, aclr_int, aclr_ref, aclr_null, aret_some, aret_none, bz, bz0, bz1, true_and, and_true, vpT, nIc, nI_add, pk_mul, nI_sub', Nat.add_zero, Nat.zero_add, upd_same, upd_ne, if_false, not_true_eq_false, not_false_eq_true, ite_z, ite_o, eq_self, Bool.false_eq_true, nI_leT, nI_leF, nI_ltT, nI_ltF, nI_ne, and_self, false_and, and_false]
  | k + 1, i, Q, h => by
    have ih := mp_cleared_in (x := x) (st0 := st0) h0 ha hl k (i + 1) Q (by omega)
    rw [mCp] at ih
    rw [sX7_cleared_25]
    simp (disch := omega) only [sX7_cleared_26, sX7_cleared_28, sX7_cleared_31, sX7_cleared_32, sX7_cleared_33, sX7_cleared_34, sX7_cleared_35, sX7_cleared_36, sX7_cleared_37, sX7_cleared_40, sX7_cleared_43, sX7_cleared_46, mp_part h0, mp_setPart h0, aIsT (mS_0 h0), aFld, aFds, aRow, aRowR, aRefs, aLn, if_true, List.getElem?_cons_zero, List.getElem?_cons_succ, List.set_cons_zero, List.set_cons_succ, List.length_cons, List.length_nil, Option.some.injEq, exists_eq_left', aput_same, aclr_none, aclr_int, aclr_ref, aclr_null, aret_some, aret_none, bz, bz0, bz1, true_and, and_true, vpT, nIc, nI_add, pk_mul, nI_sub', Nat.add_zero, Nat.zero_add, upd_same, upd_ne, if_false, not_true_eq_false, not_false_eq_true, ite_z, ite_o, eq_self, Bool.false_eq_true, nI_leT, nI_leF, nI_ltT, nI_ltF, nI_ne, and_self, false_and, and_false]
    exact ih
theorem mp_cleared_loop {c : Nat} (h0 : σ.1 m = some (eO 7 (.ref (m + 1) :: fs))) (hc : st 34 = nI c) (h12 : c ≤ 12) : ∀ (k i : Nat) (l3 : Option Value) (Q : aQ), i + k = c → (aX (d + 2) iX7_cleared 4 [some (.ref m), some (.int (nI (mGR st i))), some (.int (nI i)), l3] [] (mS σ m (mCl st i)) Q ↔ Q (some (.int (nI (c - mGR st c)))) (mS σ m (mClear st c)))
  | 0, i, l3, Q, h => by
    have e : i = c := by omega
    subst e
    have hc' : mCl st i 34 = nI i := by rw [mCl_lo st i 34 (by omega)]; exact hc
    have hle := mGR_le st i
    rw [sX7_cleared_4]
    simp (disch := omega) only [sX7_cleared_5, sX7_cleared_6, sX7_cleared_9, sX7_cleared_11, sX7_cleared_12, sX7_cleared_58, sX7_cleared_59, sX7_cleared_62, sX7_cleared_64, sX7_cleared_65, sX7_cleared_66, sX7_cleared_67, sX7_cleared_68, sX7_cleared_69, sX7_cleared_72, sX7_cleared_74, sX7_cleared_75, sX7_cleared_76, sX7_cleared_77, mS_0 h0, mS_1, mS_put, hc', aFld, aFds, aRow, aRowR, aRefs, aLn, if_true, List.getElem?_cons_zero, List.getElem?_cons_succ, List.set_cons_zero, List.set_cons_succ, List.length_cons, List.length_nil, Option.some.injEq, exists_eq_left', aput_same, aclr_none, aclr_int, aclr_ref, aclr_null, aret_some, aret_none, bz, bz0, bz1, true_and, and_true, vpT, nIc, nI_add, pk_mul, nI_sub', Nat.add_zero, Nat.zero_add, upd_same, upd_ne, if_false, not_true_eq_false, not_false_eq_true, ite_z, ite_o, eq_self, Bool.false_eq_true, nI_leT, nI_leF, nI_ltT, nI_ltF, nI_ne, and_self, false_and, and_false, mClear]
  | k + 1, i, l3, Q, h => by
    have hc' : mCl st i 34 = nI c := by rw [mCl_lo st i 34 (by omega)]; exact hc
    have hle := mGR_le st i
    have hh : mCl st i (35 + 28 * i + 2) = st (35 + 28 * i + 2) := mCl_hi st i _ (by omega)
    rw [sX7_cleared_4]
    by_cases g : st (35 + 28 * i + 2) = nI 0
    · have ih := mp_cleared_loop h0 hc h12 k (i + 1) (some (.int (nI 28))) Q (by omega)
      have e1 : mGR st (i + 1) = mGR st i + 1 := by rw [mGR, if_pos g]
      have e2 : mCl st (i + 1) = mCp (mCl st i) (mGR st i) i 28 := by rw [mCl, if_pos g]
      rw [e1, e2] at ih
      have ic := mp_cleared_in (d := d) (σ := σ) (st := mCl st i) (l := mGR st i) (x := 0) (st0 := st) h0 (show i < 12 by omega) hle 28 0 Q rfl
      rw [mCp] at ic
      simp (disch := omega) only [sX7_cleared_5, sX7_cleared_6, sX7_cleared_9, sX7_cleared_11, sX7_cleared_12, sX7_cleared_15, sX7_cleared_16, sX7_cleared_17, sX7_cleared_20, sX7_cleared_23, sX7_cleared_24, mS_0 h0, mS_1, hc', mp_goesRound h0, hh, g, aIsT (mS_0 h0), aFld, aFds, aRow, aRowR, aRefs, aLn, if_true, List.getElem?_cons_zero, List.getElem?_cons_succ, List.set_cons_zero, List.set_cons_succ, List.length_cons, List.length_nil, Option.some.injEq, exists_eq_left', aput_same, aclr_none, aclr_int, aclr_ref, aclr_null, aret_some, aret_none, bz, bz0, bz1, true_and, and_true, vpT, nIc, nI_add, pk_mul, nI_sub', Nat.add_zero, Nat.zero_add, upd_same, upd_ne, if_false, not_true_eq_false, not_false_eq_true, ite_z, ite_o, eq_self, Bool.false_eq_true, nI_leT, nI_leF, nI_ltT, nI_ltF, nI_ne, and_self, false_and, and_false]
      rw [ic]
      simp (disch := omega) only [sX7_cleared_49, sX7_cleared_52, sX7_cleared_55, aFld, aFds, aRow, aRowR, aRefs, aLn, if_true, List.getElem?_cons_zero, List.getElem?_cons_succ, List.set_cons_zero, List.set_cons_succ, List.length_cons, List.length_nil, Option.some.injEq, exists_eq_left', aput_same, aclr_none, aclr_int, aclr_ref, aclr_null, aret_some, aret_none, bz, bz0, bz1, true_and, and_true, vpT, nIc, nI_add, pk_mul, nI_sub', Nat.add_zero, Nat.zero_add, upd_same, upd_ne, if_false, not_true_eq_false, not_false_eq_true, ite_z, ite_o, eq_self, Bool.false_eq_true, nI_leT, nI_leF, nI_ltT, nI_ltF, nI_ne, and_self, false_and, and_false]
      exact ih
    · have ih := mp_cleared_loop h0 hc h12 k (i + 1) l3 Q (by omega)
      have e1 : mGR st (i + 1) = mGR st i := by rw [mGR, if_neg g, Nat.add_zero]
      have e2 : mCl st (i + 1) = mCl st i := by rw [mCl, if_neg g]
      rw [e1, e2] at ih
      simp (disch := omega) only [sX7_cleared_5, sX7_cleared_6, sX7_cleared_9, sX7_cleared_11, sX7_cleared_12, sX7_cleared_15, sX7_cleared_16, sX7_cleared_17, sX7_cleared_20, sX7_cleared_52, sX7_cleared_55, mS_0 h0, mS_1, hc', mp_goesRound h0, hh, g, aIsT (mS_0 h0), aFld, aFds, aRow, aRowR, aRefs, aLn, if_true, List.getElem?_cons_zero, List.getElem?_cons_succ, List.set_cons_zero, List.set_cons_succ, List.length_cons, List.length_nil, Option.some.injEq, exists_eq_left', aput_same, aclr_none, aclr_int, aclr_ref, aclr_null, aret_some, aret_none, bz, bz0, bz1, true_and, and_true, vpT, nIc, nI_add, pk_mul, nI_sub', Nat.add_zero, Nat.zero_add, upd_same, upd_ne, if_false, not_true_eq_false, not_false_eq_true, ite_z, ite_o, eq_self, Bool.false_eq_true, nI_leT, nI_leF, nI_ltT, nI_ltF, nI_ne, and_self, false_and, and_false]
      exact ih
theorem mp_cleared {c : Nat} (h0 : σ.1 m = some (eO 7 (.ref (m + 1) :: fs))) (hc : st 34 = nI c) (h12 : c ≤ 12) : aX (d + 2) iX7_cleared 0 [some (.ref m), none, none, none] [] (mS σ m st) Q ↔ Q (some (.int (nI (c - mGR st c)))) (mS σ m (mClear st c)) := by
  simp only [sX7_cleared_0, sX7_cleared_1, sX7_cleared_2, sX7_cleared_3, aFld, aFds, aRow, aRowR, aRefs, aLn, if_true, List.getElem?_cons_zero, List.getElem?_cons_succ, List.set_cons_zero, List.set_cons_succ, List.length_cons, List.length_nil, Option.some.injEq, exists_eq_left', aput_same, aclr_none, aclr_int, aclr_ref, aclr_null, aret_some, aret_none, bz, bz0, bz1, true_and, and_true, vpT, nIc, nI_add, pk_mul, nI_sub']
  exact mp_cleared_loop h0 hc h12 c 0 none Q (by omega)
end MB
