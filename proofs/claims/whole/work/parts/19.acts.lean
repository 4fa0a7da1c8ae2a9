/-! THE REFERENCE: the history; what each order does to the state -/
/-- the history behind a record -/
def mShift (hi : Nat → Int32) : Nat → Nat → Int32
  | 0 => hi
  | k + 1 => upd (mShift hi k) k (mShift hi k (k + 371))
theorem mShift_at (hi : Nat → Int32) : ∀ k j, mShift hi k j = if j < k then hi (j + 371) else hi j
  | 0, j => by rw [mShift, if_neg (by omega)]
  | k + 1, j => by
    rw [mShift]
    by_cases h : j = k
    · subst h
      rw [upd_same, if_pos (by omega), mShift_at hi j, if_neg (by omega)]
    · rw [upd_ne h, mShift_at hi k j]
      by_cases h2 : j < k
      · rw [if_pos h2, if_pos (by omega)]
      · rw [if_neg h2, if_neg (by omega)]
def mRecH (hi st : Nat → Int32) (rc : Nat) : Nat → Int32 := if rc = 6 then mMv st 0 (mShift hi 1855) 1855 371 else mMv st 0 hi (rc * 371) 371
def mRecN (rc : Nat) : Nat := if rc = 6 then 6 else rc + 1
section MA
variable {d : Nat} {σ : aS} {Q : aQ} {m a : Nat} {st kp hi sl sv pd : Nat → Int32} {fs : List Value} {pl at' le fi se : Int32}
theorem mm_record_loop {rc : Int32} : ∀ (k i : Nat) (Q : aQ), i + k = 1855 → (aX (d + 1) iX7_record 11 [some (.ref m), some (.int (nI i))] [] (mT σ m (mF m rc pl at' le fi se) kp (mShift hi i) sl sv pd st) Q ↔ aX (d + 1) iX7_record 40 [some (.ref m), some (.int (nI 1855))] [] (mT σ m (mF m rc pl at' le fi se) kp (mShift hi 1855) sl sv pd st) Q)
  | 0, i, Q, h => by
    have e : i = 1855 := by omega
    subst e
    rw [sX7_record_11]
    simp (disch := omega) only [sX7_record_12, sX7_record_15, sX7_record_18, sX7_record_19, sX7_record_22, sX7_record_23, sX7_record_24, sX7_record_27, sX7_record_28, sX7_record_31, sX7_record_32, sX7_record_33, sX7_record_34, sX7_record_37, mT_0, mT_1, mT_2, mT_3, mT_4, mT_5, mT_6, mT_w0, mT_w1, mT_w2, mT_w3, mT_w4, mT_w5, mT_w6, mF, aFld, aFds, aRow, aRowR, aRefs, aLn, if_true, List.getElem?_cons_zero, List.getElem?_cons_succ, List.set_cons_zero, List.set_cons_succ, List.length_cons, List.length_nil, Option.some.injEq, exists_eq_left', aput_same, aclr_none, aclr_int, aclr_ref, aclr_null, aret_some, aret_none, bz, bz0, bz1, true_and, and_true, vpT, nIc, nI_add, pk_mul, nI_sub', Nat.add_zero, Nat.zero_add, upd_same, upd_ne, if_false, not_true_eq_false, not_false_eq_true, ite_z, ite_o, eq_self, Bool.false_eq_true, nI_leT, nI_leF, nI_ltT, nI_ltF, nI_ne, and_self, false_and, and_false]
  | k + 1, i, Q, h => by
    rw [sX7_record_11]
    have ih := mm_record_loop (rc := rc) k (i + 1) Q (by omega)
    rw [mShift] at ih
    simp only [mT_0, mT_1, mT_2, mT_3, mT_4, mT_5, mT_6, mT_w0, mT_w1, mT_w2, mT_w3, mT_w4, mT_w5, mT_w6, mF] at ih
    simp (disch := omega) only [sX7_record_12, sX7_record_15, sX7_record_18, sX7_record_19, sX7_record_22, sX7_record_23, sX7_record_24, sX7_record_27, sX7_record_28, sX7_record_31, sX7_record_32, sX7_record_33, sX7_record_34, sX7_record_37, mT_0, mT_1, mT_2, mT_3, mT_4, mT_5, mT_6, mT_w0, mT_w1, mT_w2, mT_w3, mT_w4, mT_w5, mT_w6, mF, aFld, aFds, aRow, aRowR, aRefs, aLn, if_true, List.getElem?_cons_zero, List.getElem?_cons_succ, List.set_cons_zero, List.set_cons_succ, List.length_cons, List.length_nil, Option.some.injEq, exists_eq_left', aput_same, aclr_none, aclr_int, aclr_ref, aclr_null, aret_some, aret_none, bz, bz0, bz1, true_and, and_true, vpT, nIc, nI_add, pk_mul, nI_sub', Nat.add_zero, Nat.zero_add, upd_same, upd_ne, if_false, not_true_eq_false, not_false_eq_true, ite_z, ite_o, eq_self, Bool.false_eq_true, nI_leT, nI_leF, nI_ltT, nI_ltF, nI_ne, and_self, false_and, and_false]
    exact ih
theorem mp_record {rc : Nat} (h6 : rc ≤ 6) : aX (d + 1) iX7_record 0 [some (.ref m), none] [] (mT σ m (mF m (nI rc) pl at' le fi se) kp hi sl sv pd st) Q ↔ Q none (mT σ m (mF m (nI (mRecN rc)) pl at' le fi se) kp (mRecH hi st rc) sl sv pd st) := by
  by_cases h : rc = 6
  · subst h
    have ih := mm_record_loop (d := d) (σ := σ) (m := m) (hi := hi) (st := st) (kp := kp) (sl := sl) (sv := sv) (pd := pd) (pl := pl) (at' := at') (le := le) (fi := fi) (se := se) (rc := nI 6) 1855 0 Q rfl
    rw [mShift] at ih
    simp only [mF] at ih
    simp (disch := omega) only [sX7_record_0, sX7_record_1, sX7_record_4, sX7_record_6, sX7_record_9, sX7_record_10, mT_0, mT_1, mT_2, mT_3, mT_4, mT_5, mT_6, mT_w0, mT_w1, mT_w2, mT_w3, mT_w4, mT_w5, mT_w6, mF, aFld, aFds, aRow, aRowR, aRefs, aLn, if_true, List.getElem?_cons_zero, List.getElem?_cons_succ, List.set_cons_zero, List.set_cons_succ, List.length_cons, List.length_nil, Option.some.injEq, exists_eq_left', aput_same, aclr_none, aclr_int, aclr_ref, aclr_null, aret_some, aret_none, bz, bz0, bz1, true_and, and_true, vpT, nIc, nI_add, pk_mul, nI_sub', Nat.add_zero, Nat.zero_add, upd_same, upd_ne, if_false, not_true_eq_false, not_false_eq_true, ite_z, ite_o, eq_self, Bool.false_eq_true, nI_leT, nI_leF, nI_ltT, nI_ltF, nI_ne, and_self, false_and, and_false]
    rw [ih]
    simp (disch := omega) only [sX7_record_40, sX7_record_41, sX7_record_41i, sX7_record_42, sX7_record_45, sX7_record_46, sX7_record_47, sX7_record_50, sX7_record_51, sX7_record_54, sX7_record_55, sX7_record_56, sX7_record_59, sX7_record_60, sX7_record_63, sX7_record_66, sX7_record_67, sX7_record_70, sX7_record_71, sX7_record_71i, sX7_record_72, sX7_record_75, sX7_record_76, sX7_record_77, sX7_record_80, mT_0, mT_1, mT_2, mT_3, mT_4, mT_5, mT_6, mT_w0, mT_w1, mT_w2, mT_w3, mT_w4, mT_w5, mT_w6, mF, aFld, aFds, aRow, aRowR, aRefs, aLn, if_true, List.getElem?_cons_zero, List.getElem?_cons_succ, List.set_cons_zero, List.set_cons_succ, List.length_cons, List.length_nil, Option.some.injEq, exists_eq_left', aput_same, aclr_none, aclr_int, aclr_ref, aclr_null, aret_some, aret_none, bz, bz0, bz1, true_and, and_true, vpT, nIc, nI_add, pk_mul, nI_sub', Nat.add_zero, Nat.zero_add, upd_same, upd_ne, if_false, not_true_eq_false, not_false_eq_true, ite_z, ite_o, eq_self, Bool.false_eq_true, nI_leT, nI_leF, nI_ltT, nI_ltF, nI_ne, and_self, false_and, and_false]
    rw [mm_moves mT_1 mT_3 (by omega) (by omega) (by omega) (by omega)]
    simp (disch := omega) only [sX7_record_40, sX7_record_41, sX7_record_41i, sX7_record_42, sX7_record_45, sX7_record_46, sX7_record_47, sX7_record_50, sX7_record_51, sX7_record_54, sX7_record_55, sX7_record_56, sX7_record_59, sX7_record_60, sX7_record_63, sX7_record_66, sX7_record_67, sX7_record_70, sX7_record_71, sX7_record_71i, sX7_record_72, sX7_record_75, sX7_record_76, sX7_record_77, sX7_record_80, mT_0, mT_1, mT_2, mT_3, mT_4, mT_5, mT_6, mT_w0, mT_w1, mT_w2, mT_w3, mT_w4, mT_w5, mT_w6, mF, aFld, aFds, aRow, aRowR, aRefs, aLn, if_true, List.getElem?_cons_zero, List.getElem?_cons_succ, List.set_cons_zero, List.set_cons_succ, List.length_cons, List.length_nil, Option.some.injEq, exists_eq_left', aput_same, aclr_none, aclr_int, aclr_ref, aclr_null, aret_some, aret_none, bz, bz0, bz1, true_and, and_true, vpT, nIc, nI_add, pk_mul, nI_sub', Nat.add_zero, Nat.zero_add, upd_same, upd_ne, if_false, not_true_eq_false, not_false_eq_true, ite_z, ite_o, eq_self, Bool.false_eq_true, nI_leT, nI_leF, nI_ltT, nI_ltF, nI_ne, and_self, false_and, and_false, Nat.reduceAdd, Nat.reduceSub, Nat.reduceMul, Nat.reduceLT, Nat.reduceLeDiff, true_and, mRecH, mRecN]
  · simp (disch := omega) only [sX7_record_0, sX7_record_1, sX7_record_4, sX7_record_6, sX7_record_9, sX7_record_50, sX7_record_51, sX7_record_54, sX7_record_55, sX7_record_56, sX7_record_59, sX7_record_60, sX7_record_63, sX7_record_66, sX7_record_67, sX7_record_70, sX7_record_71, sX7_record_71i, sX7_record_72, sX7_record_75, sX7_record_76, sX7_record_77, sX7_record_80, mT_0, mT_1, mT_2, mT_3, mT_4, mT_5, mT_6, mT_w0, mT_w1, mT_w2, mT_w3, mT_w4, mT_w5, mT_w6, mF, aFld, aFds, aRow, aRowR, aRefs, aLn, if_true, List.getElem?_cons_zero, List.getElem?_cons_succ, List.set_cons_zero, List.set_cons_succ, List.length_cons, List.length_nil, Option.some.injEq, exists_eq_left', aput_same, aclr_none, aclr_int, aclr_ref, aclr_null, aret_some, aret_none, bz, bz0, bz1, true_and, and_true, vpT, nIc, nI_add, pk_mul, nI_sub', Nat.add_zero, Nat.zero_add, upd_same, upd_ne, if_false, not_true_eq_false, not_false_eq_true, ite_z, ite_o, eq_self, Bool.false_eq_true, nI_leT, nI_leF, nI_ltT, nI_ltF, nI_ne, and_self, false_and, and_false]
    rw [mm_moves mT_1 mT_3 (by omega) (by omega) (by omega) (by omega)]
    simp (disch := omega) only [sX7_record_50, sX7_record_51, sX7_record_54, sX7_record_55, sX7_record_56, sX7_record_59, sX7_record_60, sX7_record_63, sX7_record_66, sX7_record_67, sX7_record_70, sX7_record_71, sX7_record_71i, sX7_record_72, sX7_record_75, sX7_record_76, sX7_record_77, sX7_record_80, mT_0, mT_1, mT_2, mT_3, mT_4, mT_5, mT_6, mT_w0, mT_w1, mT_w2, mT_w3, mT_w4, mT_w5, mT_w6, mF, aFld, aFds, aRow, aRowR, aRefs, aLn, if_true, List.getElem?_cons_zero, List.getElem?_cons_succ, List.set_cons_zero, List.set_cons_succ, List.length_cons, List.length_nil, Option.some.injEq, exists_eq_left', aput_same, aclr_none, aclr_int, aclr_ref, aclr_null, aret_some, aret_none, bz, bz0, bz1, true_and, and_true, vpT, nIc, nI_add, pk_mul, nI_sub', Nat.add_zero, Nat.zero_add, upd_same, upd_ne, if_false, not_true_eq_false, not_false_eq_true, ite_z, ite_o, eq_self, Bool.false_eq_true, nI_leT, nI_leF, nI_ltT, nI_ltF, nI_ne, and_self, false_and, and_false, Nat.reduceAdd, Nat.reduceSub, Nat.reduceMul, Nat.reduceLT, Nat.reduceLeDiff, true_and, mRecH, mRecN, h]
end MA
