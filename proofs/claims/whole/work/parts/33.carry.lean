/-! THE REFERENCE: orders carried out -/
theorem rd_ind (k : Nat → Nat) (p : Nat) (fi se fi' se' : Int32) : rOk (rd k p fi se) = rOk (rd k p fi' se') ∧ rPos (rd k p fi se) = rPos (rd k p fi' se') ∧ rLe (rd k p fi se) = rLe (rd k p fi' se') := by
  unfold rd
  split
  · split
    · split
      · split <;> exact ⟨rfl, rfl, rfl⟩
      · exact ⟨rfl, rfl, rfl⟩
    · exact ⟨rfl, rfl, rfl⟩
  · split
    · split <;> exact ⟨rfl, rfl, rfl⟩
    · split
      · split
        · split
          · split <;> exact ⟨rfl, rfl, rfl⟩
          · exact ⟨rfl, rfl, rfl⟩
        · exact ⟨rfl, rfl, rfl⟩
      · split
        · exact ⟨rfl, rfl, rfl⟩
        · split
          · split <;> exact ⟨rfl, rfl, rfl⟩
          · split
            · split
              · split
                · split <;> exact ⟨rfl, rfl, rfl⟩
                · exact ⟨rfl, rfl, rfl⟩
              · exact ⟨rfl, rfl, rfl⟩
            · exact ⟨rfl, rfl, rfl⟩
theorem fF_ind (k : Nat → Nat) (L : Nat) : ∀ f p fi se fi' se', fF k L f p fi se = fF k L f p fi' se'
  | 0, _, _, _, _, _ => rfl
  | f + 1, p, fi, se, fi', se' => by
    obtain ⟨h1, h2, -⟩ := rd_ind k p fi se fi' se'
    rw [fF, fF, h1, h2, fF_ind k L f _ _ _ (rFi (rd k p fi' se')) (rSe (rd k p fi' se'))]
def oWhy (st : Nat → Int32) (c : Nat) (le fi se : Int32) : Int32 :=
  if le = nI 43 then mWSat fi se
  else if le = nI 45 then mWLeft st fi
  else if le = nI 98 then mWBeg st fi se c
  else if le = nI 116 then (if nI 0 ≤ fi ∧ fi ≤ nI c - nI 1 then mWTell st fi.toNatClampNeg (st (35 + 28 * fi.toNatClampNeg + 1)).toNatClampNeg se else -1)
  else nI 0
def oDo (st : Nat → Int32) (c : Nat) (le fi se : Int32) : Nat → Int32 :=
  if le = nI 43 then mSat st fi.toNatClampNeg se
  else if le = nI 45 then mLeft st fi.toNatClampNeg
  else if le = nI 98 then mBeg st c fi.toNatClampNeg se.toNatClampNeg
  else if le = nI 114 then mRnds st c fi.toNatClampNeg
  else if le = nI 116 then upd st (35 + 28 * fi.toNatClampNeg + 3) se
  else mClear st c
def oLe (le fi : Int32) : Prop := le = nI 43 ∨ le = nI 45 ∨ le = nI 98 ∨ le = nI 99 ∨ (le = nI 114 ∧ ∃ r, r ≤ 9 ∧ fi = nI r) ∨ le = nI 116
theorem rd_letter (k : Nat → Nat) (p : Nat) (fi se : Int32) (h : rOk (rd k p fi se) = true) : oLe (rLe (rd k p fi se)) (rFi (rd k p fi se)) := by
  revert h
  unfold rd oLe
  have hr : ∀ {o : Bool} {ps : Nat} {a b c : Int32}, rOk (mkO o ps a b c) = o ∧ rLe (mkO o ps a b c) = a ∧ rFi (mkO o ps a b c) = b := fun {_ _ _ _ _} => ⟨rfl, rfl, rfl⟩
  split
  · intro _
    left
    split
    · split
      · split <;> rfl
      · rfl
    · rfl
  · split
    · intro _
      right; left
      split <;> rfl
    · split
      · intro _
        right; right; left
        split
        · split
          · split <;> rfl
          · rfl
        · rfl
      · split
        · intro _
          right; right; right; left; rfl
        · split
          · intro _
            right; right; right; right; left
            split
            · rename_i h1 h2
              have hg := dg_le h2
              exact ⟨rfl, k (p + 1) - 48, by omega, rfl⟩
            · exact ⟨rfl, 1, by omega, rfl⟩
          · split
            · intro _
              right; right; right; right; right
              split
              · split
                · split <;> rfl
                · rfl
              · rfl
            · intro h
              rw [hr.1] at h
              exact absurd h (by decide)
theorem mWSat_0 {s f : Int32} (h : mWSat s f = nI 0) : ∃ j, j ≤ 7 ∧ s = nI j := by
  rcases inR_split 0 7 s (by decide) rfl with e | e
  · exact e
  · unfold mWSat at h
    rw [if_neg (of_eq_false e)] at h
    exact absurd h (by decide)
theorem mWLeft_0 {st : Nat → Int32} {s : Int32} (h : mWLeft st s = nI 0) : ∃ j, j ≤ 7 ∧ s = nI j := by
  rcases inR_split 0 7 s (by decide) rfl with e | e
  · exact e
  · unfold mWLeft at h
    rw [if_neg (of_eq_false e)] at h
    exact absurd h (by decide)
theorem mWBeg_0 {st : Nat → Int32} {s w : Int32} {c : Nat} (h : mWBeg st s w c = nI 0) : ∃ j v, j ≤ 7 ∧ s = nI j ∧ v ≤ 15 ∧ w = nI v ∧ c ≠ 12 ∧ mTk st s = true ∧ mAlbOf st s c = -6 := by
  unfold mWBeg at h
  rcases inR_split 0 7 s (by decide) rfl with ⟨j, hj, e⟩ | e
  · rcases inR_split 0 15 w (by decide) rfl with ⟨v, hv, e2⟩ | e2
    · rw [if_pos ⟨by rw [e]; exact of_eq_true (inR_T hj (by decide)), by rw [e2]; exact of_eq_true (inR_T hv (by decide))⟩] at h
      by_cases g : c = 12
      · rw [if_pos g] at h; exact absurd h (by decide)
      · rw [if_neg g] at h
        by_cases g2 : mTk st s = true ∧ mAlbOf st s c = -6
        · exact ⟨j, v, hj, e, hv, e2, g, g2.1, g2.2⟩
        · rw [if_neg g2] at h; exact absurd h (by decide)
    · rw [if_neg (fun z => of_eq_false e2 z.2)] at h; exact absurd h (by decide)
  · rw [if_neg (fun z => of_eq_false e z.1)] at h; exact absurd h (by decide)
theorem oWhy_tell {st : Nat → Int32} {c : Nat} {fi se : Int32} (h12 : c ≤ 12) (h : oWhy st c (nI 116) fi se = nI 0) : ∃ a, a < c ∧ fi = nI a ∧ mWTell st a (st (35 + 28 * a + 1)).toNatClampNeg se = nI 0 := by
  unfold oWhy at h
  rw [if_neg (by decide), if_neg (by decide), if_neg (by decide), if_pos rfl] at h
  rcases isA_split c h12 fi with ⟨a, ha, e⟩ | e
  · subst e
    rw [if_pos (of_eq_true (isA_T ha h12)), nIc (by omega)] at h
    exact ⟨a, ha, rfl, h⟩
  · rw [if_neg (of_eq_false e)] at h; exact absurd h (by decide)
theorem mOK_n {st : Nat → Int32} {a c : Nat} (hok : mOK st) (hc : st 34 = nI c) (h12 : c ≤ 12) (ha : a < c) : ∃ n, st (35 + 28 * a + 1) = nI n ∧ 1 ≤ n ∧ n ≤ 8 := by
  obtain ⟨he, c', hc', h12', hb⟩ := hok
  have hcc : c' = c := nI_inj (by omega) (by omega) (hc'.symm.trans hc)
  subst hcc
  obtain ⟨n, h1, h2, h3, -⟩ := hb a ha
  exact ⟨n, h1, h2, h3⟩
theorem oDo_ok {st : Nat → Int32} {c : Nat} {le fi se : Int32} (hok : mOK st) (hc : st 34 = nI c) (h12 : c ≤ 12) (hw : oWhy st c le fi se = nI 0) (hle : oLe le fi) : mOK (oDo st c le fi se) := by
  rcases hle with e | e | e | e | ⟨e, r, hr, e2⟩ | e <;> subst e
  · have hw' : mWSat fi se = nI 0 := hw
    obtain ⟨j, hj, e⟩ := mWSat_0 hw'
    subst e
    show mOK (mSat st (nI j).toNatClampNeg se)
    rw [nIc (by omega)]
    exact mSat_ok hok hj hw'
  · have hw' : mWLeft st fi = nI 0 := hw
    obtain ⟨j, hj, e⟩ := mWLeft_0 hw'
    subst e
    show mOK (mLeft st (nI j).toNatClampNeg)
    rw [nIc (by omega)]
    exact mLeft_ok hok hj
  · have hw' : mWBeg st fi se c = nI 0 := hw
    obtain ⟨j, v, hj, e, hv, e2, h3, -⟩ := mWBeg_0 hw'
    subst e e2
    show mOK (mBeg st c (nI j).toNatClampNeg (nI v).toNatClampNeg)
    rw [nIc (by omega), nIc (by omega)]
    obtain ⟨he, c', hc', h12', hb⟩ := hok
    have hcc : c' = c := nI_inj (by omega) (by omega) (hc'.symm.trans hc)
    subst hcc
    exact mBeg_ok he hb (by omega) (by omega) (by omega)
  · exact mClear_ok hok hc h12
  · subst e2
    show mOK (mRnds st c (nI r).toNatClampNeg)
    exact (mRnds_ok hok hc _).1
  · obtain ⟨a, ha, e, h⟩ := oWhy_tell h12 hw
    subst e
    show mOK (upd st (35 + 28 * (nI a).toNatClampNeg + 3) se)
    rw [nIc (by omega)]
    obtain ⟨n, h1, h2, h3⟩ := mOK_n hok hc h12 ha
    rw [h1, nIc (by omega)] at h
    exact mTells_ok hok hc h12 ha h1 h3 h
section MD
variable {d : Nat} {σ : aS} {Q : aQ} {m c : Nat} {st kp hi sl sv pd : Nat → Int32} {rc' pl at' le fi se : Int32}
theorem mp_why (hok : mOK st) (hc : st 34 = nI c) (h12 : c ≤ 12) (hle : oLe le fi) : aX (d + 4) iX7_whyNotDone 0 [some (.ref m)] [] (mT σ m (mF m rc' pl at' le fi se) kp hi sl sv pd st) Q ↔ Q (some (.int (oWhy st c le fi se))) (mT σ m (mF m rc' pl at' le fi se) kp hi sl sv pd st) := by
  rcases hle with e | e | e | e | ⟨e, r, hr, e2⟩ | e <;> subst e
  · simp (disch := omega) only [sX7_whyNotDone_0, sX7_whyNotDone_1, sX7_whyNotDone_4_43, sX7_whyNotDone_48, sX7_whyNotDone_49, sX7_whyNotDone_50, sX7_whyNotDone_53, sX7_whyNotDone_54, sX7_whyNotDone_57, sX7_whyNotDone_60, oWhy, aIsT mT_0, mp_whySat, mT_0, mT_w0, mF_l, mF_g6, mF_g7, mF_g8, mF_g9, mF_g10, mF_s6, mF_s7, mF_s8, mF_s9, mF_s10, aFld, aFds, aRow, aRowR, aRefs, aLn, if_true, List.getElem?_cons_zero, List.getElem?_cons_succ, List.set_cons_zero, List.set_cons_succ, List.length_cons, List.length_nil, Option.some.injEq, exists_eq_left', aput_same, aclr_none, aclr_int, aclr_ref, aclr_null, aret_some, aret_none, bz, bz0, bz1, true_and, and_true, vpT, nIc, nI_add, pk_mul, nI_sub', Nat.add_zero, Nat.zero_add, upd_same, upd_ne, if_false, not_true_eq_false, not_false_eq_true, ite_z, ite_o, eq_self, Bool.false_eq_true, nI_leT, nI_leF, nI_ltT, nI_ltF, nI_ne, and_self, false_and, and_false, Nat.reduceAdd, Nat.reduceSub, Nat.reduceMul, Nat.reduceLT, Nat.reduceLeDiff, true_and]
  · simp (disch := omega) only [sX7_whyNotDone_0, sX7_whyNotDone_1, sX7_whyNotDone_4_45, sX7_whyNotDone_61, sX7_whyNotDone_62, sX7_whyNotDone_63, sX7_whyNotDone_66, sX7_whyNotDone_69, oWhy, aIsT mT_0, mp_whyLeft mU_0, mT_0, mT_w0, mF_l, mF_g6, mF_g7, mF_g8, mF_g9, mF_g10, mF_s6, mF_s7, mF_s8, mF_s9, mF_s10, aFld, aFds, aRow, aRowR, aRefs, aLn, if_true, List.getElem?_cons_zero, List.getElem?_cons_succ, List.set_cons_zero, List.set_cons_succ, List.length_cons, List.length_nil, Option.some.injEq, exists_eq_left', aput_same, aclr_none, aclr_int, aclr_ref, aclr_null, aret_some, aret_none, bz, bz0, bz1, true_and, and_true, vpT, nIc, nI_add, pk_mul, nI_sub', Nat.add_zero, Nat.zero_add, upd_same, upd_ne, if_false, not_true_eq_false, not_false_eq_true, ite_z, ite_o, eq_self, Bool.false_eq_true, nI_leT, nI_leF, nI_ltT, nI_ltF, nI_ne, and_self, false_and, and_false, Nat.reduceAdd, Nat.reduceSub, Nat.reduceMul, Nat.reduceLT, Nat.reduceLeDiff, true_and]
  · simp (disch := omega) only [sX7_whyNotDone_0, sX7_whyNotDone_1, sX7_whyNotDone_4_98, sX7_whyNotDone_70, sX7_whyNotDone_71, sX7_whyNotDone_72, sX7_whyNotDone_75, sX7_whyNotDone_76, sX7_whyNotDone_79, sX7_whyNotDone_82, oWhy, aIsT mT_0, mp_whyBeg mU_0 hc h12, mT_0, mT_w0, mF_l, mF_g6, mF_g7, mF_g8, mF_g9, mF_g10, mF_s6, mF_s7, mF_s8, mF_s9, mF_s10, aFld, aFds, aRow, aRowR, aRefs, aLn, if_true, List.getElem?_cons_zero, List.getElem?_cons_succ, List.set_cons_zero, List.set_cons_succ, List.length_cons, List.length_nil, Option.some.injEq, exists_eq_left', aput_same, aclr_none, aclr_int, aclr_ref, aclr_null, aret_some, aret_none, bz, bz0, bz1, true_and, and_true, vpT, nIc, nI_add, pk_mul, nI_sub', Nat.add_zero, Nat.zero_add, upd_same, upd_ne, if_false, not_true_eq_false, not_false_eq_true, ite_z, ite_o, eq_self, Bool.false_eq_true, nI_leT, nI_leF, nI_ltT, nI_ltF, nI_ne, and_self, false_and, and_false, Nat.reduceAdd, Nat.reduceSub, Nat.reduceMul, Nat.reduceLT, Nat.reduceLeDiff, true_and]
  · simp (disch := omega) only [sX7_whyNotDone_0, sX7_whyNotDone_1, sX7_whyNotDone_4_d (show ¬ nI 99 = nI 43 by decide) (show ¬ nI 99 = nI 45 by decide) (show ¬ nI 99 = nI 98 by decide) (show ¬ nI 99 = nI 116 by decide), sX7_whyNotDone_96, sX7_whyNotDone_97, oWhy, mT_0, mT_w0, mF_l, mF_g6, mF_g7, mF_g8, mF_g9, mF_g10, mF_s6, mF_s7, mF_s8, mF_s9, mF_s10, aFld, aFds, aRow, aRowR, aRefs, aLn, if_true, List.getElem?_cons_zero, List.getElem?_cons_succ, List.set_cons_zero, List.set_cons_succ, List.length_cons, List.length_nil, Option.some.injEq, exists_eq_left', aput_same, aclr_none, aclr_int, aclr_ref, aclr_null, aret_some, aret_none, bz, bz0, bz1, true_and, and_true, vpT, nIc, nI_add, pk_mul, nI_sub', Nat.add_zero, Nat.zero_add, upd_same, upd_ne, if_false, not_true_eq_false, not_false_eq_true, ite_z, ite_o, eq_self, Bool.false_eq_true, nI_leT, nI_leF, nI_ltT, nI_ltF, nI_ne, and_self, false_and, and_false, Nat.reduceAdd, Nat.reduceSub, Nat.reduceMul, Nat.reduceLT, Nat.reduceLeDiff, true_and]
  · simp (disch := omega) only [sX7_whyNotDone_0, sX7_whyNotDone_1, sX7_whyNotDone_4_d (show ¬ nI 114 = nI 43 by decide) (show ¬ nI 114 = nI 45 by decide) (show ¬ nI 114 = nI 98 by decide) (show ¬ nI 114 = nI 116 by decide), sX7_whyNotDone_96, sX7_whyNotDone_97, oWhy, mT_0, mT_w0, mF_l, mF_g6, mF_g7, mF_g8, mF_g9, mF_g10, mF_s6, mF_s7, mF_s8, mF_s9, mF_s10, aFld, aFds, aRow, aRowR, aRefs, aLn, if_true, List.getElem?_cons_zero, List.getElem?_cons_succ, List.set_cons_zero, List.set_cons_succ, List.length_cons, List.length_nil, Option.some.injEq, exists_eq_left', aput_same, aclr_none, aclr_int, aclr_ref, aclr_null, aret_some, aret_none, bz, bz0, bz1, true_and, and_true, vpT, nIc, nI_add, pk_mul, nI_sub', Nat.add_zero, Nat.zero_add, upd_same, upd_ne, if_false, not_true_eq_false, not_false_eq_true, ite_z, ite_o, eq_self, Bool.false_eq_true, nI_leT, nI_leF, nI_ltT, nI_ltF, nI_ne, and_self, false_and, and_false, Nat.reduceAdd, Nat.reduceSub, Nat.reduceMul, Nat.reduceLT, Nat.reduceLeDiff, true_and]
  · rcases isA_split c h12 fi with ⟨a, ha, e⟩ | e
    · subst e
      obtain ⟨n, h1, h2, h3⟩ := mOK_n hok hc h12 ha
      simp (disch := omega) only [sX7_whyNotDone_0, sX7_whyNotDone_1, sX7_whyNotDone_4_116, sX7_whyNotDone_83, sX7_whyNotDone_84, sX7_whyNotDone_85, sX7_whyNotDone_88, sX7_whyNotDone_89, sX7_whyNotDone_92, sX7_whyNotDone_95, oWhy, isA_T ha h12, h1, aIsT mT_0, mp_whyTellT mU_0 hc h12 ha h1 h3, mT_0, mT_w0, mF_l, mF_g6, mF_g7, mF_g8, mF_g9, mF_g10, mF_s6, mF_s7, mF_s8, mF_s9, mF_s10, aFld, aFds, aRow, aRowR, aRefs, aLn, if_true, List.getElem?_cons_zero, List.getElem?_cons_succ, List.set_cons_zero, List.set_cons_succ, List.length_cons, List.length_nil, Option.some.injEq, exists_eq_left', aput_same, aclr_none, aclr_int, aclr_ref, aclr_null, aret_some, aret_none, bz, bz0, bz1, true_and, and_true, vpT, nIc, nI_add, pk_mul, nI_sub', Nat.add_zero, Nat.zero_add, upd_same, upd_ne, if_false, not_true_eq_false, not_false_eq_true, ite_z, ite_o, eq_self, Bool.false_eq_true, nI_leT, nI_leF, nI_ltT, nI_ltF, nI_ne, and_self, false_and, and_false, Nat.reduceAdd, Nat.reduceSub, Nat.reduceMul, Nat.reduceLT, Nat.reduceLeDiff, true_and]
    · simp (disch := omega) only [sX7_whyNotDone_0, sX7_whyNotDone_1, sX7_whyNotDone_4_116, sX7_whyNotDone_83, sX7_whyNotDone_84, sX7_whyNotDone_85, sX7_whyNotDone_88, sX7_whyNotDone_89, sX7_whyNotDone_92, sX7_whyNotDone_95, oWhy, e, aIsT mT_0, mp_whyTellF mU_0 hc e, mT_0, mT_w0, mF_l, mF_g6, mF_g7, mF_g8, mF_g9, mF_g10, mF_s6, mF_s7, mF_s8, mF_s9, mF_s10, aFld, aFds, aRow, aRowR, aRefs, aLn, if_true, List.getElem?_cons_zero, List.getElem?_cons_succ, List.set_cons_zero, List.set_cons_succ, List.length_cons, List.length_nil, Option.some.injEq, exists_eq_left', aput_same, aclr_none, aclr_int, aclr_ref, aclr_null, aret_some, aret_none, bz, bz0, bz1, true_and, and_true, vpT, nIc, nI_add, pk_mul, nI_sub', Nat.add_zero, Nat.zero_add, upd_same, upd_ne, if_false, not_true_eq_false, not_false_eq_true, ite_z, ite_o, eq_self, Bool.false_eq_true, nI_leT, nI_leF, nI_ltT, nI_ltF, nI_ne, and_self, false_and, and_false, Nat.reduceAdd, Nat.reduceSub, Nat.reduceMul, Nat.reduceLT, Nat.reduceLeDiff, true_and]
end MD
