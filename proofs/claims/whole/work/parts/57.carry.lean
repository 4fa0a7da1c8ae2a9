/-! THE CLASS: orders carried out -/
theorem mBits_pos {st : Nat → Int32} : ∀ v, v < 256 → nI 0 ≤ mBits (nI v) 12 := by decide +kernel
theorem mBits_or {st : Nat → Int32} (hE : eOK st) {s : Nat} (hs : s ≤ 7) : nI 0 ≤ mBits (st 16 ||| nI 1 <<< (nI s &&& 31)) 12 := by
  obtain ⟨x, hx, hx2⟩ := hE.2.1
  obtain ⟨y, hy, hy2⟩ := or_256 x hx2 s (by omega)
  rw [hx, hy]
  exact mBits_pos (st := st) y hy2
theorem mBits_an {st : Nat → Int32} (hE : eOK st) {s : Nat} (hs : s ≤ 7) : nI 0 ≤ mBits (st 16 &&& (nI 1 <<< (nI s &&& 31) ^^^ -1)) 12 := by
  obtain ⟨x, hx, hx2⟩ := hE.2.1
  obtain ⟨y, hy, hy2⟩ := an_256 x hx2 s (by omega)
  rw [hx, hy]
  exact mBits_pos (st := st) y hy2
theorem nI_nn {n : Nat} (h : n < 2147483648) : nI 0 ≤ nI n := of_eq_true (nI_leT (by omega) h)
theorem oDo_K {st : Nat → Int32} {c : Nat} {le fi se : Int32} (hK : mK st) (hc : st 34 = nI c) (h12 : c ≤ 12) (hw : oWhy st c le fi se = nI 0) (hle : oLe le fi) : mK (oDo st c le fi se) := by
  rcases hle with e | e | e | e | ⟨e, r, hr, e2⟩ | e <;> subst e
  · have hw' : mWSat fi se = nI 0 := hw
    obtain ⟨j, hj, e⟩ := mWSat_0 hw'
    subst e
    show mK (mSat st (nI j).toNatClampNeg se)
    rw [nIc (by omega)]
    exact mSat_K hK hj hw'
  · have hw' : mWLeft st fi = nI 0 := hw
    obtain ⟨j, hj, e⟩ := mWLeft_0 hw'
    subst e
    show mK (mLeft st (nI j).toNatClampNeg)
    rw [nIc (by omega)]
    exact mLeft_K hK hj
  · have hw' : mWBeg st fi se c = nI 0 := hw
    obtain ⟨j, v, hj, e, hv, e2, h3, -⟩ := mWBeg_0 hw'
    subst e e2
    show mK (mBeg st c (nI j).toNatClampNeg (nI v).toNatClampNeg)
    rw [nIc (by omega), nIc (by omega)]
    exact mBeg_K hK hc (by omega) hj hv hw'
  · exact mClear_K hK hc h12
  · subst e2
    show mK (mRnds st c (nI r).toNatClampNeg)
    exact mRnds_K hK hc h12 _
  · obtain ⟨a, ha, e, h⟩ := oWhy_tell h12 hw
    subst e
    show mK (upd st (35 + 28 * (nI a).toNatClampNeg + 3) se)
    rw [nIc (by omega)]
    obtain ⟨n, h1, h2, h3⟩ := mOK_n hK.1 hc h12 ha
    rw [h1, nIc (by omega)] at h
    exact mTells_K hK hc h12 ha h1 h3 h
theorem oWhy_eq {st : Nat → Int32} {c : Nat} {le fi se fi' se' : Int32} (h : oEq le fi se fi' se') : oWhy st c le fi se = oWhy st c le fi' se' := by
  unfold oWhy
  by_cases g1 : le = nI 43
  · obtain ⟨e1, e2⟩ := h.2 (Or.inl g1)
    rw [if_pos g1, if_pos g1, e1, e2]
  · rw [if_neg g1, if_neg g1]
    by_cases g2 : le = nI 45
    · rw [if_pos g2, if_pos g2, h.1 (Or.inl g2)]
    · rw [if_neg g2, if_neg g2]
      by_cases g3 : le = nI 98
      · obtain ⟨e1, e2⟩ := h.2 (Or.inr (Or.inl g3))
        rw [if_pos g3, if_pos g3, e1, e2]
      · rw [if_neg g3, if_neg g3]
        by_cases g4 : le = nI 116
        · obtain ⟨e1, e2⟩ := h.2 (Or.inr (Or.inr g4))
          rw [if_pos g4, if_pos g4, e1, e2]
        · rw [if_neg g4, if_neg g4]
theorem oDo_eq {st : Nat → Int32} {c : Nat} {le fi se fi' se' : Int32} (h : oEq le fi se fi' se') : oDo st c le fi se = oDo st c le fi' se' := by
  unfold oDo
  by_cases g1 : le = nI 43
  · obtain ⟨e1, e2⟩ := h.2 (Or.inl g1)
    rw [if_pos g1, if_pos g1, e1, e2]
  · rw [if_neg g1, if_neg g1]
    by_cases g2 : le = nI 45
    · rw [if_pos g2, if_pos g2, h.1 (Or.inl g2)]
    · rw [if_neg g2, if_neg g2]
      by_cases g3 : le = nI 98
      · obtain ⟨e1, e2⟩ := h.2 (Or.inr (Or.inl g3))
        rw [if_pos g3, if_pos g3, e1, e2]
      · rw [if_neg g3, if_neg g3]
        by_cases g5 : le = nI 114
        · rw [if_pos g5, if_pos g5, h.1 (Or.inr g5)]
        · rw [if_neg g5, if_neg g5]
          by_cases g4 : le = nI 116
          · obtain ⟨e1, e2⟩ := h.2 (Or.inr (Or.inr g4))
            rw [if_pos g4, if_pos g4, e1, e2]
          · rw [if_neg g4, if_neg g4]
theorem oLe_eq {le fi se fi' se' : Int32} (h : oEq le fi se fi' se') (hl : oLe le fi') : oLe le fi := by
  rcases hl with e | e | e | e | ⟨e, r, hr, e2⟩ | e
  · exact Or.inl e
  · exact Or.inr (Or.inl e)
  · exact Or.inr (Or.inr (Or.inl e))
  · exact Or.inr (Or.inr (Or.inr (Or.inl e)))
  · exact Or.inr (Or.inr (Or.inr (Or.inr (Or.inl ⟨e, r, hr, (h.1 (Or.inr e)).trans e2⟩))))
  · exact Or.inr (Or.inr (Or.inr (Or.inr (Or.inr e))))
section CO1
variable {d : Nat} {σ : aS} {Q : aQ} {x c L : Nat} {st sg : Nat → Int32} {po ki fi se : Int32}
theorem co_rnds_loop (hc : ∀ k, mRnds st c k 34 = nI c) (h12 : c ≤ 12) {r : Nat} (hr : r ≤ 9) : ∀ (k i : Nat) (σ : aS), i + k = r → σ.1 x = some (xO x) → TabR σ (x + 1) (mRnds st c i) → (∀ i, mOK (mRnds st c i)) → PaC σ (x + 337) L sg po ki (nI r) se → (∀ σ', TabR σ' (x + 1) (mRnds st c r) → Fr σ σ' (x + 1) 41 → Q (some (.int (nI 0))) σ') → aX (d + 5) iX6_carryOutOrder 139 [some (.ref x), some (.int (nI i))] [] σ Q
  | 0, i, σ, h, hx, hT, hok, hp, K => by
    have e : i = r := by omega
    subst e
    have hw0 := hp.1
    have := K σ hT (Fr_refl _ _ _)
    rw [sX6_carryOutOrder_139]
    simp (disch := omega) only [sX6_carryOutOrder_140, sX6_carryOutOrder_141, sX6_carryOutOrder_144, sX6_carryOutOrder_147, sX6_carryOutOrder_150, sX6_carryOutOrder_151, sX6_carryOutOrder_153, sX6_carryOutOrder_156, sX6_carryOutOrder_157, sX6_carryOutOrder_160, sX6_carryOutOrder_163, sX6_carryOutOrder_163i, sX6_carryOutOrder_164, sX6_carryOutOrder_167, sX6_carryOutOrder_170, sX6_carryOutOrder_171, hx, hw0, qF_g3, cF_l, cF_g0, cF_g1, cF_g2, cF_g3, cF_g4, cF_g5, tF_l, tF_g0, tF_g1, tF_g2, tF_g3, tF_g4, tF_g5, tF_s3, tF_s4, tF_s5, aFld, aFds, aRow, aRowR, aRefs, aLn, if_true, List.getElem?_cons_zero, List.getElem?_cons_succ, List.set_cons_zero, List.set_cons_succ, List.length_cons, List.length_nil, Option.some.injEq, exists_eq_left', aput_same, aclr_none, aclr_int, aclr_ref, aclr_null, aret_some, aret_none, bz, bz0, bz1, true_and, and_true, vpT, nIc, nI_add, pk_mul, nI_sub', Nat.add_zero, Nat.zero_add, upd_same, upd_ne, if_false, not_true_eq_false, not_false_eq_true, ite_z, ite_o, eq_self, Bool.false_eq_true, nI_leT, nI_leF, nI_ltT, nI_ltF, nI_ne, and_self, false_and, and_false, Nat.reduceAdd, Nat.reduceSub, Nat.reduceMul, Nat.reduceLT, Nat.reduceLeDiff, true_and]
    exact this
  | k + 1, i, σ, h, hx, hT, hok, hp, K => by
    have ih := co_rnds_loop hc h12 hr k (i + 1)
    have hw0 := hp.1
    rw [sX6_carryOutOrder_139]
    simp (disch := omega) only [sX6_carryOutOrder_140, sX6_carryOutOrder_141, sX6_carryOutOrder_144, sX6_carryOutOrder_147, sX6_carryOutOrder_150, sX6_carryOutOrder_151, sX6_carryOutOrder_153, sX6_carryOutOrder_156, sX6_carryOutOrder_157, sX6_carryOutOrder_160, hx, hw0, qF_g3, aIsT hT.1, cF_l, cF_g0, cF_g1, cF_g2, cF_g3, cF_g4, cF_g5, tF_l, tF_g0, tF_g1, tF_g2, tF_g3, tF_g4, tF_g5, tF_s3, tF_s4, tF_s5, aFld, aFds, aRow, aRowR, aRefs, aLn, if_true, List.getElem?_cons_zero, List.getElem?_cons_succ, List.set_cons_zero, List.set_cons_succ, List.length_cons, List.length_nil, Option.some.injEq, exists_eq_left', aput_same, aclr_none, aclr_int, aclr_ref, aclr_null, aret_some, aret_none, bz, bz0, bz1, true_and, and_true, vpT, nIc, nI_add, pk_mul, nI_sub', Nat.add_zero, Nat.zero_add, upd_same, upd_ne, if_false, not_true_eq_false, not_false_eq_true, ite_z, ite_o, eq_self, Bool.false_eq_true, nI_leT, nI_leF, nI_ltT, nI_ltF, nI_ne, and_self, false_and, and_false, Nat.reduceAdd, Nat.reduceSub, Nat.reduceMul, Nat.reduceLT, Nat.reduceLeDiff, true_and]
    refine cv_makeRound (hok i) (hc i) h12 hT (fun σ' hT' hF => ?_)
    simp (disch := omega) only [sX6_carryOutOrder_163, sX6_carryOutOrder_163i, sX6_carryOutOrder_164, sX6_carryOutOrder_167, cF_l, cF_g0, cF_g1, cF_g2, cF_g3, cF_g4, cF_g5, tF_l, tF_g0, tF_g1, tF_g2, tF_g3, tF_g4, tF_g5, tF_s3, tF_s4, tF_s5, aFld, aFds, aRow, aRowR, aRefs, aLn, if_true, List.getElem?_cons_zero, List.getElem?_cons_succ, List.set_cons_zero, List.set_cons_succ, List.length_cons, List.length_nil, Option.some.injEq, exists_eq_left', aput_same, aclr_none, aclr_int, aclr_ref, aclr_null, aret_some, aret_none, bz, bz0, bz1, true_and, and_true, vpT, nIc, nI_add, pk_mul, nI_sub', Nat.add_zero, Nat.zero_add, upd_same, upd_ne, if_false, not_true_eq_false, not_false_eq_true, ite_z, ite_o, eq_self, Bool.false_eq_true, nI_leT, nI_leF, nI_ltT, nI_ltF, nI_ne, and_self, false_and, and_false, Nat.reduceAdd, Nat.reduceSub, Nat.reduceMul, Nat.reduceLT, Nat.reduceLeDiff, true_and]
    exact ih σ' (by omega) ((hF.1 _ (by omega)).trans hx) hT' hok ⟨(hF.1 _ (by omega)).trans hp.1, (hF.1 _ (by omega)).trans hp.2⟩ (fun σ2 hT2 hF2 => K σ2 hT2 (Fr_trans hF hF2))
/-- an order that can be carried out -/
theorem co_do (hx : σ.1 x = some (xO x)) (hT : TabR σ (x + 1) st) (hK : mK st) (hc : st 34 = nI c) (h12 : c ≤ 12) (hp : PaC σ (x + 337) L sg po ki fi se) (hle : oLe ki fi) (hw : oWhy st c ki fi se = nI 0) (K : ∀ σ' v, nI 0 ≤ v → TabR σ' (x + 1) (oDo st c ki fi se) → Fr σ σ' (x + 1) 41 → Q (some (.int v)) σ') : aX (d + 5) iX6_carryOutOrder 0 [some (.ref x), none] [] σ Q := by
  have hw0 := hp.1
  have hok := hK.1
  have hu := mK_u hK hc h12
  rcases hle with e | e | e | e | ⟨e, r, hr, e2⟩ | e <;> subst e
  · have hw' : mWSat fi se = nI 0 := hw
    obtain ⟨j, hj, e⟩ := mWSat_0 hw'
    subst e
    have hD : oDo st c (nI 43) (nI j) se = mSat st j se := by show mSat st (nI j).toNatClampNeg se = _; rw [nIc (by omega)]
    rw [hD] at K
    simp (disch := omega) only [sX6_carryOutOrder_0, sX6_carryOutOrder_1, sX6_carryOutOrder_4, sX6_carryOutOrder_7_43, sX6_carryOutOrder_56, sX6_carryOutOrder_57, sX6_carryOutOrder_60, sX6_carryOutOrder_61, sX6_carryOutOrder_64, sX6_carryOutOrder_67, sX6_carryOutOrder_68, sX6_carryOutOrder_71, sX6_carryOutOrder_74, hx, hw0, qF_g2, qF_g3, qF_g4, aIsT hT.1, cF_l, cF_g0, cF_g1, cF_g2, cF_g3, cF_g4, cF_g5, tF_l, tF_g0, tF_g1, tF_g2, tF_g3, tF_g4, tF_g5, tF_s3, tF_s4, tF_s5, aFld, aFds, aRow, aRowR, aRefs, aLn, if_true, List.getElem?_cons_zero, List.getElem?_cons_succ, List.set_cons_zero, List.set_cons_succ, List.length_cons, List.length_nil, Option.some.injEq, exists_eq_left', aput_same, aclr_none, aclr_int, aclr_ref, aclr_null, aret_some, aret_none, bz, bz0, bz1, true_and, and_true, vpT, nIc, nI_add, pk_mul, nI_sub', Nat.add_zero, Nat.zero_add, upd_same, upd_ne, if_false, not_true_eq_false, not_false_eq_true, ite_z, ite_o, eq_self, Bool.false_eq_true, nI_leT, nI_leF, nI_ltT, nI_ltF, nI_ne, and_self, false_and, and_false, Nat.reduceAdd, Nat.reduceSub, Nat.reduceMul, Nat.reduceLT, Nat.reduceLeDiff, true_and]
    refine cv_sit hT hok.1 hj hw' (fun σ' hT' hF => ?_)
    have := K σ' _ (mBits_or hok.1 hj) hT' hF
    simp (disch := omega) only [sX6_carryOutOrder_77, cF_l, cF_g0, cF_g1, cF_g2, cF_g3, cF_g4, cF_g5, tF_l, tF_g0, tF_g1, tF_g2, tF_g3, tF_g4, tF_g5, tF_s3, tF_s4, tF_s5, aFld, aFds, aRow, aRowR, aRefs, aLn, if_true, List.getElem?_cons_zero, List.getElem?_cons_succ, List.set_cons_zero, List.set_cons_succ, List.length_cons, List.length_nil, Option.some.injEq, exists_eq_left', aput_same, aclr_none, aclr_int, aclr_ref, aclr_null, aret_some, aret_none, bz, bz0, bz1, true_and, and_true, vpT, nIc, nI_add, pk_mul, nI_sub', Nat.add_zero, Nat.zero_add, upd_same, upd_ne, if_false, not_true_eq_false, not_false_eq_true, ite_z, ite_o, eq_self, Bool.false_eq_true, nI_leT, nI_leF, nI_ltT, nI_ltF, nI_ne, and_self, false_and, and_false, Nat.reduceAdd, Nat.reduceSub, Nat.reduceMul, Nat.reduceLT, Nat.reduceLeDiff, true_and]
    exact this
  · have hw' : mWLeft st fi = nI 0 := hw
    obtain ⟨j, hj, e⟩ := mWLeft_0 hw'
    subst e
    have hD : oDo st c (nI 45) (nI j) se = mLeft st j := by show mLeft st (nI j).toNatClampNeg = _; rw [nIc (by omega)]
    rw [hD] at K
    simp (disch := omega) only [sX6_carryOutOrder_0, sX6_carryOutOrder_1, sX6_carryOutOrder_4, sX6_carryOutOrder_7_45, sX6_carryOutOrder_78, sX6_carryOutOrder_79, sX6_carryOutOrder_82, sX6_carryOutOrder_83, sX6_carryOutOrder_86, sX6_carryOutOrder_89, hx, hw0, qF_g2, qF_g3, qF_g4, aIsT hT.1, cF_l, cF_g0, cF_g1, cF_g2, cF_g3, cF_g4, cF_g5, tF_l, tF_g0, tF_g1, tF_g2, tF_g3, tF_g4, tF_g5, tF_s3, tF_s4, tF_s5, aFld, aFds, aRow, aRowR, aRefs, aLn, if_true, List.getElem?_cons_zero, List.getElem?_cons_succ, List.set_cons_zero, List.set_cons_succ, List.length_cons, List.length_nil, Option.some.injEq, exists_eq_left', aput_same, aclr_none, aclr_int, aclr_ref, aclr_null, aret_some, aret_none, bz, bz0, bz1, true_and, and_true, vpT, nIc, nI_add, pk_mul, nI_sub', Nat.add_zero, Nat.zero_add, upd_same, upd_ne, if_false, not_true_eq_false, not_false_eq_true, ite_z, ite_o, eq_self, Bool.false_eq_true, nI_leT, nI_leF, nI_ltT, nI_ltF, nI_ne, and_self, false_and, and_false, Nat.reduceAdd, Nat.reduceSub, Nat.reduceMul, Nat.reduceLT, Nat.reduceLeDiff, true_and]
    refine cv_leave hT hok.1 hj hw' (fun σ' hT' hF => ?_)
    have := K σ' _ (mBits_an hok.1 hj) hT' hF
    simp (disch := omega) only [sX6_carryOutOrder_92, cF_l, cF_g0, cF_g1, cF_g2, cF_g3, cF_g4, cF_g5, tF_l, tF_g0, tF_g1, tF_g2, tF_g3, tF_g4, tF_g5, tF_s3, tF_s4, tF_s5, aFld, aFds, aRow, aRowR, aRefs, aLn, if_true, List.getElem?_cons_zero, List.getElem?_cons_succ, List.set_cons_zero, List.set_cons_succ, List.length_cons, List.length_nil, Option.some.injEq, exists_eq_left', aput_same, aclr_none, aclr_int, aclr_ref, aclr_null, aret_some, aret_none, bz, bz0, bz1, true_and, and_true, vpT, nIc, nI_add, pk_mul, nI_sub', Nat.add_zero, Nat.zero_add, upd_same, upd_ne, if_false, not_true_eq_false, not_false_eq_true, ite_z, ite_o, eq_self, Bool.false_eq_true, nI_leT, nI_leF, nI_ltT, nI_ltF, nI_ne, and_self, false_and, and_false, Nat.reduceAdd, Nat.reduceSub, Nat.reduceMul, Nat.reduceLT, Nat.reduceLeDiff, true_and]
    exact this
  · have hw' : mWBeg st fi se c = nI 0 := hw
    obtain ⟨j, v, hj, e, hv, e2, h3, -⟩ := mWBeg_0 hw'
    subst e e2
    have hD : oDo st c (nI 98) (nI j) (nI v) = mBeg st c j v := by show mBeg st c (nI j).toNatClampNeg (nI v).toNatClampNeg = _; rw [nIc (by omega), nIc (by omega)]
    rw [hD] at K
    simp (disch := omega) only [sX6_carryOutOrder_0, sX6_carryOutOrder_1, sX6_carryOutOrder_4, sX6_carryOutOrder_7_98, sX6_carryOutOrder_93, sX6_carryOutOrder_94, sX6_carryOutOrder_97, sX6_carryOutOrder_98, sX6_carryOutOrder_101, sX6_carryOutOrder_104, sX6_carryOutOrder_105, sX6_carryOutOrder_108, sX6_carryOutOrder_111, hx, hw0, qF_g2, qF_g3, qF_g4, aIsT hT.1, cF_l, cF_g0, cF_g1, cF_g2, cF_g3, cF_g4, cF_g5, tF_l, tF_g0, tF_g1, tF_g2, tF_g3, tF_g4, tF_g5, tF_s3, tF_s4, tF_s5, aFld, aFds, aRow, aRowR, aRefs, aLn, if_true, List.getElem?_cons_zero, List.getElem?_cons_succ, List.set_cons_zero, List.set_cons_succ, List.length_cons, List.length_nil, Option.some.injEq, exists_eq_left', aput_same, aclr_none, aclr_int, aclr_ref, aclr_null, aret_some, aret_none, bz, bz0, bz1, true_and, and_true, vpT, nIc, nI_add, pk_mul, nI_sub', Nat.add_zero, Nat.zero_add, upd_same, upd_ne, if_false, not_true_eq_false, not_false_eq_true, ite_z, ite_o, eq_self, Bool.false_eq_true, nI_leT, nI_leF, nI_ltT, nI_ltF, nI_ne, and_self, false_and, and_false, Nat.reduceAdd, Nat.reduceSub, Nat.reduceMul, Nat.reduceLT, Nat.reduceLeDiff, true_and]
    refine cv_beg hT hok hc (by omega) hu hj hv hw' (fun σ' hT' hF => ?_)
    have := K σ' _ (nI_nn (n := c) (by omega)) hT' hF
    simp (disch := omega) only [sX6_carryOutOrder_114, cF_l, cF_g0, cF_g1, cF_g2, cF_g3, cF_g4, cF_g5, tF_l, tF_g0, tF_g1, tF_g2, tF_g3, tF_g4, tF_g5, tF_s3, tF_s4, tF_s5, aFld, aFds, aRow, aRowR, aRefs, aLn, if_true, List.getElem?_cons_zero, List.getElem?_cons_succ, List.set_cons_zero, List.set_cons_succ, List.length_cons, List.length_nil, Option.some.injEq, exists_eq_left', aput_same, aclr_none, aclr_int, aclr_ref, aclr_null, aret_some, aret_none, bz, bz0, bz1, true_and, and_true, vpT, nIc, nI_add, pk_mul, nI_sub', Nat.add_zero, Nat.zero_add, upd_same, upd_ne, if_false, not_true_eq_false, not_false_eq_true, ite_z, ite_o, eq_self, Bool.false_eq_true, nI_leT, nI_leF, nI_ltT, nI_ltF, nI_ne, and_self, false_and, and_false, Nat.reduceAdd, Nat.reduceSub, Nat.reduceMul, Nat.reduceLT, Nat.reduceLeDiff, true_and]
    exact this
  · have hD : oDo st c (nI 99) fi se = mClear st c := rfl
    rw [hD] at K
    simp (disch := omega) only [sX6_carryOutOrder_0, sX6_carryOutOrder_1, sX6_carryOutOrder_4, hx, hw0, qF_g2, cF_l, cF_g0, cF_g1, cF_g2, cF_g3, cF_g4, cF_g5, tF_l, tF_g0, tF_g1, tF_g2, tF_g3, tF_g4, tF_g5, tF_s3, tF_s4, tF_s5, aFld, aFds, aRow, aRowR, aRefs, aLn, if_true, List.getElem?_cons_zero, List.getElem?_cons_succ, List.set_cons_zero, List.set_cons_succ, List.length_cons, List.length_nil, Option.some.injEq, exists_eq_left', aput_same, aclr_none, aclr_int, aclr_ref, aclr_null, aret_some, aret_none, bz, bz0, bz1, true_and, and_true, vpT, nIc, nI_add, pk_mul, nI_sub', Nat.add_zero, Nat.zero_add, upd_same, upd_ne, if_false, not_true_eq_false, not_false_eq_true, ite_z, ite_o, eq_self, Bool.false_eq_true, nI_leT, nI_leF, nI_ltT, nI_ltF, nI_ne, and_self, false_and, and_false, Nat.reduceAdd, Nat.reduceSub, Nat.reduceMul, Nat.reduceLT, Nat.reduceLeDiff, true_and]
    rw [sX6_carryOutOrder_7_d (by decide) (by decide) (by decide) (by decide) (by decide)]
    simp (disch := omega) only [sX6_carryOutOrder_172, sX6_carryOutOrder_173, sX6_carryOutOrder_176, hx, aIsT hT.1, cF_l, cF_g0, cF_g1, cF_g2, cF_g3, cF_g4, cF_g5, tF_l, tF_g0, tF_g1, tF_g2, tF_g3, tF_g4, tF_g5, tF_s3, tF_s4, tF_s5, aFld, aFds, aRow, aRowR, aRefs, aLn, if_true, List.getElem?_cons_zero, List.getElem?_cons_succ, List.set_cons_zero, List.set_cons_succ, List.length_cons, List.length_nil, Option.some.injEq, exists_eq_left', aput_same, aclr_none, aclr_int, aclr_ref, aclr_null, aret_some, aret_none, bz, bz0, bz1, true_and, and_true, vpT, nIc, nI_add, pk_mul, nI_sub', Nat.add_zero, Nat.zero_add, upd_same, upd_ne, if_false, not_true_eq_false, not_false_eq_true, ite_z, ite_o, eq_self, Bool.false_eq_true, nI_leT, nI_leF, nI_ltT, nI_ltF, nI_ne, and_self, false_and, and_false, Nat.reduceAdd, Nat.reduceSub, Nat.reduceMul, Nat.reduceLT, Nat.reduceLeDiff, true_and]
    refine cv_clear hT hok hc h12 (fun σ' hT' hF => ?_)
    have := K σ' _ (nI_nn (n := c - mGR st c) (by omega)) hT' hF
    simp (disch := omega) only [sX6_carryOutOrder_179, cF_l, cF_g0, cF_g1, cF_g2, cF_g3, cF_g4, cF_g5, tF_l, tF_g0, tF_g1, tF_g2, tF_g3, tF_g4, tF_g5, tF_s3, tF_s4, tF_s5, aFld, aFds, aRow, aRowR, aRefs, aLn, if_true, List.getElem?_cons_zero, List.getElem?_cons_succ, List.set_cons_zero, List.set_cons_succ, List.length_cons, List.length_nil, Option.some.injEq, exists_eq_left', aput_same, aclr_none, aclr_int, aclr_ref, aclr_null, aret_some, aret_none, bz, bz0, bz1, true_and, and_true, vpT, nIc, nI_add, pk_mul, nI_sub', Nat.add_zero, Nat.zero_add, upd_same, upd_ne, if_false, not_true_eq_false, not_false_eq_true, ite_z, ite_o, eq_self, Bool.false_eq_true, nI_leT, nI_leF, nI_ltT, nI_ltF, nI_ne, and_self, false_and, and_false, Nat.reduceAdd, Nat.reduceSub, Nat.reduceMul, Nat.reduceLT, Nat.reduceLeDiff, true_and]
    exact this
  · subst e2
    have hD : oDo st c (nI 114) (nI r) se = mRnds st c r := by show mRnds st c (nI r).toNatClampNeg = _; rw [nIc (by omega)]
    rw [hD] at K
    simp (disch := omega) only [sX6_carryOutOrder_0, sX6_carryOutOrder_1, sX6_carryOutOrder_4, sX6_carryOutOrder_7_114, sX6_carryOutOrder_137, sX6_carryOutOrder_138, hx, hw0, qF_g2, cF_l, cF_g0, cF_g1, cF_g2, cF_g3, cF_g4, cF_g5, tF_l, tF_g0, tF_g1, tF_g2, tF_g3, tF_g4, tF_g5, tF_s3, tF_s4, tF_s5, aFld, aFds, aRow, aRowR, aRefs, aLn, if_true, List.getElem?_cons_zero, List.getElem?_cons_succ, List.set_cons_zero, List.set_cons_succ, List.length_cons, List.length_nil, Option.some.injEq, exists_eq_left', aput_same, aclr_none, aclr_int, aclr_ref, aclr_null, aret_some, aret_none, bz, bz0, bz1, true_and, and_true, vpT, nIc, nI_add, pk_mul, nI_sub', Nat.add_zero, Nat.zero_add, upd_same, upd_ne, if_false, not_true_eq_false, not_false_eq_true, ite_z, ite_o, eq_self, Bool.false_eq_true, nI_leT, nI_leF, nI_ltT, nI_ltF, nI_ne, and_self, false_and, and_false, Nat.reduceAdd, Nat.reduceSub, Nat.reduceMul, Nat.reduceLT, Nat.reduceLeDiff, true_and]
    exact co_rnds_loop (fun k => (mRnds_ok hok hc k).2) h12 hr r 0 σ (by omega) hx hT (fun k => (mRnds_ok hok hc k).1) hp (fun σ' hT' hF => K σ' _ (nI_nn (n := 0) (by omega)) hT' hF)
  · obtain ⟨a, ha, e, h⟩ := oWhy_tell h12 hw
    subst e
    obtain ⟨n, h1, h2, h3⟩ := mOK_n hok hc h12 ha
    rw [h1, nIc (by omega)] at h
    have hD : oDo st c (nI 116) (nI a) se = upd st (35 + 28 * a + 3) se := by show upd st (35 + 28 * (nI a).toNatClampNeg + 3) se = _; rw [nIc (by omega)]
    rw [hD] at K
    simp (disch := omega) only [sX6_carryOutOrder_0, sX6_carryOutOrder_1, sX6_carryOutOrder_4, sX6_carryOutOrder_7_116, sX6_carryOutOrder_115, sX6_carryOutOrder_116, sX6_carryOutOrder_119, sX6_carryOutOrder_120, sX6_carryOutOrder_123, sX6_carryOutOrder_126, sX6_carryOutOrder_127, sX6_carryOutOrder_130, sX6_carryOutOrder_133, hx, hw0, qF_g2, qF_g3, qF_g4, aIsT hT.1, cF_l, cF_g0, cF_g1, cF_g2, cF_g3, cF_g4, cF_g5, tF_l, tF_g0, tF_g1, tF_g2, tF_g3, tF_g4, tF_g5, tF_s3, tF_s4, tF_s5, aFld, aFds, aRow, aRowR, aRefs, aLn, if_true, List.getElem?_cons_zero, List.getElem?_cons_succ, List.set_cons_zero, List.set_cons_succ, List.length_cons, List.length_nil, Option.some.injEq, exists_eq_left', aput_same, aclr_none, aclr_int, aclr_ref, aclr_null, aret_some, aret_none, bz, bz0, bz1, true_and, and_true, vpT, nIc, nI_add, pk_mul, nI_sub', Nat.add_zero, Nat.zero_add, upd_same, upd_ne, if_false, not_true_eq_false, not_false_eq_true, ite_z, ite_o, eq_self, Bool.false_eq_true, nI_leT, nI_leF, nI_ltT, nI_ltF, nI_ne, and_self, false_and, and_false, Nat.reduceAdd, Nat.reduceSub, Nat.reduceMul, Nat.reduceLT, Nat.reduceLeDiff, true_and]
    refine cv_tell hT hok hc h12 ha h1 h3 h (fun σ' hT' hF => ?_)
    have hnn : nI 0 ≤ (if st (35 + 28 * a + 3) = -6 then nI 0 else nI 1) := by
      split
      · exact nI_nn (n := 0) (by omega)
      · exact nI_nn (n := 1) (by omega)
    have := K σ' _ hnn hT' hF
    simp (disch := omega) only [sX6_carryOutOrder_136, cF_l, cF_g0, cF_g1, cF_g2, cF_g3, cF_g4, cF_g5, tF_l, tF_g0, tF_g1, tF_g2, tF_g3, tF_g4, tF_g5, tF_s3, tF_s4, tF_s5, aFld, aFds, aRow, aRowR, aRefs, aLn, if_true, List.getElem?_cons_zero, List.getElem?_cons_succ, List.set_cons_zero, List.set_cons_succ, List.length_cons, List.length_nil, Option.some.injEq, exists_eq_left', aput_same, aclr_none, aclr_int, aclr_ref, aclr_null, aret_some, aret_none, bz, bz0, bz1, true_and, and_true, vpT, nIc, nI_add, pk_mul, nI_sub', Nat.add_zero, Nat.zero_add, upd_same, upd_ne, if_false, not_true_eq_false, not_false_eq_true, ite_z, ite_o, eq_self, Bool.false_eq_true, nI_leT, nI_leF, nI_ltT, nI_ltF, nI_ne, and_self, false_and, and_false, Nat.reduceAdd, Nat.reduceSub, Nat.reduceMul, Nat.reduceLT, Nat.reduceLeDiff, true_and]
    exact this
/-- an order that cannot -/
theorem co_not (hx : σ.1 x = some (xO x)) (hT : TabR σ (x + 1) st) (hK : mK st) (hc : st 34 = nI c) (h12 : c ≤ 12) (hp : PaC σ (x + 337) L sg po ki fi se) (hle : oLe ki fi) (hw : ¬ oWhy st c ki fi se = nI 0) (K : ∀ v, v < nI 0 → Q (some (.int v)) σ) : aX (d + 5) iX6_carryOutOrder 0 [some (.ref x), none] [] σ Q := by
  have hw0 := hp.1
  have hok := hK.1
  have hu := mK_u hK hc h12
  have neg : ∀ v : Int32, v = -1 ∨ v = -2 ∨ v = -4 ∨ v = -5 → v < nI 0 ∧ (nI 0 ≤ v) = False := fun v h => by
    rcases h with e | e | e | e <;> subst e <;> exact ⟨by decide, eq_false (by decide)⟩
  rcases hle with e | e | e | e | ⟨e, r, hr, e2⟩ | e <;> subst e
  · have hw' : ¬ mWSat fi se = nI 0 := hw
    have hv := neg (mWSat fi se) (by
      unfold mWSat at hw' ⊢
      by_cases g1 : inR fi 0 7
      · rw [if_pos g1] at hw' ⊢
        by_cases g2 : se = -6
        · rw [if_pos g2] at hw'; exact absurd rfl hw'
        · rw [if_neg g2] at hw' ⊢
          by_cases g3 : inR se 0 4095
          · rw [if_pos g3] at hw'; exact absurd rfl hw'
          · rw [if_neg g3]; exact Or.inr (Or.inl rfl)
      · rw [if_neg g1]; exact Or.inl rfl)
    have := K _ hv.1
    simp (disch := omega) only [sX6_carryOutOrder_0, sX6_carryOutOrder_1, sX6_carryOutOrder_4, sX6_carryOutOrder_7_43, sX6_carryOutOrder_56, sX6_carryOutOrder_57, sX6_carryOutOrder_60, sX6_carryOutOrder_61, sX6_carryOutOrder_64, sX6_carryOutOrder_67, sX6_carryOutOrder_68, sX6_carryOutOrder_71, sX6_carryOutOrder_74, sX6_carryOutOrder_77, hx, hw0, qF_g2, qF_g3, qF_g4, cv_sitE rfl hv.2, aIsT hT.1, cF_l, cF_g0, cF_g1, cF_g2, cF_g3, cF_g4, cF_g5, tF_l, tF_g0, tF_g1, tF_g2, tF_g3, tF_g4, tF_g5, tF_s3, tF_s4, tF_s5, aFld, aFds, aRow, aRowR, aRefs, aLn, if_true, List.getElem?_cons_zero, List.getElem?_cons_succ, List.set_cons_zero, List.set_cons_succ, List.length_cons, List.length_nil, Option.some.injEq, exists_eq_left', aput_same, aclr_none, aclr_int, aclr_ref, aclr_null, aret_some, aret_none, bz, bz0, bz1, true_and, and_true, vpT, nIc, nI_add, pk_mul, nI_sub', Nat.add_zero, Nat.zero_add, upd_same, upd_ne, if_false, not_true_eq_false, not_false_eq_true, ite_z, ite_o, eq_self, Bool.false_eq_true, nI_leT, nI_leF, nI_ltT, nI_ltF, nI_ne, and_self, false_and, and_false, Nat.reduceAdd, Nat.reduceSub, Nat.reduceMul, Nat.reduceLT, Nat.reduceLeDiff, true_and]
    exact this
  · have hw' : ¬ mWLeft st fi = nI 0 := hw
    have hv := neg (mWLeft st fi) (by
      unfold mWLeft at hw' ⊢
      by_cases g1 : inR fi 0 7
      · rw [if_pos g1] at hw' ⊢
        by_cases g2 : mTk st fi = true
        · rw [if_pos g2] at hw'; exact absurd rfl hw'
        · rw [if_neg g2]; exact Or.inr (Or.inr (Or.inr rfl))
      · rw [if_neg g1]; exact Or.inl rfl)
    have := K _ hv.1
    simp (disch := omega) only [sX6_carryOutOrder_0, sX6_carryOutOrder_1, sX6_carryOutOrder_4, sX6_carryOutOrder_7_45, sX6_carryOutOrder_78, sX6_carryOutOrder_79, sX6_carryOutOrder_82, sX6_carryOutOrder_83, sX6_carryOutOrder_86, sX6_carryOutOrder_89, sX6_carryOutOrder_92, hx, hw0, qF_g2, qF_g3, qF_g4, cv_leaveE hT rfl hv.2, aIsT hT.1, cF_l, cF_g0, cF_g1, cF_g2, cF_g3, cF_g4, cF_g5, tF_l, tF_g0, tF_g1, tF_g2, tF_g3, tF_g4, tF_g5, tF_s3, tF_s4, tF_s5, aFld, aFds, aRow, aRowR, aRefs, aLn, if_true, List.getElem?_cons_zero, List.getElem?_cons_succ, List.set_cons_zero, List.set_cons_succ, List.length_cons, List.length_nil, Option.some.injEq, exists_eq_left', aput_same, aclr_none, aclr_int, aclr_ref, aclr_null, aret_some, aret_none, bz, bz0, bz1, true_and, and_true, vpT, nIc, nI_add, pk_mul, nI_sub', Nat.add_zero, Nat.zero_add, upd_same, upd_ne, if_false, not_true_eq_false, not_false_eq_true, ite_z, ite_o, eq_self, Bool.false_eq_true, nI_leT, nI_leF, nI_ltT, nI_ltF, nI_ne, and_self, false_and, and_false, Nat.reduceAdd, Nat.reduceSub, Nat.reduceMul, Nat.reduceLT, Nat.reduceLeDiff, true_and]
    exact this
  · have hw' : ¬ mWBeg st fi se c = nI 0 := hw
    have hv := neg (mWBeg st fi se c) (by
      unfold mWBeg at hw' ⊢
      by_cases g1 : inR fi 0 7 ∧ inR se 0 15
      · rw [if_pos g1] at hw' ⊢
        by_cases g2 : c = 12
        · rw [if_pos g2]; exact Or.inr (Or.inr (Or.inl rfl))
        · rw [if_neg g2] at hw' ⊢
          by_cases g3 : mTk st fi = true ∧ mAlbOf st fi c = -6
          · rw [if_pos g3] at hw'; exact absurd rfl hw'
          · rw [if_neg g3]; exact Or.inr (Or.inr (Or.inr rfl))
      · rw [if_neg g1]; exact Or.inl rfl)
    have := K _ hv.1
    simp (disch := omega) only [sX6_carryOutOrder_0, sX6_carryOutOrder_1, sX6_carryOutOrder_4, sX6_carryOutOrder_7_98, sX6_carryOutOrder_93, sX6_carryOutOrder_94, sX6_carryOutOrder_97, sX6_carryOutOrder_98, sX6_carryOutOrder_101, sX6_carryOutOrder_104, sX6_carryOutOrder_105, sX6_carryOutOrder_108, sX6_carryOutOrder_111, sX6_carryOutOrder_114, hx, hw0, qF_g2, qF_g3, qF_g4, cv_begE hT hc h12 hu rfl hv.2, aIsT hT.1, cF_l, cF_g0, cF_g1, cF_g2, cF_g3, cF_g4, cF_g5, tF_l, tF_g0, tF_g1, tF_g2, tF_g3, tF_g4, tF_g5, tF_s3, tF_s4, tF_s5, aFld, aFds, aRow, aRowR, aRefs, aLn, if_true, List.getElem?_cons_zero, List.getElem?_cons_succ, List.set_cons_zero, List.set_cons_succ, List.length_cons, List.length_nil, Option.some.injEq, exists_eq_left', aput_same, aclr_none, aclr_int, aclr_ref, aclr_null, aret_some, aret_none, bz, bz0, bz1, true_and, and_true, vpT, nIc, nI_add, pk_mul, nI_sub', Nat.add_zero, Nat.zero_add, upd_same, upd_ne, if_false, not_true_eq_false, not_false_eq_true, ite_z, ite_o, eq_self, Bool.false_eq_true, nI_leT, nI_leF, nI_ltT, nI_ltF, nI_ne, and_self, false_and, and_false, Nat.reduceAdd, Nat.reduceSub, Nat.reduceMul, Nat.reduceLT, Nat.reduceLeDiff, true_and]
    exact this
  · exact absurd rfl hw
  · exact absurd rfl hw
  · rcases isA_split c h12 fi with ⟨a, ha, e⟩ | e
    · subst e
      obtain ⟨n, h1, h2, h3⟩ := mOK_n hok hc h12 ha
      have hO : oWhy st c (nI 116) (nI a) se = mWTell st a n se := by
        unfold oWhy
        rw [if_neg (by decide), if_neg (by decide), if_neg (by decide), if_pos rfl, if_pos (by rw [isA_T ha h12]; trivial), nIc (by omega), h1, nIc (by omega)]
      rw [hO] at hw
      have hv := neg (mWTell st a n se) (by
        unfold mWTell at hw ⊢
        by_cases g1 : inR se 0 (if n % 2 = 0 then 15 else 4095)
        · rw [if_pos g1] at hw ⊢
          by_cases g2 : st (35 + 28 * a + 2) = nI 0
          · rw [if_pos g2] at hw; exact absurd rfl hw
          · rw [if_neg g2]; exact Or.inr (Or.inr (Or.inr rfl))
        · rw [if_neg g1]; exact Or.inr (Or.inl rfl))
      have := K _ hv.1
      simp (disch := omega) only [sX6_carryOutOrder_0, sX6_carryOutOrder_1, sX6_carryOutOrder_4, sX6_carryOutOrder_7_116, sX6_carryOutOrder_115, sX6_carryOutOrder_116, sX6_carryOutOrder_119, sX6_carryOutOrder_120, sX6_carryOutOrder_123, sX6_carryOutOrder_126, sX6_carryOutOrder_127, sX6_carryOutOrder_130, sX6_carryOutOrder_133, sX6_carryOutOrder_136, hx, hw0, qF_g2, qF_g3, qF_g4, cv_tellE hT hok hc h12 ha h1 h3 rfl hv.2, aIsT hT.1, cF_l, cF_g0, cF_g1, cF_g2, cF_g3, cF_g4, cF_g5, tF_l, tF_g0, tF_g1, tF_g2, tF_g3, tF_g4, tF_g5, tF_s3, tF_s4, tF_s5, aFld, aFds, aRow, aRowR, aRefs, aLn, if_true, List.getElem?_cons_zero, List.getElem?_cons_succ, List.set_cons_zero, List.set_cons_succ, List.length_cons, List.length_nil, Option.some.injEq, exists_eq_left', aput_same, aclr_none, aclr_int, aclr_ref, aclr_null, aret_some, aret_none, bz, bz0, bz1, true_and, and_true, vpT, nIc, nI_add, pk_mul, nI_sub', Nat.add_zero, Nat.zero_add, upd_same, upd_ne, if_false, not_true_eq_false, not_false_eq_true, ite_z, ite_o, eq_self, Bool.false_eq_true, nI_leT, nI_leF, nI_ltT, nI_ltF, nI_ne, and_self, false_and, and_false, Nat.reduceAdd, Nat.reduceSub, Nat.reduceMul, Nat.reduceLT, Nat.reduceLeDiff, true_and]
      exact this
    · have := K (-1) (by decide)
      simp (disch := omega) only [sX6_carryOutOrder_0, sX6_carryOutOrder_1, sX6_carryOutOrder_4, sX6_carryOutOrder_7_116, sX6_carryOutOrder_115, sX6_carryOutOrder_116, sX6_carryOutOrder_119, sX6_carryOutOrder_120, sX6_carryOutOrder_123, sX6_carryOutOrder_126, sX6_carryOutOrder_127, sX6_carryOutOrder_130, sX6_carryOutOrder_133, sX6_carryOutOrder_136, hx, hw0, qF_g2, qF_g3, qF_g4, cv_tellN hT hc h12 e, aIsT hT.1, cF_l, cF_g0, cF_g1, cF_g2, cF_g3, cF_g4, cF_g5, tF_l, tF_g0, tF_g1, tF_g2, tF_g3, tF_g4, tF_g5, tF_s3, tF_s4, tF_s5, aFld, aFds, aRow, aRowR, aRefs, aLn, if_true, List.getElem?_cons_zero, List.getElem?_cons_succ, List.set_cons_zero, List.set_cons_succ, List.length_cons, List.length_nil, Option.some.injEq, exists_eq_left', aput_same, aclr_none, aclr_int, aclr_ref, aclr_null, aret_some, aret_none, bz, bz0, bz1, true_and, and_true, vpT, nIc, nI_add, pk_mul, nI_sub', Nat.add_zero, Nat.zero_add, upd_same, upd_ne, if_false, not_true_eq_false, not_false_eq_true, ite_z, ite_o, eq_self, Bool.false_eq_true, nI_leT, nI_leF, nI_ltT, nI_ltF, nI_ne, and_self, false_and, and_false, Nat.reduceAdd, Nat.reduceSub, Nat.reduceMul, Nat.reduceLT, Nat.reduceLeDiff, true_and]
      exact this
end CO1
