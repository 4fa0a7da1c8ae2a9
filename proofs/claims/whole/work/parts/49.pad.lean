/-! THE CLASS: reading the pad -/
def qF (sz po ki fi se : Int32) : List Value := [.int sz, .int po, .int ki, .int fi, .int se]
def qS (σ : aS) (w : Nat) (fs : List Value) : aS := aput σ w (eO 3 (.ref (w + 1) :: fs))
/-- the class's own reading of an order -/
def rdC (k : Nat → Nat) (p : Nat) (fi : Int32) : pO :=
  if k p = 43 then
    if dg 0 7 (k (p + 1)) = true then
      if k (p + 1 + 1) = 61 then
        if dg 0 9 (k (p + 1 + 1 + 1)) = true then mkO true (nE k (p + 1 + 1 + 1)) (nI 43) (nI (k (p + 1) - 48)) (nI (nV k (p + 1 + 1 + 1)))
        else mkO false (p + 1 + 1 + 1) (nI 43) (nI (k (p + 1) - 48)) (-6)
      else mkO true (p + 1 + 1) (nI 43) (nI (k (p + 1) - 48)) (-6)
    else mkO false (p + 1) (nI 43) fi (-6)
  else if k p = 45 then
    if dg 0 7 (k (p + 1)) = true then mkO true (p + 1 + 1) (nI 45) (nI (k (p + 1) - 48)) (-6) else mkO false (p + 1) (nI 45) fi (-6)
  else if k p = 98 then
    if dg 0 7 (k (p + 1)) = true then
      if k (p + 1 + 1) = 61 then
        if dg 0 9 (k (p + 1 + 1 + 1)) = true then mkO true (nE k (p + 1 + 1 + 1)) (nI 98) (nI (k (p + 1) - 48)) (nI (nV k (p + 1 + 1 + 1)))
        else mkO false (p + 1 + 1 + 1) (nI 98) (nI (k (p + 1) - 48)) (-6)
      else mkO false (p + 1 + 1) (nI 98) (nI (k (p + 1) - 48)) (-6)
    else mkO false (p + 1) (nI 98) fi (-6)
  else if k p = 99 then mkO true (p + 1) (nI 99) fi (-6)
  else if k p = 114 then
    if dg 1 9 (k (p + 1)) = true then mkO true (p + 1 + 1) (nI 114) (nI (k (p + 1) - 48)) (-6) else mkO true (p + 1) (nI 114) (nI 1) (-6)
  else if k p = 116 then
    if dg 0 9 (k (p + 1)) = true then
      if k (nE k (p + 1)) = 61 then
        if dg 0 9 (k (nE k (p + 1) + 1)) = true then mkO true (nE k (nE k (p + 1) + 1)) (nI 116) (nI (nV k (p + 1))) (nI (nV k (nE k (p + 1) + 1)))
        else mkO false (nE k (p + 1) + 1) (nI 116) (nI (nV k (p + 1))) (nI (nV k (p + 1)))
      else mkO false (nE k (p + 1)) (nI 116) (nI (nV k (p + 1))) (nI (nV k (p + 1)))
    else mkO false (p + 1) (nI 116) fi (-6)
  else mkO false p (nI (k p)) fi (-6)
def oEq (le fi se fi' se' : Int32) : Prop := (le = nI 45 ∨ le = nI 114 → fi = fi') ∧ (le = nI 43 ∨ le = nI 98 ∨ le = nI 116 → fi = fi' ∧ se = se')
theorem oEq_r {le fi se : Int32} : oEq le fi se fi se := ⟨fun _ => rfl, fun _ => ⟨rfl, rfl⟩⟩
theorem oEq_1 {fi se se' : Int32} : oEq (nI 45) fi se fi se' := ⟨fun _ => rfl, fun h => by rcases h with h | h | h <;> exact absurd h (by decide)⟩
theorem oEq_2 {fi se se' : Int32} : oEq (nI 114) fi se fi se' := ⟨fun _ => rfl, fun h => by rcases h with h | h | h <;> exact absurd h (by decide)⟩
theorem oEq_3 {fi se fi' se' : Int32} : oEq (nI 99) fi se fi' se' := ⟨fun h => by rcases h with h | h <;> exact absurd h (by decide), fun h => by rcases h with h | h | h <;> exact absurd h (by decide)⟩
def rdE (r r' : pO) : Prop := rOk r = rOk r' ∧ rPos r = rPos r' ∧ (rOk r = true → rLe r = rLe r' ∧ oEq (rLe r) (rFi r) (rSe r) (rFi r') (rSe r'))
theorem rdE_t {ps : Nat} {le fi se fi' se' : Int32} (h : oEq le fi se fi' se') : rdE (mkO true ps le fi se) (mkO true ps le fi' se') := ⟨rfl, rfl, fun _ => ⟨rfl, h⟩⟩
theorem rdE_f {ps : Nat} {le fi se le' fi' se' : Int32} : rdE (mkO false ps le fi se) (mkO false ps le' fi' se') := ⟨rfl, rfl, fun h => by cases h⟩
theorem rdC_rd (k : Nat → Nat) (p : Nat) (fi fi' se' : Int32) : rdE (rdC k p fi) (rd k p fi' se') := by
  unfold rdC rd
  repeat' split
  all_goals first
    | exact rdE_f
    | exact rdE_t oEq_r
    | exact rdE_t oEq_1
    | exact rdE_t oEq_2
    | exact rdE_t oEq_3
section CQ2
variable {d : Nat} {σ : aS} {Q : aQ} {w L p : Nat} {sg : Nat → Int32} {fs fs' : List Value} {sz po ki fi se x : Int32}
theorem qS_0 : (qS σ w fs).1 w = some (eO 3 (.ref (w + 1) :: fs)) := aput_same _ _ _
theorem qS_1 (hs : σ.1 (w + 1) = some (eI 80 sg)) : (qS σ w fs).1 (w + 1) = some (eI 80 sg) := (aput_ne _ _ (by omega)).trans hs
theorem qS_w : aput (qS σ w fs) w (eO 3 (.ref (w + 1) :: fs')) = qS σ w fs' := aput_twice _ _ _ _
theorem qF_l : (qF sz po ki fi se).length = 5 := rfl
theorem qF_g0 : (qF sz po ki fi se)[0]? = some (.int sz) := rfl
theorem qF_g1 : (qF sz po ki fi se)[1]? = some (.int po) := rfl
theorem qF_g2 : (qF sz po ki fi se)[2]? = some (.int ki) := rfl
theorem qF_g3 : (qF sz po ki fi se)[3]? = some (.int fi) := rfl
theorem qF_g4 : (qF sz po ki fi se)[4]? = some (.int se) := rfl
theorem qF_s0 : (qF sz po ki fi se).set 0 (.int x) = qF x po ki fi se := rfl
theorem qF_s1 : (qF sz po ki fi se).set 1 (.int x) = qF sz x ki fi se := rfl
theorem qF_s2 : (qF sz po ki fi se).set 2 (.int x) = qF sz po x fi se := rfl
theorem qF_s3 : (qF sz po ki fi se).set 3 (.int x) = qF sz po ki x se := rfl
theorem qF_s4 : (qF sz po ki fi se).set 4 (.int x) = qF sz po ki fi x := rfl
theorem cp_sign (hs : σ.1 (w + 1) = some (eI 80 sg)) (hp : pOK sg L) (hb : p < 1000) : aX d iX3_signHere 0 [some (.ref w)] [] (qS σ w (qF (nI L) (nI p) ki fi se)) Q ↔ Q (some (.int (nI (cK sg L p)))) (qS σ w (qF (nI L) (nI p) ki fi se)) := by
  have h80 := hp.1
  rcases Nat.lt_or_ge p L with h | h
  · obtain ⟨e, -⟩ := cK_lt hp h
    simp (disch := omega) only [sX3_signHere_0, sX3_signHere_1, sX3_signHere_4, sX3_signHere_7, sX3_signHere_8, sX3_signHere_11, sX3_signHere_12, sX3_signHere_15, sX3_signHere_18, sX3_signHere_19, sX3_signHere_22, sX3_signHere_23, sX3_signHere_26, sX3_signHere_27, sX3_signHere_30, sX3_signHere_31, sX3_signHere_34, sX3_signHere_35, sX3_signHere_38, sX3_signHere_39, sX3_signHere_42, sX3_signHere_43, qS_1 hs, e, qS_0, qS_w, qF_l, qF_g0, qF_g1, qF_g2, qF_g3, qF_g4, qF_s0, qF_s1, qF_s2, qF_s3, qF_s4, aFld, aFds, aRow, aRowR, aRefs, aLn, if_true, List.getElem?_cons_zero, List.getElem?_cons_succ, List.set_cons_zero, List.set_cons_succ, List.length_cons, List.length_nil, Option.some.injEq, exists_eq_left', aput_same, aclr_none, aclr_int, aclr_ref, aclr_null, aret_some, aret_none, bz, bz0, bz1, true_and, and_true, vpT, nIc, nI_add, pk_mul, nI_sub', Nat.add_zero, Nat.zero_add, upd_same, upd_ne, if_false, not_true_eq_false, not_false_eq_true, ite_z, ite_o, eq_self, Bool.false_eq_true, nI_leT, nI_leF, nI_ltT, nI_ltF, nI_ne, and_self, false_and, and_false, Nat.reduceAdd, Nat.reduceSub, Nat.reduceMul, Nat.reduceLT, Nat.reduceLeDiff, true_and]
  · rw [cK_ge h]
    simp (disch := omega) only [sX3_signHere_0, sX3_signHere_1, sX3_signHere_4, sX3_signHere_7, sX3_signHere_8, sX3_signHere_11, sX3_signHere_12, sX3_signHere_15, sX3_signHere_18, sX3_signHere_19, sX3_signHere_22, sX3_signHere_23, sX3_signHere_26, sX3_signHere_27, sX3_signHere_30, sX3_signHere_31, sX3_signHere_34, sX3_signHere_35, sX3_signHere_38, sX3_signHere_39, sX3_signHere_42, sX3_signHere_43, qS_1 hs, qS_0, qS_w, qF_l, qF_g0, qF_g1, qF_g2, qF_g3, qF_g4, qF_s0, qF_s1, qF_s2, qF_s3, qF_s4, aFld, aFds, aRow, aRowR, aRefs, aLn, if_true, List.getElem?_cons_zero, List.getElem?_cons_succ, List.set_cons_zero, List.set_cons_succ, List.length_cons, List.length_nil, Option.some.injEq, exists_eq_left', aput_same, aclr_none, aclr_int, aclr_ref, aclr_null, aret_some, aret_none, bz, bz0, bz1, true_and, and_true, vpT, nIc, nI_add, pk_mul, nI_sub', Nat.add_zero, Nat.zero_add, upd_same, upd_ne, if_false, not_true_eq_false, not_false_eq_true, ite_z, ite_o, eq_self, Bool.false_eq_true, nI_leT, nI_leF, nI_ltT, nI_ltF, nI_ne, and_self, false_and, and_false, Nat.reduceAdd, Nat.reduceSub, Nat.reduceMul, Nat.reduceLT, Nat.reduceLeDiff, true_and]
theorem dg_no {lo hi c : Nat} (h : ¬ dg lo hi c = true) : c < 48 + lo ∨ 48 + hi < c := by
  unfold dg at h
  rw [decide_eq_true_eq] at h
  omega
theorem dg_yes {lo hi c : Nat} (h1 : 48 + lo ≤ c) (h2 : c ≤ 48 + hi) : dg lo hi c = true := by
  unfold dg
  rw [decide_eq_true_eq]
  exact ⟨h1, h2⟩
theorem cp_digit (hs : σ.1 (w + 1) = some (eI 80 sg)) (hp : pOK sg L) (hb : p < 1000) : aX (d + 1) iX3_digitHere 0 [some (.ref w), none] [] (qS σ w (qF (nI L) (nI p) ki fi se)) Q ↔ if dg 0 9 (cK sg L p) = true then Q (some (.int (nI (cK sg L p - 48)))) (qS σ w (qF (nI L) (nI p) ki fi se)) else Q (some (.int (-6))) (qS σ w (qF (nI L) (nI p) ki fi se)) := by
  have hk := cK_le hp p
  by_cases g : dg 0 9 (cK sg L p) = true
  · obtain ⟨g1, g2⟩ := dg_le g
    simp (disch := omega) only [sX3_digitHere_0, sX3_digitHere_1, sX3_digitHere_4, sX3_digitHere_5, sX3_digitHere_6, sX3_digitHere_8, sX3_digitHere_11, sX3_digitHere_12, sX3_digitHere_14, sX3_digitHere_17, sX3_digitHere_18, sX3_digitHere_20, sX3_digitHere_21, sX3_digitHere_24, sX3_digitHere_26, cp_sign hs hp, g, aIsT qS_0, qS_0, qS_w, qF_l, qF_g0, qF_g1, qF_g2, qF_g3, qF_g4, qF_s0, qF_s1, qF_s2, qF_s3, qF_s4, aFld, aFds, aRow, aRowR, aRefs, aLn, if_true, List.getElem?_cons_zero, List.getElem?_cons_succ, List.set_cons_zero, List.set_cons_succ, List.length_cons, List.length_nil, Option.some.injEq, exists_eq_left', aput_same, aclr_none, aclr_int, aclr_ref, aclr_null, aret_some, aret_none, bz, bz0, bz1, true_and, and_true, vpT, nIc, nI_add, pk_mul, nI_sub', Nat.add_zero, Nat.zero_add, upd_same, upd_ne, if_false, not_true_eq_false, not_false_eq_true, ite_z, ite_o, eq_self, Bool.false_eq_true, nI_leT, nI_leF, nI_ltT, nI_ltF, nI_ne, and_self, false_and, and_false, Nat.reduceAdd, Nat.reduceSub, Nat.reduceMul, Nat.reduceLT, Nat.reduceLeDiff, true_and]
  · rcases dg_no g with h | h
    · simp (disch := omega) only [sX3_digitHere_0, sX3_digitHere_1, sX3_digitHere_4, sX3_digitHere_5, sX3_digitHere_6, sX3_digitHere_8, sX3_digitHere_11, sX3_digitHere_12, sX3_digitHere_14, sX3_digitHere_17, sX3_digitHere_18, sX3_digitHere_20, sX3_digitHere_21, sX3_digitHere_24, sX3_digitHere_26, cp_sign hs hp, g, aIsT qS_0, qS_0, qS_w, qF_l, qF_g0, qF_g1, qF_g2, qF_g3, qF_g4, qF_s0, qF_s1, qF_s2, qF_s3, qF_s4, aFld, aFds, aRow, aRowR, aRefs, aLn, if_true, List.getElem?_cons_zero, List.getElem?_cons_succ, List.set_cons_zero, List.set_cons_succ, List.length_cons, List.length_nil, Option.some.injEq, exists_eq_left', aput_same, aclr_none, aclr_int, aclr_ref, aclr_null, aret_some, aret_none, bz, bz0, bz1, true_and, and_true, vpT, nIc, nI_add, pk_mul, nI_sub', Nat.add_zero, Nat.zero_add, upd_same, upd_ne, if_false, not_true_eq_false, not_false_eq_true, ite_z, ite_o, eq_self, Bool.false_eq_true, nI_leT, nI_leF, nI_ltT, nI_ltF, nI_ne, and_self, false_and, and_false, Nat.reduceAdd, Nat.reduceSub, Nat.reduceMul, Nat.reduceLT, Nat.reduceLeDiff, true_and]
    · simp (disch := omega) only [sX3_digitHere_0, sX3_digitHere_1, sX3_digitHere_4, sX3_digitHere_5, sX3_digitHere_6, sX3_digitHere_8, sX3_digitHere_11, sX3_digitHere_12, sX3_digitHere_14, sX3_digitHere_17, sX3_digitHere_18, sX3_digitHere_20, sX3_digitHere_21, sX3_digitHere_24, sX3_digitHere_26, cp_sign hs hp, g, aIsT qS_0, qS_0, qS_w, qF_l, qF_g0, qF_g1, qF_g2, qF_g3, qF_g4, qF_s0, qF_s1, qF_s2, qF_s3, qF_s4, aFld, aFds, aRow, aRowR, aRefs, aLn, if_true, List.getElem?_cons_zero, List.getElem?_cons_succ, List.set_cons_zero, List.set_cons_succ, List.length_cons, List.length_nil, Option.some.injEq, exists_eq_left', aput_same, aclr_none, aclr_int, aclr_ref, aclr_null, aret_some, aret_none, bz, bz0, bz1, true_and, and_true, vpT, nIc, nI_add, pk_mul, nI_sub', Nat.add_zero, Nat.zero_add, upd_same, upd_ne, if_false, not_true_eq_false, not_false_eq_true, ite_z, ite_o, eq_self, Bool.false_eq_true, nI_leT, nI_leF, nI_ltT, nI_ltF, nI_ne, and_self, false_and, and_false, Nat.reduceAdd, Nat.reduceSub, Nat.reduceMul, Nat.reduceLT, Nat.reduceLeDiff, true_and]
theorem cp_take (hs : σ.1 (w + 1) = some (eI 80 sg)) (hp : pOK sg L) (hb : p < 1000) {c0 : Nat} (h1 : c0 ≤ 126) : aX (d + 1) iX3_take 0 [some (.ref w), some (.int (nI c0))] [] (qS σ w (qF (nI L) (nI p) ki fi se)) Q ↔ if cK sg L p = c0 then Q (some (.int (nI 1))) (qS σ w (qF (nI L) (nI (p + 1)) ki fi se)) else Q (some (.int (nI 0))) (qS σ w (qF (nI L) (nI p) ki fi se)) := by
  have hk := cK_le hp p
  have hN : narrow .boolean (.int (nI 1)) = .int (nI 1) := by decide
  have hN0 : narrow .boolean (.int (nI 0)) = .int (nI 0) := by decide
  by_cases g : cK sg L p = c0
  · simp (disch := omega) only [sX3_take_0, sX3_take_1, sX3_take_4, sX3_take_5, sX3_take_8, sX3_take_9, sX3_take_10, sX3_take_11, sX3_take_11i, sX3_take_12, sX3_take_15, sX3_take_16, sX3_take_17, sX3_take_20, sX3_take_21, cp_sign hs hp, g, hN, hN0, aIsT qS_0, qS_0, qS_w, qF_l, qF_g0, qF_g1, qF_g2, qF_g3, qF_g4, qF_s0, qF_s1, qF_s2, qF_s3, qF_s4, aFld, aFds, aRow, aRowR, aRefs, aLn, if_true, List.getElem?_cons_zero, List.getElem?_cons_succ, List.set_cons_zero, List.set_cons_succ, List.length_cons, List.length_nil, Option.some.injEq, exists_eq_left', aput_same, aclr_none, aclr_int, aclr_ref, aclr_null, aret_some, aret_none, bz, bz0, bz1, true_and, and_true, vpT, nIc, nI_add, pk_mul, nI_sub', Nat.add_zero, Nat.zero_add, upd_same, upd_ne, if_false, not_true_eq_false, not_false_eq_true, ite_z, ite_o, eq_self, Bool.false_eq_true, nI_leT, nI_leF, nI_ltT, nI_ltF, nI_ne, and_self, false_and, and_false, Nat.reduceAdd, Nat.reduceSub, Nat.reduceMul, Nat.reduceLT, Nat.reduceLeDiff, true_and]
  · have g2 : ¬ nI (cK sg L p) = nI c0 := fun z => g (nI_inj (by omega) (by omega) z)
    simp (disch := omega) only [sX3_take_0, sX3_take_1, sX3_take_4, sX3_take_5, sX3_take_8, sX3_take_9, sX3_take_10, sX3_take_11, sX3_take_11i, sX3_take_12, sX3_take_15, sX3_take_16, sX3_take_17, sX3_take_20, sX3_take_21, cp_sign hs hp, g, g2, hN, hN0, aIsT qS_0, qS_0, qS_w, qF_l, qF_g0, qF_g1, qF_g2, qF_g3, qF_g4, qF_s0, qF_s1, qF_s2, qF_s3, qF_s4, aFld, aFds, aRow, aRowR, aRefs, aLn, if_true, List.getElem?_cons_zero, List.getElem?_cons_succ, List.set_cons_zero, List.set_cons_succ, List.length_cons, List.length_nil, Option.some.injEq, exists_eq_left', aput_same, aclr_none, aclr_int, aclr_ref, aclr_null, aret_some, aret_none, bz, bz0, bz1, true_and, and_true, vpT, nIc, nI_add, pk_mul, nI_sub', Nat.add_zero, Nat.zero_add, upd_same, upd_ne, if_false, not_true_eq_false, not_false_eq_true, ite_z, ite_o, eq_self, Bool.false_eq_true, nI_leT, nI_leF, nI_ltT, nI_ltF, nI_ne, and_self, false_and, and_false, Nat.reduceAdd, Nat.reduceSub, Nat.reduceMul, Nat.reduceLT, Nat.reduceLeDiff, true_and]
theorem m6_lt : (nI 0 ≤ (-6 : Int32)) = False := eq_false (by decide)
theorem m6_le : ((-6 : Int32) ≤ nI 0) = True := eq_true (by decide)
theorem m6_eq : ((-6 : Int32) = -6) = True := eq_true rfl
theorem cp_seat (hs : σ.1 (w + 1) = some (eI 80 sg)) (hp : pOK sg L) (hb : p < 1000) : aX (d + 2) iX3_readSeat 0 [some (.ref w), none] [] (qS σ w (qF (nI L) (nI p) ki fi se)) Q ↔ if dg 0 7 (cK sg L p) = true then Q (some (.int (nI 1))) (qS σ w (qF (nI L) (nI (p + 1)) ki (nI (cK sg L p - 48)) se)) else Q (some (.int (nI 0))) (qS σ w (qF (nI L) (nI p) ki fi se)) := by
  have hk := cK_le hp p
  have hN : narrow .boolean (.int (nI 1)) = .int (nI 1) := by decide
  have hN0 : narrow .boolean (.int (nI 0)) = .int (nI 0) := by decide
  by_cases g9 : dg 0 9 (cK sg L p) = true
  · obtain ⟨g1, g2⟩ := dg_le g9
    by_cases g : dg 0 7 (cK sg L p) = true
    · obtain ⟨g3, g4⟩ := dg_le g
      simp (disch := omega) only [sX3_readSeat_0, sX3_readSeat_1, sX3_readSeat_4, sX3_readSeat_5, sX3_readSeat_6, sX3_readSeat_8, sX3_readSeat_11, sX3_readSeat_14, sX3_readSeat_15, sX3_readSeat_16, sX3_readSeat_17, sX3_readSeat_18, sX3_readSeat_21, sX3_readSeat_22, sX3_readSeat_22i, sX3_readSeat_23, sX3_readSeat_26, sX3_readSeat_27, sX3_readSeat_28, sX3_readSeat_31, sX3_readSeat_32, cp_digit hs hp, ch_isBelow, g, g9, hN, hN0, aIsT qS_0, qS_0, qS_w, qF_l, qF_g0, qF_g1, qF_g2, qF_g3, qF_g4, qF_s0, qF_s1, qF_s2, qF_s3, qF_s4, aFld, aFds, aRow, aRowR, aRefs, aLn, if_true, List.getElem?_cons_zero, List.getElem?_cons_succ, List.set_cons_zero, List.set_cons_succ, List.length_cons, List.length_nil, Option.some.injEq, exists_eq_left', aput_same, aclr_none, aclr_int, aclr_ref, aclr_null, aret_some, aret_none, bz, bz0, bz1, true_and, and_true, vpT, nIc, nI_add, pk_mul, nI_sub', Nat.add_zero, Nat.zero_add, upd_same, upd_ne, if_false, not_true_eq_false, not_false_eq_true, ite_z, ite_o, eq_self, Bool.false_eq_true, nI_leT, nI_leF, nI_ltT, nI_ltF, nI_ne, and_self, false_and, and_false, Nat.reduceAdd, Nat.reduceSub, Nat.reduceMul, Nat.reduceLT, Nat.reduceLeDiff, true_and]
    · have g5 := dg_no g
      simp (disch := omega) only [sX3_readSeat_0, sX3_readSeat_1, sX3_readSeat_4, sX3_readSeat_5, sX3_readSeat_6, sX3_readSeat_8, sX3_readSeat_11, sX3_readSeat_14, sX3_readSeat_15, sX3_readSeat_16, sX3_readSeat_17, sX3_readSeat_18, sX3_readSeat_21, sX3_readSeat_22, sX3_readSeat_22i, sX3_readSeat_23, sX3_readSeat_26, sX3_readSeat_27, sX3_readSeat_28, sX3_readSeat_31, sX3_readSeat_32, cp_digit hs hp, ch_isBelow, g, g9, hN, hN0, aIsT qS_0, qS_0, qS_w, qF_l, qF_g0, qF_g1, qF_g2, qF_g3, qF_g4, qF_s0, qF_s1, qF_s2, qF_s3, qF_s4, aFld, aFds, aRow, aRowR, aRefs, aLn, if_true, List.getElem?_cons_zero, List.getElem?_cons_succ, List.set_cons_zero, List.set_cons_succ, List.length_cons, List.length_nil, Option.some.injEq, exists_eq_left', aput_same, aclr_none, aclr_int, aclr_ref, aclr_null, aret_some, aret_none, bz, bz0, bz1, true_and, and_true, vpT, nIc, nI_add, pk_mul, nI_sub', Nat.add_zero, Nat.zero_add, upd_same, upd_ne, if_false, not_true_eq_false, not_false_eq_true, ite_z, ite_o, eq_self, Bool.false_eq_true, nI_leT, nI_leF, nI_ltT, nI_ltF, nI_ne, and_self, false_and, and_false, Nat.reduceAdd, Nat.reduceSub, Nat.reduceMul, Nat.reduceLT, Nat.reduceLeDiff, true_and]
  · have g : ¬ dg 0 7 (cK sg L p) = true := fun z => g9 (by obtain ⟨z1, z2⟩ := dg_le z; exact dg_yes z1 (by omega))
    simp (disch := omega) only [sX3_readSeat_0, sX3_readSeat_1, sX3_readSeat_4, sX3_readSeat_5, sX3_readSeat_6, sX3_readSeat_8, sX3_readSeat_11, sX3_readSeat_14, sX3_readSeat_15, sX3_readSeat_16, sX3_readSeat_17, sX3_readSeat_18, sX3_readSeat_21, sX3_readSeat_22, sX3_readSeat_22i, sX3_readSeat_23, sX3_readSeat_26, sX3_readSeat_27, sX3_readSeat_28, sX3_readSeat_31, sX3_readSeat_32, cp_digit hs hp, ch_isBelow, g, g9, m6_lt, hN, hN0, aIsT qS_0, qS_0, qS_w, qF_l, qF_g0, qF_g1, qF_g2, qF_g3, qF_g4, qF_s0, qF_s1, qF_s2, qF_s3, qF_s4, aFld, aFds, aRow, aRowR, aRefs, aLn, if_true, List.getElem?_cons_zero, List.getElem?_cons_succ, List.set_cons_zero, List.set_cons_succ, List.length_cons, List.length_nil, Option.some.injEq, exists_eq_left', aput_same, aclr_none, aclr_int, aclr_ref, aclr_null, aret_some, aret_none, bz, bz0, bz1, true_and, and_true, vpT, nIc, nI_add, pk_mul, nI_sub', Nat.add_zero, Nat.zero_add, upd_same, upd_ne, if_false, not_true_eq_false, not_false_eq_true, ite_z, ite_o, eq_self, Bool.false_eq_true, nI_leT, nI_leF, nI_ltT, nI_ltF, nI_ne, and_self, false_and, and_false, Nat.reduceAdd, Nat.reduceSub, Nat.reduceMul, Nat.reduceLT, Nat.reduceLeDiff, true_and]
theorem cp_rounds (hs : σ.1 (w + 1) = some (eI 80 sg)) (hp : pOK sg L) (hb : p < 1000) : aX (d + 2) iX3_readRounds 0 [some (.ref w), none] [] (qS σ w (qF (nI L) (nI p) ki fi se)) Q ↔ if dg 1 9 (cK sg L p) = true then Q none (qS σ w (qF (nI L) (nI (p + 1)) ki (nI (cK sg L p - 48)) se)) else Q none (qS σ w (qF (nI L) (nI p) ki (nI 1) se)) := by
  have hk := cK_le hp p
  by_cases g9 : dg 0 9 (cK sg L p) = true
  · obtain ⟨g1, g2⟩ := dg_le g9
    by_cases g : dg 1 9 (cK sg L p) = true
    · obtain ⟨g3, g4⟩ := dg_le g
      simp (disch := omega) only [sX3_readRounds_0, sX3_readRounds_1, sX3_readRounds_4, sX3_readRounds_5, sX3_readRounds_6, sX3_readRounds_7, sX3_readRounds_10, sX3_readRounds_11, sX3_readRounds_14, sX3_readRounds_15, sX3_readRounds_16, sX3_readRounds_19, sX3_readRounds_20, sX3_readRounds_20i, sX3_readRounds_21, sX3_readRounds_24, sX3_readRounds_25, sX3_readRounds_26, sX3_readRounds_29, cp_digit hs hp, g, g9, aIsT qS_0, qS_0, qS_w, qF_l, qF_g0, qF_g1, qF_g2, qF_g3, qF_g4, qF_s0, qF_s1, qF_s2, qF_s3, qF_s4, aFld, aFds, aRow, aRowR, aRefs, aLn, if_true, List.getElem?_cons_zero, List.getElem?_cons_succ, List.set_cons_zero, List.set_cons_succ, List.length_cons, List.length_nil, Option.some.injEq, exists_eq_left', aput_same, aclr_none, aclr_int, aclr_ref, aclr_null, aret_some, aret_none, bz, bz0, bz1, true_and, and_true, vpT, nIc, nI_add, pk_mul, nI_sub', Nat.add_zero, Nat.zero_add, upd_same, upd_ne, if_false, not_true_eq_false, not_false_eq_true, ite_z, ite_o, eq_self, Bool.false_eq_true, nI_leT, nI_leF, nI_ltT, nI_ltF, nI_ne, and_self, false_and, and_false, Nat.reduceAdd, Nat.reduceSub, Nat.reduceMul, Nat.reduceLT, Nat.reduceLeDiff, true_and]
    · have g5 := dg_no g
      have e : cK sg L p - 48 = 0 := by omega
      simp (disch := omega) only [sX3_readRounds_0, sX3_readRounds_1, sX3_readRounds_4, sX3_readRounds_5, sX3_readRounds_6, sX3_readRounds_7, sX3_readRounds_10, sX3_readRounds_11, sX3_readRounds_14, sX3_readRounds_15, sX3_readRounds_16, sX3_readRounds_19, sX3_readRounds_20, sX3_readRounds_20i, sX3_readRounds_21, sX3_readRounds_24, sX3_readRounds_25, sX3_readRounds_26, sX3_readRounds_29, cp_digit hs hp, g, g9, e, aIsT qS_0, qS_0, qS_w, qF_l, qF_g0, qF_g1, qF_g2, qF_g3, qF_g4, qF_s0, qF_s1, qF_s2, qF_s3, qF_s4, aFld, aFds, aRow, aRowR, aRefs, aLn, if_true, List.getElem?_cons_zero, List.getElem?_cons_succ, List.set_cons_zero, List.set_cons_succ, List.length_cons, List.length_nil, Option.some.injEq, exists_eq_left', aput_same, aclr_none, aclr_int, aclr_ref, aclr_null, aret_some, aret_none, bz, bz0, bz1, true_and, and_true, vpT, nIc, nI_add, pk_mul, nI_sub', Nat.add_zero, Nat.zero_add, upd_same, upd_ne, if_false, not_true_eq_false, not_false_eq_true, ite_z, ite_o, eq_self, Bool.false_eq_true, nI_leT, nI_leF, nI_ltT, nI_ltF, nI_ne, and_self, false_and, and_false, Nat.reduceAdd, Nat.reduceSub, Nat.reduceMul, Nat.reduceLT, Nat.reduceLeDiff, true_and]
  · have g : ¬ dg 1 9 (cK sg L p) = true := fun z => g9 (by obtain ⟨z1, z2⟩ := dg_le z; exact dg_yes (by omega) z2)
    simp (disch := omega) only [sX3_readRounds_0, sX3_readRounds_1, sX3_readRounds_4, sX3_readRounds_5, sX3_readRounds_6, sX3_readRounds_7, sX3_readRounds_10, sX3_readRounds_11, sX3_readRounds_14, sX3_readRounds_15, sX3_readRounds_16, sX3_readRounds_19, sX3_readRounds_20, sX3_readRounds_20i, sX3_readRounds_21, sX3_readRounds_24, sX3_readRounds_25, sX3_readRounds_26, sX3_readRounds_29, cp_digit hs hp, g, g9, m6_le, aIsT qS_0, qS_0, qS_w, qF_l, qF_g0, qF_g1, qF_g2, qF_g3, qF_g4, qF_s0, qF_s1, qF_s2, qF_s3, qF_s4, aFld, aFds, aRow, aRowR, aRefs, aLn, if_true, List.getElem?_cons_zero, List.getElem?_cons_succ, List.set_cons_zero, List.set_cons_succ, List.length_cons, List.length_nil, Option.some.injEq, exists_eq_left', aput_same, aclr_none, aclr_int, aclr_ref, aclr_null, aret_some, aret_none, bz, bz0, bz1, true_and, and_true, vpT, nIc, nI_add, pk_mul, nI_sub', Nat.add_zero, Nat.zero_add, upd_same, upd_ne, if_false, not_true_eq_false, not_false_eq_true, ite_z, ite_o, eq_self, Bool.false_eq_true, nI_leT, nI_leF, nI_ltT, nI_ltF, nI_ne, and_self, false_and, and_false, Nat.reduceAdd, Nat.reduceSub, Nat.reduceMul, Nat.reduceLT, Nat.reduceLeDiff, true_and]
theorem p10_s (i : Nat) : 10 ^ (i + 1) = 10 ^ i * 10 := Nat.pow_succ 10 i
theorem cp_num_loop (hs : σ.1 (w + 1) = some (eI 80 sg)) (hp : pOK sg L) {l1 : Int32} : ∀ (f i v p : Nat) (Q : aQ), f + i = 4 → v < 10 ^ i → p + f < 1000 → (aX (d + 2) iX3_readNumber 30 [some (.ref w), some (.int l1), some (.int (nI i))] [] (qS σ w (qF (nI L) (nI p) ki fi (nI v))) Q ↔ Q (some (.int (nI 1))) (qS σ w (qF (nI L) (nI (pN (cK sg L) f v p).2) ki fi (nI (pN (cK sg L) f v p).1))))
  | 0, i, v, p, Q, h, hv, hb => by
    have e : i = 4 := by omega
    subst e
    have hN : narrow .boolean (.int (nI 1)) = .int (nI 1) := by decide
    rw [sX3_readNumber_30]
    simp (disch := omega) only [sX3_readNumber_31, sX3_readNumber_32, sX3_readNumber_35, sX3_readNumber_36, sX3_readNumber_39, sX3_readNumber_42, sX3_readNumber_43, sX3_readNumber_46, sX3_readNumber_48, sX3_readNumber_51, sX3_readNumber_52, sX3_readNumber_53, sX3_readNumber_56, sX3_readNumber_58, sX3_readNumber_59, sX3_readNumber_60, sX3_readNumber_63, sX3_readNumber_64, sX3_readNumber_67, sX3_readNumber_68, sX3_readNumber_68i, sX3_readNumber_69, sX3_readNumber_72, sX3_readNumber_73, sX3_readNumber_74, sX3_readNumber_77, sX3_readNumber_80, sX3_readNumber_83, sX3_readNumber_84, pN, hN, qS_0, qS_w, qF_l, qF_g0, qF_g1, qF_g2, qF_g3, qF_g4, qF_s0, qF_s1, qF_s2, qF_s3, qF_s4, aFld, aFds, aRow, aRowR, aRefs, aLn, if_true, List.getElem?_cons_zero, List.getElem?_cons_succ, List.set_cons_zero, List.set_cons_succ, List.length_cons, List.length_nil, Option.some.injEq, exists_eq_left', aput_same, aclr_none, aclr_int, aclr_ref, aclr_null, aret_some, aret_none, bz, bz0, bz1, true_and, and_true, vpT, nIc, nI_add, pk_mul, nI_sub', Nat.add_zero, Nat.zero_add, upd_same, upd_ne, if_false, not_true_eq_false, not_false_eq_true, ite_z, ite_o, eq_self, Bool.false_eq_true, nI_leT, nI_leF, nI_ltT, nI_ltF, nI_ne, and_self, false_and, and_false, Nat.reduceAdd, Nat.reduceSub, Nat.reduceMul, Nat.reduceLT, Nat.reduceLeDiff, true_and]
  | f + 1, i, v, p, Q, h, hv, hb => by
    have hN : narrow .boolean (.int (nI 1)) = .int (nI 1) := by decide
    have hk := cK_le hp p
    have h4 : 10 ^ i ≤ 10 ^ 4 := Nat.pow_le_pow_right (by decide) (by omega)
    have h10 : (10 : Nat) ^ 4 = 10000 := by decide
    have hvb : v < 10000 := by omega
    have ih := fun (hv2 : v * 10 + (cK sg L p - 48) < 10 ^ (i + 1)) => cp_num_loop hs hp (l1 := l1) f (i + 1) (v * 10 + (cK sg L p - 48)) (p + 1) Q (by omega) hv2 (by omega)
    rw [p10_s] at ih
    generalize 10 ^ i = X at ih hv h4
    rw [pN, Nat.mul_comm 10 v]
    rw [sX3_readNumber_30]
    by_cases g0 : v = 0
    · subst g0
      rw [if_pos rfl]
      simp (disch := omega) only [sX3_readNumber_31, sX3_readNumber_32, sX3_readNumber_35, sX3_readNumber_36, sX3_readNumber_39, sX3_readNumber_83, sX3_readNumber_84, hN, qS_0, qS_w, qF_l, qF_g0, qF_g1, qF_g2, qF_g3, qF_g4, qF_s0, qF_s1, qF_s2, qF_s3, qF_s4, aFld, aFds, aRow, aRowR, aRefs, aLn, if_true, List.getElem?_cons_zero, List.getElem?_cons_succ, List.set_cons_zero, List.set_cons_succ, List.length_cons, List.length_nil, Option.some.injEq, exists_eq_left', aput_same, aclr_none, aclr_int, aclr_ref, aclr_null, aret_some, aret_none, bz, bz0, bz1, true_and, and_true, vpT, nIc, nI_add, pk_mul, nI_sub', Nat.add_zero, Nat.zero_add, upd_same, upd_ne, if_false, not_true_eq_false, not_false_eq_true, ite_z, ite_o, eq_self, Bool.false_eq_true, nI_leT, nI_leF, nI_ltT, nI_ltF, nI_ne, and_self, false_and, and_false, Nat.reduceAdd, Nat.reduceSub, Nat.reduceMul, Nat.reduceLT, Nat.reduceLeDiff, true_and]
    · rw [if_neg g0]
      by_cases g : dg 0 9 (cK sg L p) = true
      · obtain ⟨g1, g2⟩ := dg_le g
        have h6 : (nI (cK sg L p - 48) = -6) = False := nI_neg6 (by omega)
        rw [if_pos g, ← ih (by omega)]
        simp (disch := omega) only [sX3_readNumber_31, sX3_readNumber_32, sX3_readNumber_35, sX3_readNumber_36, sX3_readNumber_39, sX3_readNumber_42, sX3_readNumber_43, sX3_readNumber_46, sX3_readNumber_48, sX3_readNumber_51, sX3_readNumber_52, sX3_readNumber_53, sX3_readNumber_56, sX3_readNumber_58, sX3_readNumber_59, sX3_readNumber_60, sX3_readNumber_63, sX3_readNumber_64, sX3_readNumber_67, sX3_readNumber_68, sX3_readNumber_68i, sX3_readNumber_69, sX3_readNumber_72, sX3_readNumber_73, sX3_readNumber_74, sX3_readNumber_77, sX3_readNumber_80, cp_digit hs hp, g, h6, aIsT qS_0, qS_0, qS_w, qF_l, qF_g0, qF_g1, qF_g2, qF_g3, qF_g4, qF_s0, qF_s1, qF_s2, qF_s3, qF_s4, aFld, aFds, aRow, aRowR, aRefs, aLn, if_true, List.getElem?_cons_zero, List.getElem?_cons_succ, List.set_cons_zero, List.set_cons_succ, List.length_cons, List.length_nil, Option.some.injEq, exists_eq_left', aput_same, aclr_none, aclr_int, aclr_ref, aclr_null, aret_some, aret_none, bz, bz0, bz1, true_and, and_true, vpT, nIc, nI_add, pk_mul, nI_sub', Nat.add_zero, Nat.zero_add, upd_same, upd_ne, if_false, not_true_eq_false, not_false_eq_true, ite_z, ite_o, eq_self, Bool.false_eq_true, nI_leT, nI_leF, nI_ltT, nI_ltF, nI_ne, and_self, false_and, and_false, Nat.reduceAdd, Nat.reduceSub, Nat.reduceMul, Nat.reduceLT, Nat.reduceLeDiff, true_and]
      · rw [if_neg g]
        simp (disch := omega) only [sX3_readNumber_31, sX3_readNumber_32, sX3_readNumber_35, sX3_readNumber_36, sX3_readNumber_39, sX3_readNumber_42, sX3_readNumber_43, sX3_readNumber_46, sX3_readNumber_48, sX3_readNumber_83, sX3_readNumber_84, cp_digit hs hp, g, m6_eq, hN, aIsT qS_0, qS_0, qS_w, qF_l, qF_g0, qF_g1, qF_g2, qF_g3, qF_g4, qF_s0, qF_s1, qF_s2, qF_s3, qF_s4, aFld, aFds, aRow, aRowR, aRefs, aLn, if_true, List.getElem?_cons_zero, List.getElem?_cons_succ, List.set_cons_zero, List.set_cons_succ, List.length_cons, List.length_nil, Option.some.injEq, exists_eq_left', aput_same, aclr_none, aclr_int, aclr_ref, aclr_null, aret_some, aret_none, bz, bz0, bz1, true_and, and_true, vpT, nIc, nI_add, pk_mul, nI_sub', Nat.add_zero, Nat.zero_add, upd_same, upd_ne, if_false, not_true_eq_false, not_false_eq_true, ite_z, ite_o, eq_self, Bool.false_eq_true, nI_leT, nI_leF, nI_ltT, nI_ltF, nI_ne, and_self, false_and, and_false, Nat.reduceAdd, Nat.reduceSub, Nat.reduceMul, Nat.reduceLT, Nat.reduceLeDiff, true_and]
theorem cp_num (hs : σ.1 (w + 1) = some (eI 80 sg)) (hp : pOK sg L) (hb : p < 990) : aX (d + 2) iX3_readNumber 0 [some (.ref w), none, none] [] (qS σ w (qF (nI L) (nI p) ki fi se)) Q ↔ if dg 0 9 (cK sg L p) = true then Q (some (.int (nI 1))) (qS σ w (qF (nI L) (nI (nE (cK sg L) p)) ki fi (nI (nV (cK sg L) p)))) else Q (some (.int (nI 0))) (qS σ w (qF (nI L) (nI p) ki fi se)) := by
  have hN0 : narrow .boolean (.int (nI 0)) = .int (nI 0) := by decide
  have hk := cK_le hp p
  by_cases g : dg 0 9 (cK sg L p) = true
  · obtain ⟨g1, g2⟩ := dg_le g
    have hl := cp_num_loop (d := d) (ki := ki) (fi := fi) hs hp (l1 := nI (cK sg L p - 48)) 3 1 (cK sg L p - 48) (p + 1) Q (by omega) (by omega) (by omega)
    have h6 : (nI (cK sg L p - 48) = -6) = False := nI_neg6 (by omega)
    simp (disch := omega) only [sX3_readNumber_0, sX3_readNumber_1, sX3_readNumber_4, sX3_readNumber_5, sX3_readNumber_6, sX3_readNumber_8, sX3_readNumber_11, sX3_readNumber_12, sX3_readNumber_13, sX3_readNumber_14, sX3_readNumber_15, sX3_readNumber_18, sX3_readNumber_19, sX3_readNumber_19i, sX3_readNumber_20, sX3_readNumber_23, sX3_readNumber_24, sX3_readNumber_25, sX3_readNumber_28, sX3_readNumber_29, cp_digit hs hp, g, h6, aIsT qS_0, qS_0, qS_w, qF_l, qF_g0, qF_g1, qF_g2, qF_g3, qF_g4, qF_s0, qF_s1, qF_s2, qF_s3, qF_s4, aFld, aFds, aRow, aRowR, aRefs, aLn, if_true, List.getElem?_cons_zero, List.getElem?_cons_succ, List.set_cons_zero, List.set_cons_succ, List.length_cons, List.length_nil, Option.some.injEq, exists_eq_left', aput_same, aclr_none, aclr_int, aclr_ref, aclr_null, aret_some, aret_none, bz, bz0, bz1, true_and, and_true, vpT, nIc, nI_add, pk_mul, nI_sub', Nat.add_zero, Nat.zero_add, upd_same, upd_ne, if_false, not_true_eq_false, not_false_eq_true, ite_z, ite_o, eq_self, Bool.false_eq_true, nI_leT, nI_leF, nI_ltT, nI_ltF, nI_ne, and_self, false_and, and_false, Nat.reduceAdd, Nat.reduceSub, Nat.reduceMul, Nat.reduceLT, Nat.reduceLeDiff, true_and]
    exact hl
  · simp (disch := omega) only [sX3_readNumber_0, sX3_readNumber_1, sX3_readNumber_4, sX3_readNumber_5, sX3_readNumber_6, sX3_readNumber_8, sX3_readNumber_11, sX3_readNumber_12, cp_digit hs hp, g, m6_eq, hN0, aIsT qS_0, qS_0, qS_w, qF_l, qF_g0, qF_g1, qF_g2, qF_g3, qF_g4, qF_s0, qF_s1, qF_s2, qF_s3, qF_s4, aFld, aFds, aRow, aRowR, aRefs, aLn, if_true, List.getElem?_cons_zero, List.getElem?_cons_succ, List.set_cons_zero, List.set_cons_succ, List.length_cons, List.length_nil, Option.some.injEq, exists_eq_left', aput_same, aclr_none, aclr_int, aclr_ref, aclr_null, aret_some, aret_none, bz, bz0, bz1, true_and, and_true, vpT, nIc, nI_add, pk_mul, nI_sub', Nat.add_zero, Nat.zero_add, upd_same, upd_ne, if_false, not_true_eq_false, not_false_eq_true, ite_z, ite_o, eq_self, Bool.false_eq_true, nI_leT, nI_leF, nI_ltT, nI_ltF, nI_ne, and_self, false_and, and_false, Nat.reduceAdd, Nat.reduceSub, Nat.reduceMul, Nat.reduceLT, Nat.reduceLeDiff, true_and]
end CQ2
