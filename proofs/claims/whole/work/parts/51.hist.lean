/-! THE CLASS: the fault; the history -/
theorem dg_nz {lo hi c : Nat} (h : dg lo hi c = true) : c ≠ 0 := by have := dg_le h; omega
theorem pN_last (k : Nat → Nat) : ∀ f v p, (pN k f v p).2 = p ∨ (p < (pN k f v p).2 ∧ k ((pN k f v p).2 - 1) ≠ 0)
  | 0, v, p => Or.inl rfl
  | f + 1, v, p => by
    rw [pN]
    by_cases g0 : v = 0
    · rw [if_pos g0]; exact Or.inl rfl
    · rw [if_neg g0]
      by_cases g : dg 0 9 (k p) = true
      · rw [if_pos g]
        refine Or.inr ?_
        rcases pN_last k f (10 * v + (k p - 48)) (p + 1) with h | ⟨h1, h2⟩
        · rw [h]
          exact ⟨by omega, by rw [Nat.add_sub_cancel]; exact dg_nz g⟩
        · exact ⟨by omega, h2⟩
      · rw [if_neg g]; exact Or.inl rfl
theorem nE_last {k : Nat → Nat} {p : Nat} (g : dg 0 9 (k p) = true) : k (nE k p - 1) ≠ 0 := by
  unfold nE
  rcases pN_last k 3 (k p - 48) (p + 1) with h | ⟨h1, h2⟩
  · rw [h, Nat.add_sub_cancel]
    exact dg_nz g
  · exact h2
theorem rd_end {k : Nat → Nat} {p : Nat} {fi se : Int32} (h : rOk (rd k p fi se) = true) : k (rPos (rd k p fi se) - 1) ≠ 0 := by
  revert h
  have hr : ∀ {o : Bool} {ps : Nat} {a b c : Int32}, rOk (mkO o ps a b c) = o ∧ rPos (mkO o ps a b c) = ps := fun {_ _ _ _ _} => ⟨rfl, rfl⟩
  unfold rd
  by_cases g43 : k p = 43
  · rw [if_pos g43]
    by_cases gd : dg 0 7 (k (p + 1)) = true
    · rw [if_pos gd]
      by_cases ge : k (p + 1 + 1) = 61
      · rw [if_pos ge]
        by_cases gn : dg 0 9 (k (p + 1 + 1 + 1)) = true
        · rw [if_pos gn]; intro _; rw [hr.2]; exact nE_last gn
        · rw [if_neg gn]; intro h; cases h
      · rw [if_neg ge]; intro _; rw [hr.2, Nat.add_sub_cancel]; exact dg_nz gd
    · rw [if_neg gd]; intro h; cases h
  · rw [if_neg g43]
    by_cases g45 : k p = 45
    · rw [if_pos g45]
      by_cases gd : dg 0 7 (k (p + 1)) = true
      · rw [if_pos gd]; intro _; rw [hr.2, Nat.add_sub_cancel]; exact dg_nz gd
      · rw [if_neg gd]; intro h; cases h
    · rw [if_neg g45]
      by_cases g98 : k p = 98
      · rw [if_pos g98]
        by_cases gd : dg 0 7 (k (p + 1)) = true
        · rw [if_pos gd]
          by_cases ge : k (p + 1 + 1) = 61
          · rw [if_pos ge]
            by_cases gn : dg 0 9 (k (p + 1 + 1 + 1)) = true
            · rw [if_pos gn]; intro _; rw [hr.2]; exact nE_last gn
            · rw [if_neg gn]; intro h; cases h
          · rw [if_neg ge]; intro h; cases h
        · rw [if_neg gd]; intro h; cases h
      · rw [if_neg g98]
        by_cases g99 : k p = 99
        · rw [if_pos g99]; intro _; rw [hr.2, Nat.add_sub_cancel, g99]; omega
        · rw [if_neg g99]
          by_cases g114 : k p = 114
          · rw [if_pos g114]
            by_cases gd : dg 1 9 (k (p + 1)) = true
            · rw [if_pos gd]; intro _; rw [hr.2, Nat.add_sub_cancel]; exact dg_nz gd
            · rw [if_neg gd]; intro _; rw [hr.2, Nat.add_sub_cancel, g114]; omega
          · rw [if_neg g114]
            by_cases g116 : k p = 116
            · rw [if_pos g116]
              by_cases gn : dg 0 9 (k (p + 1)) = true
              · rw [if_pos gn]
                by_cases ge : k (nE k (p + 1)) = 61
                · rw [if_pos ge]
                  by_cases gm : dg 0 9 (k (nE k (p + 1) + 1)) = true
                  · rw [if_pos gm]; intro _; rw [hr.2]; exact nE_last gm
                  · rw [if_neg gm]; intro h; cases h
                · rw [if_neg ge]; intro h; cases h
              · rw [if_neg gn]; intro h; cases h
            · rw [if_neg g116]; intro h; cases h
theorem rd_in {sg : Nat → Int32} {L p : Nat} {fi se : Int32} (h : rOk (rd (cK sg L) p fi se) = true) : rPos (rd (cK sg L) p fi se) ≤ L := by
  have := cK_pos (rd_end h)
  have := (rd_le (cK sg L) p fi se).2.2 h
  omega
section CFF
variable {d : Nat} {σ : aS} {Q : aQ} {w L : Nat} {sg : Nat → Int32}
theorem cp_ff_loop (hs : σ.1 (w + 1) = some (eI 80 sg)) (hp : pOK sg L) : ∀ (f i p : Nat) (ki fi se fi' se' : Int32), 1 ≤ p → p < L → L < p + f → i ≤ p → (∀ po ki fi se, Q (some (.int (if cK sg L p = 59 then fF (cK sg L) L f (p + 1) fi' se' else nI p))) (qS σ w (qF (nI L) po ki fi se))) → aX (d + 5) iX3_findFault 6 [some (.ref w), some (.int (nI i))] [] (qS σ w (qF (nI L) (nI p) ki fi se)) Q
  | 0, i, p, ki, fi, se, fi', se', h1, h2, h3, h4, K => by omega
  | f + 1, i, p, ki, fi, se, fi', se', h1, h2, h3, h4, K => by
    have h80 := hp.1
    rw [sX3_findFault_6]
    by_cases g59 : cK sg L p = 59
    · rw [if_pos g59] at K
      obtain ⟨e1, e2, e3⟩ := rdC_rd (cK sg L) (p + 1) fi fi' se'
      obtain ⟨b1, b2, b3⟩ := rd_le (cK sg L) (p + 1) fi' se'
      rw [fF] at K
      by_cases gk : rOk (rd (cK sg L) (p + 1) fi' se') = true
      · have hin := rd_in gk
        have b4 := b3 gk
        rw [if_pos gk] at K
        by_cases gL : rPos (rd (cK sg L) (p + 1) fi' se') = L
        · rw [if_pos gL] at K
          have := K (nI (rPos (rd (cK sg L) (p + 1) fi' se'))) (rLe (rdC (cK sg L) (p + 1) fi)) (rFi (rdC (cK sg L) (p + 1) fi)) (rSe (rdC (cK sg L) (p + 1) fi))
          simp (disch := omega) only [sX3_findFault_7, sX3_findFault_9, sX3_findFault_12, sX3_findFault_13, sX3_findFault_16, sX3_findFault_19, sX3_findFault_20, sX3_findFault_23, sX3_findFault_24, sX3_findFault_27, sX3_findFault_30, sX3_findFault_32, cp_next1 hs hp, g59, e1, e2, gk, aIsT qS_0, qS_0, qS_w, qF_l, qF_g0, qF_g1, qF_g2, qF_g3, qF_g4, qF_s0, qF_s1, qF_s2, qF_s3, qF_s4, aFld, aFds, aRow, aRowR, aRefs, aLn, if_true, List.getElem?_cons_zero, List.getElem?_cons_succ, List.set_cons_zero, List.set_cons_succ, List.length_cons, List.length_nil, Option.some.injEq, exists_eq_left', aput_same, aclr_none, aclr_int, aclr_ref, aclr_null, aret_some, aret_none, bz, bz0, bz1, true_and, and_true, vpT, nIc, nI_add, pk_mul, nI_sub', Nat.add_zero, Nat.zero_add, upd_same, upd_ne, if_false, not_true_eq_false, not_false_eq_true, ite_z, ite_o, eq_self, Bool.false_eq_true, nI_leT, nI_leF, nI_ltT, nI_ltF, nI_ne, and_self, false_and, and_false, Nat.reduceAdd, Nat.reduceSub, Nat.reduceMul, Nat.reduceLT, Nat.reduceLeDiff, true_and]
          exact this
        · rw [if_neg gL] at K
          simp (disch := omega) only [sX3_findFault_7, sX3_findFault_9, sX3_findFault_12, sX3_findFault_13, sX3_findFault_16, sX3_findFault_19, sX3_findFault_20, sX3_findFault_23, sX3_findFault_24, sX3_findFault_27, sX3_findFault_30, sX3_findFault_32, sX3_findFault_33, sX3_findFault_36, cp_next1 hs hp, g59, e1, e2, gk, aIsT qS_0, qS_0, qS_w, qF_l, qF_g0, qF_g1, qF_g2, qF_g3, qF_g4, qF_s0, qF_s1, qF_s2, qF_s3, qF_s4, aFld, aFds, aRow, aRowR, aRefs, aLn, if_true, List.getElem?_cons_zero, List.getElem?_cons_succ, List.set_cons_zero, List.set_cons_succ, List.length_cons, List.length_nil, Option.some.injEq, exists_eq_left', aput_same, aclr_none, aclr_int, aclr_ref, aclr_null, aret_some, aret_none, bz, bz0, bz1, true_and, and_true, vpT, nIc, nI_add, pk_mul, nI_sub', Nat.add_zero, Nat.zero_add, upd_same, upd_ne, if_false, not_true_eq_false, not_false_eq_true, ite_z, ite_o, eq_self, Bool.false_eq_true, nI_leT, nI_leF, nI_ltT, nI_ltF, nI_ne, and_self, false_and, and_false, Nat.reduceAdd, Nat.reduceSub, Nat.reduceMul, Nat.reduceLT, Nat.reduceLeDiff, true_and]
          exact cp_ff_loop hs hp f (i + 1) (rPos (rd (cK sg L) (p + 1) fi' se')) _ _ _ (rFi (rd (cK sg L) (p + 1) fi' se')) (rSe (rd (cK sg L) (p + 1) fi' se')) (by omega) (by omega) (by omega) (by omega) K
      · rw [if_neg gk] at K
        have := K (nI (rPos (rd (cK sg L) (p + 1) fi' se'))) (rLe (rdC (cK sg L) (p + 1) fi)) (rFi (rdC (cK sg L) (p + 1) fi)) (rSe (rdC (cK sg L) (p + 1) fi))
        simp (disch := omega) only [sX3_findFault_7, sX3_findFault_9, sX3_findFault_12, sX3_findFault_13, sX3_findFault_16, sX3_findFault_39, sX3_findFault_40, sX3_findFault_43, cp_next1 hs hp, g59, e1, e2, gk, aIsT qS_0, qS_0, qS_w, qF_l, qF_g0, qF_g1, qF_g2, qF_g3, qF_g4, qF_s0, qF_s1, qF_s2, qF_s3, qF_s4, aFld, aFds, aRow, aRowR, aRefs, aLn, if_true, List.getElem?_cons_zero, List.getElem?_cons_succ, List.set_cons_zero, List.set_cons_succ, List.length_cons, List.length_nil, Option.some.injEq, exists_eq_left', aput_same, aclr_none, aclr_int, aclr_ref, aclr_null, aret_some, aret_none, bz, bz0, bz1, true_and, and_true, vpT, nIc, nI_add, pk_mul, nI_sub', Nat.add_zero, Nat.zero_add, upd_same, upd_ne, if_false, not_true_eq_false, not_false_eq_true, ite_z, ite_o, eq_self, Bool.false_eq_true, nI_leT, nI_leF, nI_ltT, nI_ltF, nI_ne, and_self, false_and, and_false, Nat.reduceAdd, Nat.reduceSub, Nat.reduceMul, Nat.reduceLT, Nat.reduceLeDiff, true_and]
        exact this
    · rw [if_neg g59] at K
      have := K (nI p) ki fi se
      simp (disch := omega) only [sX3_findFault_7, sX3_findFault_9, sX3_findFault_12, sX3_findFault_13, sX3_findFault_16, sX3_findFault_39, sX3_findFault_40, sX3_findFault_43, cp_next2 hs hp, g59, aIsT qS_0, qS_0, qS_w, qF_l, qF_g0, qF_g1, qF_g2, qF_g3, qF_g4, qF_s0, qF_s1, qF_s2, qF_s3, qF_s4, aFld, aFds, aRow, aRowR, aRefs, aLn, if_true, List.getElem?_cons_zero, List.getElem?_cons_succ, List.set_cons_zero, List.set_cons_succ, List.length_cons, List.length_nil, Option.some.injEq, exists_eq_left', aput_same, aclr_none, aclr_int, aclr_ref, aclr_null, aret_some, aret_none, bz, bz0, bz1, true_and, and_true, vpT, nIc, nI_add, pk_mul, nI_sub', Nat.add_zero, Nat.zero_add, upd_same, upd_ne, if_false, not_true_eq_false, not_false_eq_true, ite_z, ite_o, eq_self, Bool.false_eq_true, nI_leT, nI_leF, nI_ltT, nI_ltF, nI_ne, and_self, false_and, and_false, Nat.reduceAdd, Nat.reduceSub, Nat.reduceMul, Nat.reduceLT, Nat.reduceLeDiff, true_and]
      exact this
theorem cp_fault (hs : σ.1 (w + 1) = some (eI 80 sg)) (hp : pOK sg L) {po ki fi se : Int32} (fi' se' : Int32) (K : ∀ po ki fi se, Q (some (.int (fF (cK sg L) L 81 0 fi' se'))) (qS σ w (qF (nI L) po ki fi se))) : aX (d + 5) iX3_findFault 0 [some (.ref w), none] [] (qS σ w (qF (nI L) po ki fi se)) Q := by
  have h80 := hp.1
  simp (disch := omega) only [sX3_findFault_0, sX3_findFault_1, sX3_findFault_4, sX3_findFault_5, cp_startR, aIsT qS_0, qS_0, qS_w, qF_l, qF_g0, qF_g1, qF_g2, qF_g3, qF_g4, qF_s0, qF_s1, qF_s2, qF_s3, qF_s4, aFld, aFds, aRow, aRowR, aRefs, aLn, if_true, List.getElem?_cons_zero, List.getElem?_cons_succ, List.set_cons_zero, List.set_cons_succ, List.length_cons, List.length_nil, Option.some.injEq, exists_eq_left', aput_same, aclr_none, aclr_int, aclr_ref, aclr_null, aret_some, aret_none, bz, bz0, bz1, true_and, and_true, vpT, nIc, nI_add, pk_mul, nI_sub', Nat.add_zero, Nat.zero_add, upd_same, upd_ne, if_false, not_true_eq_false, not_false_eq_true, ite_z, ite_o, eq_self, Bool.false_eq_true, nI_leT, nI_leF, nI_ltT, nI_ltF, nI_ne, and_self, false_and, and_false, Nat.reduceAdd, Nat.reduceSub, Nat.reduceMul, Nat.reduceLT, Nat.reduceLeDiff, true_and]
  rw [sX3_findFault_6]
  obtain ⟨e1, e2, e3⟩ := rdC_rd (cK sg L) 0 fi fi' se'
  obtain ⟨b1, b2, b3⟩ := rd_le (cK sg L) 0 fi' se'
  rw [fF] at K
  by_cases gk : rOk (rd (cK sg L) 0 fi' se') = true
  · have hin := rd_in gk
    have b4 := b3 gk
    rw [if_pos gk] at K
    by_cases gL : rPos (rd (cK sg L) 0 fi' se') = L
    · rw [if_pos gL] at K
      have := K (nI (rPos (rd (cK sg L) 0 fi' se'))) (rLe (rdC (cK sg L) 0 fi)) (rFi (rdC (cK sg L) 0 fi)) (rSe (rdC (cK sg L) 0 fi))
      simp (disch := omega) only [sX3_findFault_7, sX3_findFault_9, sX3_findFault_12, sX3_findFault_13, sX3_findFault_16, sX3_findFault_19, sX3_findFault_20, sX3_findFault_23, sX3_findFault_24, sX3_findFault_27, sX3_findFault_30, sX3_findFault_32, cp_next0 hs hp, e1, e2, gk, aIsT qS_0, qS_0, qS_w, qF_l, qF_g0, qF_g1, qF_g2, qF_g3, qF_g4, qF_s0, qF_s1, qF_s2, qF_s3, qF_s4, aFld, aFds, aRow, aRowR, aRefs, aLn, if_true, List.getElem?_cons_zero, List.getElem?_cons_succ, List.set_cons_zero, List.set_cons_succ, List.length_cons, List.length_nil, Option.some.injEq, exists_eq_left', aput_same, aclr_none, aclr_int, aclr_ref, aclr_null, aret_some, aret_none, bz, bz0, bz1, true_and, and_true, vpT, nIc, nI_add, pk_mul, nI_sub', Nat.add_zero, Nat.zero_add, upd_same, upd_ne, if_false, not_true_eq_false, not_false_eq_true, ite_z, ite_o, eq_self, Bool.false_eq_true, nI_leT, nI_leF, nI_ltT, nI_ltF, nI_ne, and_self, false_and, and_false, Nat.reduceAdd, Nat.reduceSub, Nat.reduceMul, Nat.reduceLT, Nat.reduceLeDiff, true_and]
      exact this
    · rw [if_neg gL] at K
      simp (disch := omega) only [sX3_findFault_7, sX3_findFault_9, sX3_findFault_12, sX3_findFault_13, sX3_findFault_16, sX3_findFault_19, sX3_findFault_20, sX3_findFault_23, sX3_findFault_24, sX3_findFault_27, sX3_findFault_30, sX3_findFault_32, sX3_findFault_33, sX3_findFault_36, cp_next0 hs hp, e1, e2, gk, aIsT qS_0, qS_0, qS_w, qF_l, qF_g0, qF_g1, qF_g2, qF_g3, qF_g4, qF_s0, qF_s1, qF_s2, qF_s3, qF_s4, aFld, aFds, aRow, aRowR, aRefs, aLn, if_true, List.getElem?_cons_zero, List.getElem?_cons_succ, List.set_cons_zero, List.set_cons_succ, List.length_cons, List.length_nil, Option.some.injEq, exists_eq_left', aput_same, aclr_none, aclr_int, aclr_ref, aclr_null, aret_some, aret_none, bz, bz0, bz1, true_and, and_true, vpT, nIc, nI_add, pk_mul, nI_sub', Nat.add_zero, Nat.zero_add, upd_same, upd_ne, if_false, not_true_eq_false, not_false_eq_true, ite_z, ite_o, eq_self, Bool.false_eq_true, nI_leT, nI_leF, nI_ltT, nI_ltF, nI_ne, and_self, false_and, and_false, Nat.reduceAdd, Nat.reduceSub, Nat.reduceMul, Nat.reduceLT, Nat.reduceLeDiff, true_and]
      exact cp_ff_loop hs hp 80 1 (rPos (rd (cK sg L) 0 fi' se')) _ _ _ (rFi (rd (cK sg L) 0 fi' se')) (rSe (rd (cK sg L) 0 fi' se')) (by omega) (by omega) (by omega) (by omega) K
  · rw [if_neg gk] at K
    have := K (nI (rPos (rd (cK sg L) 0 fi' se'))) (rLe (rdC (cK sg L) 0 fi)) (rFi (rdC (cK sg L) 0 fi)) (rSe (rdC (cK sg L) 0 fi))
    simp (disch := omega) only [sX3_findFault_7, sX3_findFault_9, sX3_findFault_12, sX3_findFault_13, sX3_findFault_16, sX3_findFault_39, sX3_findFault_40, sX3_findFault_43, cp_next0 hs hp, e1, e2, gk, aIsT qS_0, qS_0, qS_w, qF_l, qF_g0, qF_g1, qF_g2, qF_g3, qF_g4, qF_s0, qF_s1, qF_s2, qF_s3, qF_s4, aFld, aFds, aRow, aRowR, aRefs, aLn, if_true, List.getElem?_cons_zero, List.getElem?_cons_succ, List.set_cons_zero, List.set_cons_succ, List.length_cons, List.length_nil, Option.some.injEq, exists_eq_left', aput_same, aclr_none, aclr_int, aclr_ref, aclr_null, aret_some, aret_none, bz, bz0, bz1, true_and, and_true, vpT, nIc, nI_add, pk_mul, nI_sub', Nat.add_zero, Nat.zero_add, upd_same, upd_ne, if_false, not_true_eq_false, not_false_eq_true, ite_z, ite_o, eq_self, Bool.false_eq_true, nI_leT, nI_leF, nI_ltT, nI_ltF, nI_ne, and_self, false_and, and_false, Nat.reduceAdd, Nat.reduceSub, Nat.reduceMul, Nat.reduceLT, Nat.reduceLeDiff, true_and]
    exact this
end CFF
