/-! THE CLASS: albums that are; makeRound whole -/
section CX
variable {d : Nat} {σ : aS} {Q : aQ} {t c : Nat} {st : Nat → Int32}
theorem cv_thatAre_loop (hT : TabR σ t st) (hc : st 34 = nI c) (h12 : c ≤ 12) (s : Int32) : ∀ (k i : Nat) (l4 : Option Value) (Q : aQ), i + k = c → (aX (d + 2) iX5_albumsThatAre 4 [some (.ref t), some (.int s), some (.int (nI (mHow st s i))), some (.int (nI i)), l4] [] σ Q ↔ Q (some (.int (nI (mHow st s c)))) σ)
  | 0, i, l4, Q, h => by
    have e : i = c := by omega
    subst e
    have h0 := hT.1
    rw [hc] at h0
    rw [sX5_albumsThatAre_4]
    simp (disch := omega) only [sX5_albumsThatAre_0, sX5_albumsThatAre_1, sX5_albumsThatAre_2, sX5_albumsThatAre_3, sX5_albumsThatAre_5, sX5_albumsThatAre_6, sX5_albumsThatAre_9, sX5_albumsThatAre_12, sX5_albumsThatAre_13, sX5_albumsThatAre_14, sX5_albumsThatAre_17, sX5_albumsThatAre_17n, sX5_albumsThatAre_19, sX5_albumsThatAre_19n, sX5_albumsThatAre_21, sX5_albumsThatAre_21n, sX5_albumsThatAre_24, sX5_albumsThatAre_24n, sX5_albumsThatAre_26, sX5_albumsThatAre_29, sX5_albumsThatAre_30, sX5_albumsThatAre_33, sX5_albumsThatAre_36, sX5_albumsThatAre_39, sX5_albumsThatAre_42, sX5_albumsThatAre_43, h0, tF_l, tF_g0, tF_g1, tF_g2, tF_g3, tF_g4, tF_g5, tF_s3, tF_s4, tF_s5, aFld, aFds, aRow, aRowR, aRefs, aLn, if_true, List.getElem?_cons_zero, List.getElem?_cons_succ, List.set_cons_zero, List.set_cons_succ, List.length_cons, List.length_nil, Option.some.injEq, exists_eq_left', aput_same, aclr_none, aclr_int, aclr_ref, aclr_null, aret_some, aret_none, bz, bz0, bz1, true_and, and_true, vpT, nIc, nI_add, pk_mul, nI_sub', Nat.add_zero, Nat.zero_add, upd_same, upd_ne, if_false, not_true_eq_false, not_false_eq_true, ite_z, ite_o, eq_self, Bool.false_eq_true, nI_leT, nI_leF, nI_ltT, nI_ltF, nI_ne, and_self, false_and, and_false, Nat.reduceAdd, Nat.reduceSub, Nat.reduceMul, Nat.reduceLT, Nat.reduceLeDiff, true_and]
  | k + 1, i, l4, Q, h => by
    have h0 := hT.1
    rw [hc] at h0
    obtain ⟨ow, pg, hw, tn, tp, f, g, hAl, hR⟩ := hT.2.2.2.2.2 i (by omega)
    have hR' := hR (by rw [hc, nIc (by omega)]; omega)
    have hhw : hw = st (35 + 28 * i + 2) := hR'.2.2.1
    have a0 := hAl.1
    have ih := fun l4 => cv_thatAre_loop hT hc h12 s k (i + 1) l4 Q (by omega)
    rw [mHow, ← hhw] at ih
    rw [sX5_albumsThatAre_4]
    by_cases gg : hw = s
    · rw [if_pos gg] at ih
      simp (disch := omega) only [sX5_albumsThatAre_0, sX5_albumsThatAre_1, sX5_albumsThatAre_2, sX5_albumsThatAre_3, sX5_albumsThatAre_5, sX5_albumsThatAre_6, sX5_albumsThatAre_9, sX5_albumsThatAre_12, sX5_albumsThatAre_13, sX5_albumsThatAre_14, sX5_albumsThatAre_17, sX5_albumsThatAre_17n, sX5_albumsThatAre_19, sX5_albumsThatAre_19n, sX5_albumsThatAre_21, sX5_albumsThatAre_21n, sX5_albumsThatAre_24, sX5_albumsThatAre_24n, sX5_albumsThatAre_26, sX5_albumsThatAre_29, sX5_albumsThatAre_30, sX5_albumsThatAre_33, sX5_albumsThatAre_36, sX5_albumsThatAre_39, sX5_albumsThatAre_42, sX5_albumsThatAre_43, h0, a0, cv_albumAt hT hc h12, aIsT h0, gg, cF_g3, tF_l, tF_g0, tF_g1, tF_g2, tF_g3, tF_g4, tF_g5, tF_s3, tF_s4, tF_s5, aFld, aFds, aRow, aRowR, aRefs, aLn, if_true, List.getElem?_cons_zero, List.getElem?_cons_succ, List.set_cons_zero, List.set_cons_succ, List.length_cons, List.length_nil, Option.some.injEq, exists_eq_left', aput_same, aclr_none, aclr_int, aclr_ref, aclr_null, aret_some, aret_none, bz, bz0, bz1, true_and, and_true, vpT, nIc, nI_add, pk_mul, nI_sub', Nat.add_zero, Nat.zero_add, upd_same, upd_ne, if_false, not_true_eq_false, not_false_eq_true, ite_z, ite_o, eq_self, Bool.false_eq_true, nI_leT, nI_leF, nI_ltT, nI_ltF, nI_ne, and_self, false_and, and_false, Nat.reduceAdd, Nat.reduceSub, Nat.reduceMul, Nat.reduceLT, Nat.reduceLeDiff, true_and]
      exact ih _
    · rw [if_neg gg] at ih
      simp (disch := omega) only [sX5_albumsThatAre_0, sX5_albumsThatAre_1, sX5_albumsThatAre_2, sX5_albumsThatAre_3, sX5_albumsThatAre_5, sX5_albumsThatAre_6, sX5_albumsThatAre_9, sX5_albumsThatAre_12, sX5_albumsThatAre_13, sX5_albumsThatAre_14, sX5_albumsThatAre_17, sX5_albumsThatAre_17n, sX5_albumsThatAre_19, sX5_albumsThatAre_19n, sX5_albumsThatAre_21, sX5_albumsThatAre_21n, sX5_albumsThatAre_24, sX5_albumsThatAre_24n, sX5_albumsThatAre_26, sX5_albumsThatAre_29, sX5_albumsThatAre_30, sX5_albumsThatAre_33, sX5_albumsThatAre_36, sX5_albumsThatAre_39, sX5_albumsThatAre_42, sX5_albumsThatAre_43, h0, a0, cv_albumAt hT hc h12, aIsT h0, gg, cF_g3, tF_l, tF_g0, tF_g1, tF_g2, tF_g3, tF_g4, tF_g5, tF_s3, tF_s4, tF_s5, aFld, aFds, aRow, aRowR, aRefs, aLn, if_true, List.getElem?_cons_zero, List.getElem?_cons_succ, List.set_cons_zero, List.set_cons_succ, List.length_cons, List.length_nil, Option.some.injEq, exists_eq_left', aput_same, aclr_none, aclr_int, aclr_ref, aclr_null, aret_some, aret_none, bz, bz0, bz1, true_and, and_true, vpT, nIc, nI_add, pk_mul, nI_sub', Nat.add_zero, Nat.zero_add, upd_same, upd_ne, if_false, not_true_eq_false, not_false_eq_true, ite_z, ite_o, eq_self, Bool.false_eq_true, nI_leT, nI_leF, nI_ltT, nI_ltF, nI_ne, and_self, false_and, and_false, Nat.reduceAdd, Nat.reduceSub, Nat.reduceMul, Nat.reduceLT, Nat.reduceLeDiff, true_and]
      exact ih _
theorem cv_thatAre (hT : TabR σ t st) (hc : st 34 = nI c) (h12 : c ≤ 12) (s : Int32) : aX (d + 2) iX5_albumsThatAre 0 [some (.ref t), some (.int s), none, none, none] [] σ Q ↔ Q (some (.int (nI (mHow st s c)))) σ := by
  rw [← cv_thatAre_loop (d := d) hT hc h12 s c 0 none Q (by omega)]
  simp only [sX5_albumsThatAre_0, sX5_albumsThatAre_1, sX5_albumsThatAre_2, sX5_albumsThatAre_3, mHow, tF_l, tF_g0, tF_g1, tF_g2, tF_g3, tF_g4, tF_g5, tF_s3, tF_s4, tF_s5, aFld, aFds, aRow, aRowR, aRefs, aLn, if_true, List.getElem?_cons_zero, List.getElem?_cons_succ, List.set_cons_zero, List.set_cons_succ, List.length_cons, List.length_nil, Option.some.injEq, exists_eq_left', aput_same, aclr_none, aclr_int, aclr_ref, aclr_null, aret_some, aret_none, bz, bz0, bz1, true_and, and_true, vpT, nIc, nI_add, pk_mul, nI_sub', Nat.add_zero, Nat.zero_add, upd_same, upd_ne, if_false, not_true_eq_false, not_false_eq_true, ite_z, ite_o, eq_self, Bool.false_eq_true, nI_leT, nI_leF, nI_ltT, nI_ltF, nI_ne, and_self, false_and, and_false, Nat.reduceAdd, Nat.reduceSub, Nat.reduceMul, Nat.reduceLT, Nat.reduceLeDiff, true_and]
theorem TabR_33 {v w : Int32} (hT : TabR σ t (upd st 33 v)) : TabR (aput σ t (eO 5 (.ref (t + 1) :: tF t (st 16) (st 34) w))) t (upd st 33 w) := by
  obtain ⟨h0, ⟨ft, h1, h1'⟩, ⟨dr, h2, h2'⟩, ⟨P, h3, h3'⟩, ⟨F, h4, h4'⟩, hA⟩ := hT
  have u : ∀ k, k ≠ 33 → upd st 33 w k = upd st 33 v k := fun k hk => by rw [upd_ne hk, upd_ne hk]
  have ub : ∀ j, bk (upd st 33 w) j = bk (upd st 33 v) j := fun j => funext fun i => u _ (by omega)
  refine ⟨?_, ⟨ft, (aput_ne _ _ (by omega)).trans h1, fun k hk => by rw [u _ (by omega)]; exact h1' k hk⟩, ⟨dr, (aput_ne _ _ (by omega)).trans h2, fun k hk => by rw [u _ (by omega)]; exact h2' k hk⟩, ⟨P, (aput_ne _ _ (by omega)).trans h3, fun k hk => by rw [u _ (by omega)]; exact h3' k hk⟩, ⟨F, (aput_ne _ _ (by omega)).trans h4, h4'⟩, fun j hj => ?_⟩
  · rw [aput_same, upd_same, upd_ne (by omega), upd_ne (by omega)]
  · obtain ⟨ow, pg, hw, tn, tp, f, g, ⟨a0, a1, a2⟩, hR⟩ := hA j hj
    refine ⟨ow, pg, hw, tn, tp, f, g, ⟨(aput_ne _ _ (by omega)).trans a0, (aput_ne _ _ (by omega)).trans a1, (aput_ne _ _ (by omega)).trans a2⟩, fun h => ?_⟩
    rw [ub]
    rw [u 34 (by omega)] at h
    exact hR h
theorem cv_makeRound (hok : mOK st) (hc : st 34 = nI c) (h12 : c ≤ 12) (hT : TabR σ t st) (K : ∀ σ', TabR σ' t (mRnd st c) → Fr σ σ' t 41 → Q (some (.int (nI (mHow (mRnd st c) (nI 0) c)))) σ') : aX (d + 4) iX5_makeRound 0 [some (.ref t), none, none] [] σ Q := by
  have hTT : TabR σ t (upd (upd st 33 (st 33 + nI 1)) 33 (st 33)) := by
    rw [upd_twice, show upd st 33 (st 33) = st by funext k; unfold upd; by_cases h : k = 33 <;> simp [h]]
    exact hT
  refine cv_round_ok (X := upd st 33 (st 33 + nI 1)) (c := c) (v := st 33) (mOK_33 hok) (by rw [upd_ne (by omega)]; exact hc) h12 none none σ hTT (fun σ' l2' hT' hF => ?_)
  have h0 := hT'.1
  rw [upd_ne (show (16 : Nat) ≠ 33 by omega), upd_ne (show (34 : Nat) ≠ 33 by omega), upd_same] at h0
  have hT2 := TabR_33 (w := st 33 + nI 1) hT'
  have h33 : mAll (upd st 33 (st 33 + nI 1)) c 33 = st 33 + nI 1 := by rw [mAll_env _ (by omega), upd_same]
  have e : upd (mAll (upd st 33 (st 33 + nI 1)) c) 33 (st 33 + nI 1) = mRnd st c := by
    funext k
    unfold mRnd
    by_cases h : k = 33
    · subst h; rw [upd_same, h33]
    · rw [upd_ne h]
  rw [e] at hT2
  have hc2 : mRnd st c 34 = nI c := by rw [mRnd_34]; exact hc
  simp (disch := omega) only [sX5_makeRound_42, sX5_makeRound_43, sX5_makeRound_43i, sX5_makeRound_44, sX5_makeRound_47, sX5_makeRound_48, sX5_makeRound_49, sX5_makeRound_52, sX5_makeRound_53, sX5_makeRound_54, sX5_makeRound_57, h0, aIs, aput_same, cv_thatAre hT2 hc2 h12, tF_l, tF_g0, tF_g1, tF_g2, tF_g3, tF_g4, tF_g5, tF_s3, tF_s4, tF_s5, aFld, aFds, aRow, aRowR, aRefs, aLn, if_true, List.getElem?_cons_zero, List.getElem?_cons_succ, List.set_cons_zero, List.set_cons_succ, List.length_cons, List.length_nil, Option.some.injEq, exists_eq_left', aput_same, aclr_none, aclr_int, aclr_ref, aclr_null, aret_some, aret_none, bz, bz0, bz1, true_and, and_true, vpT, nIc, nI_add, pk_mul, nI_sub', Nat.add_zero, Nat.zero_add, upd_same, upd_ne, if_false, not_true_eq_false, not_false_eq_true, ite_z, ite_o, eq_self, Bool.false_eq_true, nI_leT, nI_leF, nI_ltT, nI_ltF, nI_ne, and_self, false_and, and_false, Nat.reduceAdd, Nat.reduceSub, Nat.reduceMul, Nat.reduceLT, Nat.reduceLeDiff, true_and]
  exact ⟨⟨_, rfl⟩, K _ hT2 (Fr_trans hF (Fr_put (by omega) (by omega)))⟩
end CX
