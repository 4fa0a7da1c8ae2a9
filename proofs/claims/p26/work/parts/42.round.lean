/-! THE CLASS: makeRound -/
theorem Fr_cA {σ : aS} {t a : Nat} {e : aE} {fs : List Value} {f g : Nat → Int32} (h1 : t ≤ a) (h2 : a + 2 < t + 41) : Fr σ (cA (aput σ (t + 3) e) a fs f g) t 41 := ⟨fun q hq => by rw [cA_ne (by omega), aput_ne _ _ (by omega)], rfl⟩
section CW
variable {d : Nat} {Q : aQ} {t c : Nat} {X : Nat → Int32} {v : Int32}
theorem cv_round_loop (hok : mOK X) (hc : X 34 = nI c) (h12 : c ≤ 12) : ∀ (k i : Nat) (l2 : Option Value) (σ : aS), i + k = c → TabR σ t (upd (mAll X i) 33 v) → (∀ σ' l2', TabR σ' t (upd (mAll X c) 33 v) → Fr σ σ' t 41 → aX (d + 4) iX5_makeRound 42 [some (.ref t), some (.int (nI c)), l2'] [] σ' Q) → aX (d + 4) iX5_makeRound 2 [some (.ref t), some (.int (nI i)), l2] [] σ Q
  | 0, i, l2, σ, h, hT, K => by
    have e : i = c := by omega
    subst e
    have h0 := hT.1
    rw [show upd (mAll X i) 33 v 34 = nI i by rw [upd_ne (by omega), mAll_env X (by omega)]; exact hc] at h0
    rw [sX5_makeRound_2]
    simp (disch := omega) only [sX5_makeRound_3, sX5_makeRound_4, sX5_makeRound_7, h0, tF_l, tF_g0, tF_g1, tF_g2, tF_g3, tF_g4, tF_g5, tF_s3, tF_s4, tF_s5, aFld, aFds, aRow, aRowR, aRefs, aLn, if_true, List.getElem?_cons_zero, List.getElem?_cons_succ, List.set_cons_zero, List.set_cons_succ, List.length_cons, List.length_nil, Option.some.injEq, exists_eq_left', aput_same, aclr_none, aclr_int, aclr_ref, aclr_null, aret_some, aret_none, bz, bz0, bz1, true_and, and_true, vpT, nIc, nI_add, pk_mul, nI_sub', Nat.add_zero, Nat.zero_add, upd_same, upd_ne, if_false, not_true_eq_false, not_false_eq_true, ite_z, ite_o, eq_self, Bool.false_eq_true, nI_leT, nI_leF, nI_ltT, nI_ltF, nI_ne, and_self, false_and, and_false, Nat.reduceAdd, Nat.reduceSub, Nat.reduceMul, Nat.reduceLT, Nat.reduceLeDiff, true_and]
    exact K σ l2 hT (Fr_refl _ _ _)
  | k + 1, i, l2, σ, h, hT, K => by
    have hic : i < c := by omega
    have hcc : upd (mAll X i) 33 v 34 = nI c := by rw [upd_ne (by omega), mAll_env X (by omega)]; exact hc
    have hXc : mAll X i 34 = nI c := by rw [mAll_env X (by omega)]; exact hc
    have hXok := mAll_ok hok i
    have h0 := hT.1
    rw [hcc] at h0
    obtain ⟨-, ⟨ft, h1, h1'⟩, ⟨dr, h2, h2'⟩, ⟨P, h3, h3'⟩, -, hA⟩ := id hT
    obtain ⟨ow, pg, hw, tn, tp, f, g, hAl, hR⟩ := hA i (by omega)
    have hR' := hR (by rw [hcc, nIc (by omega)]; exact hic)
    have hb : bOK (bk (mAll X i) i) := by
      obtain ⟨he, c', hc', h12', hb⟩ := id hXok
      have hcc : c' = c := nI_inj (by omega) (by omega) (hc'.symm.trans hXc)
      subst hcc
      exact hb i hic
    have hbu : bk (upd (mAll X i) 33 v) i = bk (mAll X i) i := funext fun j => upd_ne (by omega)
    have hR2 : albR (bk (mAll X i) i) ow pg hw tn tp f g := by rw [← hbu]; exact hR'
    have hhw : hw = bk (mAll X i) i 2 := hR2.2.2.1
    rw [sX5_makeRound_2]
    by_cases gg : hw = nI 0
    · have ih := cv_round_loop hok hc h12 k (i + 1)
      simp (disch := omega) only [sX5_makeRound_3, sX5_makeRound_4, sX5_makeRound_7, sX5_makeRound_10, sX5_makeRound_11, sX5_makeRound_12, sX5_makeRound_15, sX5_makeRound_15n, sX5_makeRound_16, sX5_makeRound_16n, sX5_makeRound_17, sX5_makeRound_17n, sX5_makeRound_20, sX5_makeRound_20n, sX5_makeRound_21, sX5_makeRound_24, sX5_makeRound_27, sX5_makeRound_28, sX5_makeRound_28n, sX5_makeRound_29, sX5_makeRound_30, sX5_makeRound_33, h0, cv_albumAt hT hcc h12 hic, cv_goes hAl, aIsT h0, aIsT hAl.1, gg, tF_l, tF_g0, tF_g1, tF_g2, tF_g3, tF_g4, tF_g5, tF_s3, tF_s4, tF_s5, aFld, aFds, aRow, aRowR, aRefs, aLn, if_true, List.getElem?_cons_zero, List.getElem?_cons_succ, List.set_cons_zero, List.set_cons_succ, List.length_cons, List.length_nil, Option.some.injEq, exists_eq_left', aput_same, aclr_none, aclr_int, aclr_ref, aclr_null, aret_some, aret_none, bz, bz0, bz1, true_and, and_true, vpT, nIc, nI_add, pk_mul, nI_sub', Nat.add_zero, Nat.zero_add, upd_same, upd_ne, if_false, not_true_eq_false, not_false_eq_true, ite_z, ite_o, eq_self, Bool.false_eq_true, nI_leT, nI_leF, nI_ltT, nI_ltF, nI_ne, and_self, false_and, and_false, Nat.reduceAdd, Nat.reduceSub, Nat.reduceMul, Nat.reduceLT, Nat.reduceLeDiff, true_and]
      have hpass := cc_passOn (d := d) (σ := σ) (Q := fun r τ => aX (d + 3 + 1) iX5_makeRound 36 [some (.ref t), some (.int (nI i)), some (.ref (t + 5 + 3 * i))] (aret r []) τ Q) (t := t) (a := t + 5 + 3 * i) (p := t + 3) (P := P) (st := mAll X i) h0 h1 h2 (by omega) (fun w hw => by rw [h1' w hw, upd_ne (by omega)]) (fun s hs => by rw [h2' s hs, upd_ne (by omega)]) (by rw [upd_ne (by omega)]) hXok.1 hb (by rw [← hhw]; exact gg) hR2 (fun P' ow' pg' hw' tn' tp' f' g' hP' hRn => by
        simp (disch := omega) only [sX5_makeRound_36, sX5_makeRound_39, tF_l, tF_g0, tF_g1, tF_g2, tF_g3, tF_g4, tF_g5, tF_s3, tF_s4, tF_s5, aFld, aFds, aRow, aRowR, aRefs, aLn, if_true, List.getElem?_cons_zero, List.getElem?_cons_succ, List.set_cons_zero, List.set_cons_succ, List.length_cons, List.length_nil, Option.some.injEq, exists_eq_left', aput_same, aclr_none, aclr_int, aclr_ref, aclr_null, aret_some, aret_none, bz, bz0, bz1, true_and, and_true, vpT, nIc, nI_add, pk_mul, nI_sub', Nat.add_zero, Nat.zero_add, upd_same, upd_ne, if_false, not_true_eq_false, not_false_eq_true, ite_z, ite_o, eq_self, Bool.false_eq_true, nI_leT, nI_leF, nI_ltT, nI_ltF, nI_ne, and_self, false_and, and_false, Nat.reduceAdd, Nat.reduceSub, Nat.reduceMul, Nat.reduceLT, Nat.reduceLeDiff, true_and]
        refine ih _ _ (by omega) ?_ (fun σ' l2' hT' hF => K σ' l2' hT' (Fr_trans (Fr_cA (by omega) (by omega)) hF))
        exact TabR_pass hT hXok hXc h12 hic h3 hP' hRn)
      rw [aput_self h3, cA_self hAl] at hpass
      exact hpass
    · have ih := cv_round_loop hok hc h12 k (i + 1)
      simp (disch := omega) only [sX5_makeRound_3, sX5_makeRound_4, sX5_makeRound_7, sX5_makeRound_10, sX5_makeRound_11, sX5_makeRound_12, sX5_makeRound_15, sX5_makeRound_15n, sX5_makeRound_16, sX5_makeRound_16n, sX5_makeRound_17, sX5_makeRound_17n, sX5_makeRound_20, sX5_makeRound_20n, sX5_makeRound_21, sX5_makeRound_24, sX5_makeRound_27, sX5_makeRound_28, sX5_makeRound_28n, sX5_makeRound_29, sX5_makeRound_30, sX5_makeRound_33, sX5_makeRound_36, sX5_makeRound_39, h0, cv_albumAt hT hcc h12 hic, cv_goes hAl, aIsT h0, aIsT hAl.1, gg, tF_l, tF_g0, tF_g1, tF_g2, tF_g3, tF_g4, tF_g5, tF_s3, tF_s4, tF_s5, aFld, aFds, aRow, aRowR, aRefs, aLn, if_true, List.getElem?_cons_zero, List.getElem?_cons_succ, List.set_cons_zero, List.set_cons_succ, List.length_cons, List.length_nil, Option.some.injEq, exists_eq_left', aput_same, aclr_none, aclr_int, aclr_ref, aclr_null, aret_some, aret_none, bz, bz0, bz1, true_and, and_true, vpT, nIc, nI_add, pk_mul, nI_sub', Nat.add_zero, Nat.zero_add, upd_same, upd_ne, if_false, not_true_eq_false, not_false_eq_true, ite_z, ite_o, eq_self, Bool.false_eq_true, nI_leT, nI_leF, nI_ltT, nI_ltF, nI_ne, and_self, false_and, and_false, Nat.reduceAdd, Nat.reduceSub, Nat.reduceMul, Nat.reduceLT, Nat.reduceLeDiff, true_and]
      refine ih _ σ (by omega) ?_ K
      rw [mAll, mOne_done (by rw [← hhw]; exact gg)]
      exact hT
theorem cv_round_ok (hok : mOK X) (hc : X 34 = nI c) (h12 : c ≤ 12) (l1 l2 : Option Value) (σ : aS) (hT : TabR σ t (upd X 33 v)) (K : ∀ σ' l2', TabR σ' t (upd (mAll X c) 33 v) → Fr σ σ' t 41 → aX (d + 4) iX5_makeRound 42 [some (.ref t), some (.int (nI c)), l2'] [] σ' Q) : aX (d + 4) iX5_makeRound 0 [some (.ref t), none, none] [] σ Q := by
  simp (disch := omega) only [sX5_makeRound_0, sX5_makeRound_1, tF_l, tF_g0, tF_g1, tF_g2, tF_g3, tF_g4, tF_g5, tF_s3, tF_s4, tF_s5, aFld, aFds, aRow, aRowR, aRefs, aLn, if_true, List.getElem?_cons_zero, List.getElem?_cons_succ, List.set_cons_zero, List.set_cons_succ, List.length_cons, List.length_nil, Option.some.injEq, exists_eq_left', aput_same, aclr_none, aclr_int, aclr_ref, aclr_null, aret_some, aret_none, bz, bz0, bz1, true_and, and_true, vpT, nIc, nI_add, pk_mul, nI_sub', Nat.add_zero, Nat.zero_add, upd_same, upd_ne, if_false, not_true_eq_false, not_false_eq_true, ite_z, ite_o, eq_self, Bool.false_eq_true, nI_leT, nI_leF, nI_ltT, nI_ltF, nI_ne, and_self, false_and, and_false, Nat.reduceAdd, Nat.reduceSub, Nat.reduceMul, Nat.reduceLT, Nat.reduceLeDiff, true_and]
  exact cv_round_loop hok hc h12 c 0 none σ (by omega) hT K
end CW
