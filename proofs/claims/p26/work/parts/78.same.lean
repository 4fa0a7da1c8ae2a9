/-! THE LAW: what it compares, from its start -/
section SS
variable {d x h c : Nat} {σ : aS} {Q : aQ} {fq fwo fdr fpt fal fpa st : Nat → Int32}
theorem s_open {v10 : Int32} {l12 l13 l14 l15 l16 : Option Value} {fh fb : Nat → Int32} : ∀ (k i : Nat) (fo : Nat → Int32), i + k = 8 → (∀ s, s < i → fo s = -6) → (∀ fo', (∀ s, s < 8 → fo' s = -6) → aX (d + 5) iL_same 43 [some (.ref x), some (.ref (x + 423)), some (.ref (x + 424)), some (.ref (x + 425)), some (.ref (x + 426)), some (.ref (x + 427)), some (.ref (x + 428)), some (.ref h), some (.ref (h + 1)), some (.ref (h + 2)), some (.int v10), some (.int (nI 8)), l12, l13, l14, l15, l16] [] (nA σ h fh fb fo') Q) → aX (d + 5) iL_same 23 [some (.ref x), some (.ref (x + 423)), some (.ref (x + 424)), some (.ref (x + 425)), some (.ref (x + 426)), some (.ref (x + 427)), some (.ref (x + 428)), some (.ref h), some (.ref (h + 1)), some (.ref (h + 2)), some (.int v10), some (.int (nI i)), l12, l13, l14, l15, l16] [] (nA σ h fh fb fo) Q
  | 0, i, fo, hi, hf, K => by
    have e : i = 8 := by omega
    subst e
    have hK := K fo hf
    rw [sL_same_23]
    simp (disch := omega) only [sL_same_25, sL_same_27, aFld, aFds, aRow, aRowR, aRefs, aLn, if_true, List.getElem?_cons_zero, List.getElem?_cons_succ, List.set_cons_zero, List.set_cons_succ, List.length_cons, List.length_nil, Option.some.injEq, exists_eq_left', aput_same, aclr_none, aclr_int, aclr_ref, aclr_null, aret_some, aret_none, bz, bz0, bz1, true_and, and_true, vpT, nIc, nI_add, pk_mul, nI_sub', Nat.add_zero, Nat.zero_add, upd_same, upd_ne, if_false, not_true_eq_false, not_false_eq_true, ite_z, ite_o, eq_self, Bool.false_eq_true, nI_leT, nI_leF, nI_ltT, nI_ltF, nI_ne, and_self, false_and, and_false, nI_rem]
    exact hK
  | k + 1, i, fo, hi, hf, K => by
    have ih := s_open (v10 := v10) (l12 := l12) (l13 := l13) (l14 := l14) (l15 := l15) (l16 := l16) k (i + 1) (upd fo i (-6)) (by omega) (fun s hs => by
      by_cases e : s = i
      · subst e; exact upd_same
      · rw [upd_ne e]; exact hf s (by omega)) K
    rw [sL_same_23]
    simp (disch := omega) only [sL_same_25, sL_same_27, sL_same_30, sL_same_30n, sL_same_32, sL_same_34, sL_same_36, sL_same_37, sL_same_40, nA_0, nA_1, nA_2, nA_w0, nA_w1, nA_w2, aFld, aFds, aRow, aRowR, aRefs, aLn, if_true, List.getElem?_cons_zero, List.getElem?_cons_succ, List.set_cons_zero, List.set_cons_succ, List.length_cons, List.length_nil, Option.some.injEq, exists_eq_left', aput_same, aclr_none, aclr_int, aclr_ref, aclr_null, aret_some, aret_none, bz, bz0, bz1, true_and, and_true, vpT, nIc, nI_add, pk_mul, nI_sub', Nat.add_zero, Nat.zero_add, upd_same, upd_ne, if_false, not_true_eq_false, not_false_eq_true, ite_z, ite_o, eq_self, Bool.false_eq_true, nI_leT, nI_leF, nI_ltT, nI_ltF, nI_ne, and_self, false_and, and_false, nI_rem]
    exact ih
theorem l_same (hC : LwC σ x fq fwo fdr fpt fal fpa st) (hh : x + 429 ≤ σ.2.1) (hR : LwR fq fwo fdr fpt fal fpa st c) (hK : mK st) (hc : st 34 = nI c) (h6 : c ≤ 6) (K : ∀ σ', (∀ q, q < σ.2.1 → σ'.1 q = σ.1 q) → σ'.2 = (σ.2.1 + 3, σ.2.2 + 19) → Q (some (.int (nI 1))) σ') : aX (d + 5) iL_same 0 [some (.ref x), some (.ref (x + 423)), some (.ref (x + 424)), some (.ref (x + 425)), some (.ref (x + 426)), some (.ref (x + 427)), some (.ref (x + 428)), none, none, none, none, none, none, none, none, none, none] [] σ Q := by
  obtain ⟨F, h, s⟩ := σ
  have hh : x + 429 ≤ h := hh
  have hu := mK_u hK hc (by omega)
  have hC2 : LwC (F, h + 3, s + 19) x fq fwo fdr fpt fal fpa st := LwC_keep (fun q _ _ _ => rfl) hC
  simp (disch := omega) only [sL_same_0, sL_same_1, sL_same_3, sL_same_3n, sL_same_5, sL_same_7, sL_same_9, sL_same_9n, sL_same_11, sL_same_13, sL_same_15, sL_same_15n, sL_same_17, sL_same_18, sL_same_20, sL_same_21, aput_mk, anew_mk, pf_same, pf_ne, cF_l, cF_g0, cF_g1, cF_g2, cF_g3, cF_g4, cF_g5, tF_l, tF_g0, tF_g1, tF_g2, tF_g3, tF_g4, tF_g5, tF_s3, tF_s4, tF_s5, aFld, aFds, aRow, aRowR, aRefs, aLn, if_true, List.getElem?_cons_zero, List.getElem?_cons_succ, List.set_cons_zero, List.set_cons_succ, List.length_cons, List.length_nil, Option.some.injEq, exists_eq_left', aput_same, aclr_none, aclr_int, aclr_ref, aclr_null, aret_some, aret_none, bz, bz0, bz1, true_and, and_true, vpT, nIc, nI_add, pk_mul, nI_sub', Nat.add_zero, Nat.zero_add, upd_same, upd_ne, if_false, not_true_eq_false, not_false_eq_true, ite_z, ite_o, eq_self, Bool.false_eq_true, nI_leT, nI_leF, nI_ltT, nI_ltF, nI_ne, and_self, false_and, and_false, Nat.reduceAdd, Nat.reduceSub, Nat.reduceMul, Nat.reduceLT, Nat.reduceLeDiff, true_and]
  show aX (d + 5) iL_same 23 [some (.ref x), some (.ref (x + 423)), some (.ref (x + 424)), some (.ref (x + 425)), some (.ref (x + 426)), some (.ref (x + 427)), some (.ref (x + 428)), some (.ref h), some (.ref (h + 1)), some (.ref (h + 2)), some (.int (nI 0)), some (.int (nI 0)), none, none, none, none, none] [] (nA (F, h + 3, s + 19) h (fun _ => 0) (fun _ => 0) (fun _ => 0)) Q
  refine s_open 8 0 _ rfl (fun s hs => absurd hs (Nat.not_lt_zero s)) (fun fo hfo => ?_)
  simp (disch := omega) only [sL_same_43, sL_same_44, aFld, aFds, aRow, aRowR, aRefs, aLn, if_true, List.getElem?_cons_zero, List.getElem?_cons_succ, List.set_cons_zero, List.set_cons_succ, List.length_cons, List.length_nil, Option.some.injEq, exists_eq_left', aput_same, aclr_none, aclr_int, aclr_ref, aclr_null, aret_some, aret_none, bz, bz0, bz1, true_and, and_true, vpT, nIc, nI_add, pk_mul, nI_sub', Nat.add_zero, Nat.zero_add, upd_same, upd_ne, if_false, not_true_eq_false, not_false_eq_true, ite_z, ite_o, eq_self, Bool.false_eq_true, nI_leT, nI_leF, nI_ltT, nI_ltF, nI_ne, and_self, false_and, and_false, nI_rem]
  refine s_albs hC2 hh hR hK.1 hc h6 c 0 _ _ _ _ _ _ _ _ (by omega) (fun s hs => ?_) (fun s hs => ?_) (fun s hs => ?_) (fun l12 l13 l14 l15 l16 fh fb fo h1 h2 h3 => ?_)
  · rw [mHow, nI_0]
  · rw [mPb, nI_0]
  · rw [mAlbOf, hfo s hs]
  · simp (disch := omega) only [sL_same_484, sL_same_485, aFld, aFds, aRow, aRowR, aRefs, aLn, if_true, List.getElem?_cons_zero, List.getElem?_cons_succ, List.set_cons_zero, List.set_cons_succ, List.length_cons, List.length_nil, Option.some.injEq, exists_eq_left', aput_same, aclr_none, aclr_int, aclr_ref, aclr_null, aret_some, aret_none, bz, bz0, bz1, true_and, and_true, vpT, nIc, nI_add, pk_mul, nI_sub', Nat.add_zero, Nat.zero_add, upd_same, upd_ne, if_false, not_true_eq_false, not_false_eq_true, ite_z, ite_o, eq_self, Bool.false_eq_true, nI_leT, nI_leF, nI_ltT, nI_ltF, nI_ne, and_self, false_and, and_false, nI_rem]
    refine s_seats hC2 hh hR hK.1 hu hc h6 h2 h3 8 0 rfl ?_
    simp (disch := omega) only [sL_same_589, sL_same_590, aFld, aFds, aRow, aRowR, aRefs, aLn, if_true, List.getElem?_cons_zero, List.getElem?_cons_succ, List.set_cons_zero, List.set_cons_succ, List.length_cons, List.length_nil, Option.some.injEq, exists_eq_left', aput_same, aclr_none, aclr_int, aclr_ref, aclr_null, aret_some, aret_none, bz, bz0, bz1, true_and, and_true, vpT, nIc, nI_add, pk_mul, nI_sub', Nat.add_zero, Nat.zero_add, upd_same, upd_ne, if_false, not_true_eq_false, not_false_eq_true, ite_z, ite_o, eq_self, Bool.false_eq_true, nI_leT, nI_leF, nI_ltT, nI_ltF, nI_ne, and_self, false_and, and_false, nI_rem]
    refine s_words hC2 hh hR 16 0 rfl ?_
    exact s_end hC2 hh hR hc h6 h1 (K _ (fun q hq => nA_ne hq) rfl)
end SS
