/-! THE LAW: from its entry -/
section LS2
variable {d b L x : Nat} {xs : Nat → Int32} {Q : aQ} {l12 l13 l14 l15 l16 l17 l18 l19 : Option Value} {fq fwo fdr fpt fal fpa f2 g2 k2 : Nat → Int32}
theorem i_words (hb : b < x) : ∀ (k i : Nat) (fwo : Nat → Int32) (σ : aS), i + k = 16 → HP σ b L xs x fq fwo fdr fpt fal fpa f2 g2 k2 i0 → (∀ w, w < i → fwo w = i0 w) → (∀ σ' fwo', HP σ' b L xs x fq fwo' fdr fpt fal fpa f2 g2 k2 i0 → σ'.2 = σ.2 → (∀ w, w < 16 → fwo' w = i0 w) → aX (d + 9) iL_law 99 [some (.ref b), some (.ref x), some (.ref (x + 423)), some (.ref (x + 424)), some (.ref (x + 425)), some (.ref (x + 426)), some (.ref (x + 427)), some (.ref (x + 428)), some (.ref (x + 429)), some (.ref (x + 430)), some (.ref (x + 431)), some (.int (nI 16)), l12, l13, l14, l15, l16, l17, l18, l19] [] σ' Q) → aX (d + 9) iL_law 62 [some (.ref b), some (.ref x), some (.ref (x + 423)), some (.ref (x + 424)), some (.ref (x + 425)), some (.ref (x + 426)), some (.ref (x + 427)), some (.ref (x + 428)), some (.ref (x + 429)), some (.ref (x + 430)), some (.ref (x + 431)), some (.int (nI i)), l12, l13, l14, l15, l16, l17, l18, l19] [] σ Q
  | 0, i, fwo, σ, hi, hP, hw, K => by
    have e : i = 16 := by omega
    subst e
    have hK := K σ fwo hP rfl hw
    rw [sL_law_62]
    simp (disch := omega) only [sL_law_64, sL_law_66, aFld, aFds, aRow, aRowR, aRefs, aLn, if_true, List.getElem?_cons_zero, List.getElem?_cons_succ, List.set_cons_zero, List.set_cons_succ, List.length_cons, List.length_nil, Option.some.injEq, exists_eq_left', aput_same, aclr_none, aclr_int, aclr_ref, aclr_null, aret_some, aret_none, bz, bz0, bz1, true_and, and_true, vpT, nIc, nI_add, pk_mul, nI_sub', Nat.add_zero, Nat.zero_add, upd_same, upd_ne, if_false, not_true_eq_false, not_false_eq_true, ite_z, ite_o, eq_self, Bool.false_eq_true, nI_leT, nI_leF, nI_ltT, nI_ltF, nI_ne, and_self, false_and, and_false, nI_rem]
    exact hK
  | k + 1, i, fwo, σ, hi, hP, hw, K => by
    have rwo := HP_r1 hP
    have hii : i * i ≤ 15 * 15 := Nat.mul_le_mul (by omega) (by omega)
    have hX : i * i * 37 + i * 113 + 5 < 2147483648 := by omega
    have hrem := nI_rem hX (show 0 < 4096 by omega) (show 4096 < 2147483648 by omega)
    have hi0 : i0 i = nI ((i * i * 37 + i * 113 + 5) % 4096) := by unfold i0; rw [if_pos (by omega)]
    have hP2 := HP_w1 (f := upd fwo i (nI ((i * i * 37 + i * 113 + 5) % 4096))) hb hP
    have ih := i_words hb k (i + 1) _ _ (by omega) hP2 (fun w hw' => by
      by_cases e : w = i
      · subst e; rw [upd_same, hi0]
      · rw [upd_ne e]; exact hw w (by omega)) K
    rw [sL_law_62]
    simp (disch := omega) only [sL_law_64, sL_law_66, sL_law_69, sL_law_69n, sL_law_70, sL_law_72, sL_law_74, sL_law_76, sL_law_77, sL_law_79, sL_law_80, sL_law_82, sL_law_84, sL_law_85, sL_law_86, sL_law_87, sL_law_88, sL_law_91, sL_law_92, sL_law_93, sL_law_96, rwo, hrem, aFld, aFds, aRow, aRowR, aRefs, aLn, if_true, List.getElem?_cons_zero, List.getElem?_cons_succ, List.set_cons_zero, List.set_cons_succ, List.length_cons, List.length_nil, Option.some.injEq, exists_eq_left', aput_same, aclr_none, aclr_int, aclr_ref, aclr_null, aret_some, aret_none, bz, bz0, bz1, true_and, and_true, vpT, nIc, nI_add, pk_mul, nI_sub', Nat.add_zero, Nat.zero_add, upd_same, upd_ne, if_false, not_true_eq_false, not_false_eq_true, ite_z, ite_o, eq_self, Bool.false_eq_true, nI_leT, nI_leF, nI_ltT, nI_ltF, nI_ne, and_self, false_and, and_false]
    exact ih
theorem i_draws (hb : b < x) : ∀ (k i : Nat) (fdr : Nat → Int32) (σ : aS), i + k = 8 → HP σ b L xs x fq fwo fdr fpt fal fpa f2 g2 k2 i0 → (∀ w, w < i → fdr w = i0 (17 + w)) → (∀ σ' fdr', HP σ' b L xs x fq fwo fdr' fpt fal fpa f2 g2 k2 i0 → σ'.2 = σ.2 → (∀ w, w < 8 → fdr' w = i0 (17 + w)) → aX (d + 9) iL_law 123 [some (.ref b), some (.ref x), some (.ref (x + 423)), some (.ref (x + 424)), some (.ref (x + 425)), some (.ref (x + 426)), some (.ref (x + 427)), some (.ref (x + 428)), some (.ref (x + 429)), some (.ref (x + 430)), some (.ref (x + 431)), some (.int (nI 8)), l12, l13, l14, l15, l16, l17, l18, l19] [] σ' Q) → aX (d + 9) iL_law 102 [some (.ref b), some (.ref x), some (.ref (x + 423)), some (.ref (x + 424)), some (.ref (x + 425)), some (.ref (x + 426)), some (.ref (x + 427)), some (.ref (x + 428)), some (.ref (x + 429)), some (.ref (x + 430)), some (.ref (x + 431)), some (.int (nI i)), l12, l13, l14, l15, l16, l17, l18, l19] [] σ Q
  | 0, i, fdr, σ, hi, hP, hw, K => by
    have e : i = 8 := by omega
    subst e
    have hK := K σ fdr hP rfl hw
    rw [sL_law_102]
    simp (disch := omega) only [sL_law_104, sL_law_106, aFld, aFds, aRow, aRowR, aRefs, aLn, if_true, List.getElem?_cons_zero, List.getElem?_cons_succ, List.set_cons_zero, List.set_cons_succ, List.length_cons, List.length_nil, Option.some.injEq, exists_eq_left', aput_same, aclr_none, aclr_int, aclr_ref, aclr_null, aret_some, aret_none, bz, bz0, bz1, true_and, and_true, vpT, nIc, nI_add, pk_mul, nI_sub', Nat.add_zero, Nat.zero_add, upd_same, upd_ne, if_false, not_true_eq_false, not_false_eq_true, ite_z, ite_o, eq_self, Bool.false_eq_true, nI_leT, nI_leF, nI_ltT, nI_ltF, nI_ne, and_self, false_and, and_false, nI_rem]
    exact hK
  | k + 1, i, fdr, σ, hi, hP, hw, K => by
    have rdr := HP_r2 hP
    have hi0 : i0 (17 + i) = nI 4095 := by unfold i0; rw [if_neg (by omega), if_pos (by omega)]
    have hP2 := HP_w2 (f := upd fdr i (nI 4095)) hb hP
    have ih := i_draws hb k (i + 1) _ _ (by omega) hP2 (fun w hw' => by
      by_cases e : w = i
      · subst e; rw [upd_same, hi0]
      · rw [upd_ne e]; exact hw w (by omega)) K
    rw [sL_law_102]
    simp (disch := omega) only [sL_law_104, sL_law_106, sL_law_109, sL_law_109n, sL_law_111, sL_law_113, sL_law_116, sL_law_117, sL_law_120, rdr, aFld, aFds, aRow, aRowR, aRefs, aLn, if_true, List.getElem?_cons_zero, List.getElem?_cons_succ, List.set_cons_zero, List.set_cons_succ, List.length_cons, List.length_nil, Option.some.injEq, exists_eq_left', aput_same, aclr_none, aclr_int, aclr_ref, aclr_null, aret_some, aret_none, bz, bz0, bz1, true_and, and_true, vpT, nIc, nI_add, pk_mul, nI_sub', Nat.add_zero, Nat.zero_add, upd_same, upd_ne, if_false, not_true_eq_false, not_false_eq_true, ite_z, ite_o, eq_self, Bool.false_eq_true, nI_leT, nI_leF, nI_ltT, nI_ltF, nI_ne, and_self, false_and, and_false, nI_rem]
    exact ih
theorem law_all {F : Nat → Option aE} {h s : Nat} (hs : F b = some (eS L xs)) (hb : b < h) (hL : L ≤ 260) : aX (d + 9) iL_law 0 [some (.ref b), none, none, none, none, none, none, none, none, none, none, none, none, none, none, none, none, none, none, none] [] (F, h, s) (fun r τ => r = some (.int (nI 1)) ∧ τ.2.1 ≤ h + 1000 ∧ τ.2.2 ≤ s + 10000) := by
  simp (disch := omega) only [sL_law_0, sL_law_3, sL_law_3i, sL_law_4, aIs_pf, aput_mk, anew_mk, pf_same, pf_ne, cF_l, cF_g0, cF_g1, cF_g2, cF_g3, cF_g4, cF_g5, tF_l, tF_g0, tF_g1, tF_g2, tF_g3, tF_g4, tF_g5, tF_s3, tF_s4, tF_s5, aFld, aFds, aRow, aRowR, aRefs, aLn, if_true, List.getElem?_cons_zero, List.getElem?_cons_succ, List.set_cons_zero, List.set_cons_succ, List.length_cons, List.length_nil, Option.some.injEq, exists_eq_left', aput_same, aclr_none, aclr_int, aclr_ref, aclr_null, aret_some, aret_none, bz, bz0, bz1, true_and, and_true, vpT, nIc, nI_add, pk_mul, nI_sub', Nat.add_zero, Nat.zero_add, upd_same, upd_ne, if_false, not_true_eq_false, not_false_eq_true, ite_z, ite_o, eq_self, Bool.false_eq_true, nI_leT, nI_leF, nI_ltT, nI_ltF, nI_ne, and_self, false_and, and_false, Nat.reduceAdd, Nat.reduceSub, Nat.reduceMul, Nat.reduceLT, Nat.reduceLeDiff, true_and]
  refine ci_all pf_same (fun F1 s1 e1 x1 t1 f1 hh1 sl1 p1 k1 => ?_)
  simp (disch := omega) only [sL_law_7, sL_law_7n, sL_law_8, sL_law_9, sL_law_11, sL_law_11n, sL_law_12, sL_law_14, sL_law_16, sL_law_16n, sL_law_17, sL_law_19, sL_law_21, sL_law_21n, sL_law_23, sL_law_25, sL_law_27, sL_law_27n, sL_law_29, sL_law_31, sL_law_33, sL_law_33n, sL_law_35, sL_law_37, sL_law_39, sL_law_39n, sL_law_41, sL_law_43, sL_law_45, sL_law_45n, sL_law_47, sL_law_49, sL_law_51, sL_law_51n, sL_law_53, sL_law_55, sL_law_57, sL_law_57n, sL_law_59, sL_law_60, aput_mk, anew_mk, pf_same, pf_ne, cF_l, cF_g0, cF_g1, cF_g2, cF_g3, cF_g4, cF_g5, tF_l, tF_g0, tF_g1, tF_g2, tF_g3, tF_g4, tF_g5, tF_s3, tF_s4, tF_s5, aFld, aFds, aRow, aRowR, aRefs, aLn, if_true, List.getElem?_cons_zero, List.getElem?_cons_succ, List.set_cons_zero, List.set_cons_succ, List.length_cons, List.length_nil, Option.some.injEq, exists_eq_left', aput_same, aclr_none, aclr_int, aclr_ref, aclr_null, aret_some, aret_none, bz, bz0, bz1, true_and, and_true, vpT, nIc, nI_add, pk_mul, nI_sub', Nat.add_zero, Nat.zero_add, upd_same, upd_ne, if_false, not_true_eq_false, not_false_eq_true, ite_z, ite_o, eq_self, Bool.false_eq_true, nI_leT, nI_leF, nI_ltT, nI_ltF, nI_ne, and_self, false_and, and_false, Nat.reduceAdd, Nat.reduceSub, Nat.reduceMul, Nat.reduceLT, Nat.reduceLeDiff, true_and]
  have hk : ∀ q, q < h + 423 → pf (pf (pf (pf (pf (pf (pf (pf (pf F1 (h + 423) (eI 3 (fun _ => 0))) (h + 424) (eI 16 (fun _ => 0))) (h + 425) (eI 8 (fun _ => 0))) (h + 426) (eI 8 (fun _ => 0))) (h + 427) (eI 24 (fun _ => 0))) (h + 428) (eI 48 (fun _ => 0))) (h + 429) (eI 8 (fun _ => 0))) (h + 430) (eI 24 (fun _ => 0))) (h + 431) (eI 48 (fun _ => 0)) q = F1 q := fun q hq => by simp (disch := omega) only [pf_ne]
  have hP : HP (pf (pf (pf (pf (pf (pf (pf (pf (pf F1 (h + 423) (eI 3 (fun _ => 0))) (h + 424) (eI 16 (fun _ => 0))) (h + 425) (eI 8 (fun _ => 0))) (h + 426) (eI 8 (fun _ => 0))) (h + 427) (eI 24 (fun _ => 0))) (h + 428) (eI 48 (fun _ => 0))) (h + 429) (eI 8 (fun _ => 0))) (h + 430) (eI 24 (fun _ => 0))) (h + 431) (eI 48 (fun _ => 0)), h + 432, s1 + 3 + 16 + 8 + 8 + 24 + 48 + 8 + 24 + 48) b L xs h (fun _ => 0) (fun _ => 0) (fun _ => 0) (fun _ => 0) (fun _ => 0) (fun _ => 0) (fun _ => 0) (fun _ => 0) (fun _ => 0) i0 := by
    refine ⟨⟨(hk _ (by omega)).trans x1, TabR_keep (fun q _ _ => hk q (by omega)) t1, ⟨_, FoS_keep (fun q _ _ => hk q (by omega)) f1⟩, 0, 0, fun _ => 0, HisR_keep (fun q _ _ => hk q (by omega)) (hh1 _), fun i hi => absurd hi (Nat.not_lt_zero i)⟩, (hk _ (by omega)).trans ((k1 _ hb).trans ((pf_ne (by omega)).trans hs)), Nat.le_refl _, ?_, ?_, ?_, ?_, ?_, ?_, ?_, ?_, ?_⟩ <;> simp (disch := omega) only [pf_same, pf_ne]
  show aX (d + 9) iL_law 62 [some (.ref b), some (.ref h), some (.ref (h + 423)), some (.ref (h + 424)), some (.ref (h + 425)), some (.ref (h + 426)), some (.ref (h + 427)), some (.ref (h + 428)), some (.ref (h + 429)), some (.ref (h + 430)), some (.ref (h + 431)), some (.int (nI 0)), none, none, none, none, none, none, none, none] [] (pf (pf (pf (pf (pf (pf (pf (pf (pf F1 (h + 423) (eI 3 (fun _ => 0))) (h + 424) (eI 16 (fun _ => 0))) (h + 425) (eI 8 (fun _ => 0))) (h + 426) (eI 8 (fun _ => 0))) (h + 427) (eI 24 (fun _ => 0))) (h + 428) (eI 48 (fun _ => 0))) (h + 429) (eI 8 (fun _ => 0))) (h + 430) (eI 24 (fun _ => 0))) (h + 431) (eI 48 (fun _ => 0)), h + 432, s1 + 3 + 16 + 8 + 8 + 24 + 48 + 8 + 24 + 48) _
  refine i_words hb 16 0 _ _ rfl hP (fun w hw => absurd hw (Nat.not_lt_zero w)) (fun σ1 fwo hP1 z1 w1 => ?_)
  simp (disch := omega) only [sL_law_99, sL_law_100, aFld, aFds, aRow, aRowR, aRefs, aLn, if_true, List.getElem?_cons_zero, List.getElem?_cons_succ, List.set_cons_zero, List.set_cons_succ, List.length_cons, List.length_nil, Option.some.injEq, exists_eq_left', aput_same, aclr_none, aclr_int, aclr_ref, aclr_null, aret_some, aret_none, bz, bz0, bz1, true_and, and_true, vpT, nIc, nI_add, pk_mul, nI_sub', Nat.add_zero, Nat.zero_add, upd_same, upd_ne, if_false, not_true_eq_false, not_false_eq_true, ite_z, ite_o, eq_self, Bool.false_eq_true, nI_leT, nI_leF, nI_ltT, nI_ltF, nI_ne, and_self, false_and, and_false, nI_rem]
  refine i_draws hb 8 0 _ _ rfl hP1 (fun w hw => absurd hw (Nat.not_lt_zero w)) (fun σ2 fdr hP2 z2 w2 => ?_)
  simp (disch := omega) only [sL_law_123, sL_law_124, aFld, aFds, aRow, aRowR, aRefs, aLn, if_true, List.getElem?_cons_zero, List.getElem?_cons_succ, List.set_cons_zero, List.set_cons_succ, List.length_cons, List.length_nil, Option.some.injEq, exists_eq_left', aput_same, aclr_none, aclr_int, aclr_ref, aclr_null, aret_some, aret_none, bz, bz0, bz1, true_and, and_true, vpT, nIc, nI_add, pk_mul, nI_sub', Nat.add_zero, Nat.zero_add, upd_same, upd_ne, if_false, not_true_eq_false, not_false_eq_true, ite_z, ite_o, eq_self, Bool.false_eq_true, nI_leT, nI_leF, nI_ltT, nI_ltF, nI_ne, and_self, false_and, and_false, nI_rem]
  have hz := z2.trans z1
  have hE : LaE σ2 b L xs h := ⟨_, _, _, _, _, _, _, _, _, i0, 0, hP2, ⟨by rw [i0_z (Or.inr rfl), nI_0], nI_0.symm, by rw [i0_z (Or.inl (by omega)), nI_0], w1, w2, fun s hs => by rw [i0_z (Or.inl (by omega)), nI_0], fun a ha => absurd ha (Nat.not_lt_zero a)⟩, i0_K, i0_z (Or.inl (by omega)), by omega⟩
  refine law_loop hb hL 32 0 _ _ _ _ _ _ _ _ σ2 rfl hE (fun τ h1 h2 => ⟨rfl, ?_, ?_⟩)
  · rw [hz] at h1
    have h1' : τ.2.1 ≤ h + 432 + 3 * 32 := h1
    omega
  · rw [hz] at h2
    have h2' : τ.2.2 ≤ s1 + 3 + 16 + 8 + 8 + 24 + 48 + 8 + 24 + 48 + 19 * 32 := h2
    omega
end LS2
