/-! the other constructors -/
section CI2
variable {d : Nat} {Q : aQ}
theorem ci_fore {F : Nat → Option aE} {fc s : Nat} (h0 : F fc = some (eO 1 [.null, .null, .int 0])) (K : ∀ F', FoS (F', fc + 5, s + 31) fc (fun _ => 0) → (∀ q, q < fc → F' q = F q) → Q none (F', fc + 5, s + 31)) : aX (d + 1) iX1_init 0 [some (.ref fc)] [] (F, fc + 1, s) Q := by
  have hn : pf F (fc + 1) (eO 0 [.null, .null, .int 0, .int 0, .int 0, .int 0, .int 0]) (fc + 1) = some (eO 0 [.null, .null, .int 0, .int 0, .int 0, .int 0, .int 0]) := pf_same
  have hI : aIs (pf F (fc + 1) (eO 0 [.null, .null, .int 0, .int 0, .int 0, .int 0, .int 0]), fc + 1 + 1, s + 7) (fc + 1) 0 = True := aIsT hn
  simp (disch := omega) only [sX1_init_0, sX1_init_1, sX1_init_4, sX1_init_5, sX1_init_8, sX1_init_8i, sX1_init_9, hI, aput_mk, anew_mk, pf_same, pf_ne, cF_l, cF_g0, cF_g1, cF_g2, cF_g3, cF_g4, cF_g5, tF_l, tF_g0, tF_g1, tF_g2, tF_g3, tF_g4, tF_g5, tF_s3, tF_s4, tF_s5, aFld, aFds, aRow, aRowR, aRefs, aLn, if_true, List.getElem?_cons_zero, List.getElem?_cons_succ, List.set_cons_zero, List.set_cons_succ, List.length_cons, List.length_nil, Option.some.injEq, exists_eq_left', aput_same, aclr_none, aclr_int, aclr_ref, aclr_null, aret_some, aret_none, bz, bz0, bz1, true_and, and_true, vpT, nIc, nI_add, pk_mul, nI_sub', Nat.add_zero, Nat.zero_add, upd_same, upd_ne, if_false, not_true_eq_false, not_false_eq_true, ite_z, ite_o, eq_self, Bool.false_eq_true, nI_leT, nI_leF, nI_ltT, nI_ltF, nI_ne, and_self, false_and, and_false, Nat.reduceAdd, Nat.reduceSub, Nat.reduceMul, Nat.reduceLT, Nat.reduceLeDiff, true_and]
  refine ci_alb hn (fun F' hA hF' => ?_)
  have h0' : F' fc = some (eO 1 [.null, .null, .int 0]) := (hF' _ (by omega)).trans ((pf_ne (by omega)).trans h0)
  simp (disch := omega) only [sX1_init_12, sX1_init_15, sX1_init_16, sX1_init_18, sX1_init_20, sX1_init_23, h0', aput_mk, anew_mk, pf_same, pf_ne, cF_l, cF_g0, cF_g1, cF_g2, cF_g3, cF_g4, cF_g5, tF_l, tF_g0, tF_g1, tF_g2, tF_g3, tF_g4, tF_g5, tF_s3, tF_s4, tF_s5, aFld, aFds, aRow, aRowR, aRefs, aLn, if_true, List.getElem?_cons_zero, List.getElem?_cons_succ, List.set_cons_zero, List.set_cons_succ, List.length_cons, List.length_nil, Option.some.injEq, exists_eq_left', aput_same, aclr_none, aclr_int, aclr_ref, aclr_null, aret_some, aret_none, bz, bz0, bz1, true_and, and_true, vpT, nIc, nI_add, pk_mul, nI_sub', Nat.add_zero, Nat.zero_add, upd_same, upd_ne, if_false, not_true_eq_false, not_false_eq_true, ite_z, ite_o, eq_self, Bool.false_eq_true, nI_leT, nI_leF, nI_ltT, nI_ltF, nI_ne, and_self, false_and, and_false, Nat.reduceAdd, Nat.reduceSub, Nat.reduceMul, Nat.reduceLT, Nat.reduceLeDiff, true_and]
  refine K _ ⟨0, 0, 0, 0, -6, 0, fun _ => 0, fun _ => 0, ?_, ?_, ?_, ?_, ?_⟩ (fun q hq => ?_)
  · simp (disch := omega) only [pf_same, pf_ne]
  · simp (disch := omega) only [pf_same, pf_ne]
  · simp (disch := omega) only [pf_same, pf_ne]; exact hA.1
  · simp (disch := omega) only [pf_same, pf_ne]; exact hA.2.1
  · simp (disch := omega) only [pf_same, pf_ne]; exact hA.2.2
  · simp (disch := omega) only [pf_same, pf_ne]; exact (hF' _ (by omega)).trans (pf_ne (by omega))
theorem ci_slot {F : Nat → Option aE} {b s : Nat} (h0 : F b = some (eO 4 [.null, .int 0])) (K : ∀ F', F' b = some (eO 4 [.ref (b + 1), .int 0]) → TabR (F', b + 42, s + 327) (b + 1) i0 → (∀ q, q < b → F' q = F q) → Q none (F', b + 42, s + 327)) : aX (d + 2) iX4_init 0 [some (.ref b)] [] (F, b + 1, s) Q := by
  have hn : pf F (b + 1) (eO 5 [.null, .null, .null, .null, .int 0, .int 0, .int 0]) (b + 1) = some (eO 5 [.null, .null, .null, .null, .int 0, .int 0, .int 0]) := pf_same
  have hI : aIs (pf F (b + 1) (eO 5 [.null, .null, .null, .null, .int 0, .int 0, .int 0]), b + 1 + 1, s + 7) (b + 1) 5 = True := aIsT hn
  simp (disch := omega) only [sX4_init_0, sX4_init_1, sX4_init_4, sX4_init_5, sX4_init_8, sX4_init_8i, sX4_init_9, hI, aput_mk, anew_mk, pf_same, pf_ne, cF_l, cF_g0, cF_g1, cF_g2, cF_g3, cF_g4, cF_g5, tF_l, tF_g0, tF_g1, tF_g2, tF_g3, tF_g4, tF_g5, tF_s3, tF_s4, tF_s5, aFld, aFds, aRow, aRowR, aRefs, aLn, if_true, List.getElem?_cons_zero, List.getElem?_cons_succ, List.set_cons_zero, List.set_cons_succ, List.length_cons, List.length_nil, Option.some.injEq, exists_eq_left', aput_same, aclr_none, aclr_int, aclr_ref, aclr_null, aret_some, aret_none, bz, bz0, bz1, true_and, and_true, vpT, nIc, nI_add, pk_mul, nI_sub', Nat.add_zero, Nat.zero_add, upd_same, upd_ne, if_false, not_true_eq_false, not_false_eq_true, ite_z, ite_o, eq_self, Bool.false_eq_true, nI_leT, nI_leF, nI_ltT, nI_ltF, nI_ne, and_self, false_and, and_false, Nat.reduceAdd, Nat.reduceSub, Nat.reduceMul, Nat.reduceLT, Nat.reduceLeDiff, true_and]
  refine ci_tab hn (fun F' hT hF' => ?_)
  have h0' : F' b = some (eO 4 [.null, .int 0]) := (hF' _ (by omega)).trans ((pf_ne (by omega)).trans h0)
  simp (disch := omega) only [sX4_init_12, sX4_init_15, h0', aput_mk, anew_mk, pf_same, pf_ne, cF_l, cF_g0, cF_g1, cF_g2, cF_g3, cF_g4, cF_g5, tF_l, tF_g0, tF_g1, tF_g2, tF_g3, tF_g4, tF_g5, tF_s3, tF_s4, tF_s5, aFld, aFds, aRow, aRowR, aRefs, aLn, if_true, List.getElem?_cons_zero, List.getElem?_cons_succ, List.set_cons_zero, List.set_cons_succ, List.length_cons, List.length_nil, Option.some.injEq, exists_eq_left', aput_same, aclr_none, aclr_int, aclr_ref, aclr_null, aret_some, aret_none, bz, bz0, bz1, true_and, and_true, vpT, nIc, nI_add, pk_mul, nI_sub', Nat.add_zero, Nat.zero_add, upd_same, upd_ne, if_false, not_true_eq_false, not_false_eq_true, ite_z, ite_o, eq_self, Bool.false_eq_true, nI_leT, nI_leF, nI_ltT, nI_ltF, nI_ne, and_self, false_and, and_false, Nat.reduceAdd, Nat.reduceSub, Nat.reduceMul, Nat.reduceLT, Nat.reduceLeDiff, true_and]
  have := K (pf F' b (eO 4 [.ref (b + 1), .int 0])) pf_same (TabR_keep (fun q g1 g2 => pf_ne (by omega)) hT) (fun q hq => (pf_ne (by omega)).trans ((hF' q (by omega)).trans (pf_ne (by omega))))
  rw [show b + 1 + 41 = b + 42 by omega, show s + 7 + 320 = s + 327 by omega]
  exact this
theorem ci_pad {F : Nat → Option aE} {w s : Nat} (h0 : F w = some (eO 3 [.null, .int 0, .int 0, .int 0, .int 0, .int 0])) (K : ∀ F', PaC (F', w + 2, s + 80) w 0 (fun _ => 0) 0 0 0 0 → (∀ q, q < w → F' q = F q) → Q none (F', w + 2, s + 80)) : aX (d + 1) iX3_init 0 [some (.ref w)] [] (F, w + 1, s) Q := by
  simp (disch := omega) only [sX3_init_0, sX3_init_1, sX3_init_4, sX3_init_5, sX3_init_7, sX3_init_9, sX3_init_12, h0, aput_mk, anew_mk, pf_same, pf_ne, cF_l, cF_g0, cF_g1, cF_g2, cF_g3, cF_g4, cF_g5, tF_l, tF_g0, tF_g1, tF_g2, tF_g3, tF_g4, tF_g5, tF_s3, tF_s4, tF_s5, aFld, aFds, aRow, aRowR, aRefs, aLn, if_true, List.getElem?_cons_zero, List.getElem?_cons_succ, List.set_cons_zero, List.set_cons_succ, List.length_cons, List.length_nil, Option.some.injEq, exists_eq_left', aput_same, aclr_none, aclr_int, aclr_ref, aclr_null, aret_some, aret_none, bz, bz0, bz1, true_and, and_true, vpT, nIc, nI_add, pk_mul, nI_sub', Nat.add_zero, Nat.zero_add, upd_same, upd_ne, if_false, not_true_eq_false, not_false_eq_true, ite_z, ite_o, eq_self, Bool.false_eq_true, nI_leT, nI_leF, nI_ltT, nI_ltF, nI_ne, and_self, false_and, and_false, Nat.reduceAdd, Nat.reduceSub, Nat.reduceMul, Nat.reduceLT, Nat.reduceLeDiff, true_and]
  refine K _ ⟨?_, ?_⟩ (fun q hq => ?_)
  · unfold qF
    rw [nI_0]
    simp (disch := omega) only [pf_same, pf_ne]
  · simp (disch := omega) only [pf_same, pf_ne]
  · simp (disch := omega) only [pf_same, pf_ne]
theorem ci_h_loop {h : Nat} {F0 : Nat → Option aE} : ∀ (k j s : Nat) (F : Nat → Option aE), j + k = 7 → F h = some (eO 2 [.ref (h + 1), .int 0, .int 0]) → (∃ G, F (h + 1) = some (eQ 2 7 G) ∧ ∀ i, i < j → G i = some (h + 2 + 41 * i)) → (∀ i, i < j → TabR (F, h + 2 + 41 * j, s) (h + 2 + 41 * i) i0) → (∀ q, q < h → F q = F0 q) → (∀ F' s', s' = s + 327 * k → F' h = some (eO 2 [.ref (h + 1), .int 0, .int 0]) → (∃ G, F' (h + 1) = some (eQ 2 7 G) ∧ ∀ i, i < 7 → G i = some (h + 2 + 41 * i)) → (∀ i, i < 7 → TabR (F', h + 289, s') (h + 2 + 41 * i) i0) → (∀ q, q < h → F' q = F0 q) → Q none (F', h + 289, s')) → aX (d + 2) iX2_init 15 [some (.ref h), some (.int (nI j))] [] (F, h + 2 + 41 * j, s) Q
  | 0, j, s, F, hj, h0, ⟨G, hG, hG2⟩, hA, hF, K => by
    have e : j = 7 := by omega
    subst e
    have := K F s (by omega) h0 ⟨G, hG, hG2⟩ hA hF
    rw [sX2_init_15]
    simp (disch := omega) only [sX2_init_16, sX2_init_17, sX2_init_20, sX2_init_21, sX2_init_24, sX2_init_25, sX2_init_28, sX2_init_29, sX2_init_32, sX2_init_32i, sX2_init_33, sX2_init_36, sX2_init_37, sX2_init_40, sX2_init_43, h0, hG, aput_mk, anew_mk, pf_same, pf_ne, cF_l, cF_g0, cF_g1, cF_g2, cF_g3, cF_g4, cF_g5, tF_l, tF_g0, tF_g1, tF_g2, tF_g3, tF_g4, tF_g5, tF_s3, tF_s4, tF_s5, aFld, aFds, aRow, aRowR, aRefs, aLn, if_true, List.getElem?_cons_zero, List.getElem?_cons_succ, List.set_cons_zero, List.set_cons_succ, List.length_cons, List.length_nil, Option.some.injEq, exists_eq_left', aput_same, aclr_none, aclr_int, aclr_ref, aclr_null, aret_some, aret_none, bz, bz0, bz1, true_and, and_true, vpT, nIc, nI_add, pk_mul, nI_sub', Nat.add_zero, Nat.zero_add, upd_same, upd_ne, if_false, not_true_eq_false, not_false_eq_true, ite_z, ite_o, eq_self, Bool.false_eq_true, nI_leT, nI_leF, nI_ltT, nI_ltF, nI_ne, and_self, false_and, and_false, Nat.reduceAdd, Nat.reduceSub, Nat.reduceMul, Nat.reduceLT, Nat.reduceLeDiff, true_and]
    exact this
  | k + 1, j, s, F, hj, h0, ⟨G, hG, hG2⟩, hA, hF, K => by
    have ih := ci_h_loop (h := h) (F0 := F0) k (j + 1) (s + 7 + 320)
    have hn : pf F (h + 2 + 41 * j) (eO 5 [.null, .null, .null, .null, .int 0, .int 0, .int 0]) (h + 2 + 41 * j) = some (eO 5 [.null, .null, .null, .null, .int 0, .int 0, .int 0]) := pf_same
    have hI : aIs (pf F (h + 2 + 41 * j) (eO 5 [.null, .null, .null, .null, .int 0, .int 0, .int 0]), h + 2 + 41 * j + 1, s + 7) (h + 2 + 41 * j) 5 = True := aIsT hn
    rw [sX2_init_15]
    simp (disch := omega) only [sX2_init_16, sX2_init_17, sX2_init_20, sX2_init_21, sX2_init_24, sX2_init_25, sX2_init_28, sX2_init_29, sX2_init_32, sX2_init_32i, sX2_init_33, h0, hG, hI, aput_mk, anew_mk, pf_same, pf_ne, cF_l, cF_g0, cF_g1, cF_g2, cF_g3, cF_g4, cF_g5, tF_l, tF_g0, tF_g1, tF_g2, tF_g3, tF_g4, tF_g5, tF_s3, tF_s4, tF_s5, aFld, aFds, aRow, aRowR, aRefs, aLn, if_true, List.getElem?_cons_zero, List.getElem?_cons_succ, List.set_cons_zero, List.set_cons_succ, List.length_cons, List.length_nil, Option.some.injEq, exists_eq_left', aput_same, aclr_none, aclr_int, aclr_ref, aclr_null, aret_some, aret_none, bz, bz0, bz1, true_and, and_true, vpT, nIc, nI_add, pk_mul, nI_sub', Nat.add_zero, Nat.zero_add, upd_same, upd_ne, if_false, not_true_eq_false, not_false_eq_true, ite_z, ite_o, eq_self, Bool.false_eq_true, nI_leT, nI_leF, nI_ltT, nI_ltF, nI_ne, and_self, false_and, and_false, Nat.reduceAdd, Nat.reduceSub, Nat.reduceMul, Nat.reduceLT, Nat.reduceLeDiff, true_and]
    refine ci_tab hn (fun F' hT hF' => ?_)
    have g4 : F' (h + 1) = some (eQ 2 7 G) := (hF' _ (by omega)).trans ((pf_ne (by omega)).trans hG)
    have hin : vp_in (nI j) 7 := vp_in_nI (by omega) (by omega)
    have hr := sX2_init_36 (d := d + 2) (σ := (F', h + 2 + 41 * j + 41, s + 7 + 320)) (Q := Q) (i := nI j) (ls := [some (.ref h), some (.int (nI j))]) (st := []) g4 hT.1 hin ⟨rfl, rfl⟩
    simp (disch := omega) only [hr, aput_mk, anew_mk, pf_same, pf_ne, cF_l, cF_g0, cF_g1, cF_g2, cF_g3, cF_g4, cF_g5, tF_l, tF_g0, tF_g1, tF_g2, tF_g3, tF_g4, tF_g5, tF_s3, tF_s4, tF_s5, aFld, aFds, aRow, aRowR, aRefs, aLn, if_true, List.getElem?_cons_zero, List.getElem?_cons_succ, List.set_cons_zero, List.set_cons_succ, List.length_cons, List.length_nil, Option.some.injEq, exists_eq_left', aput_same, aclr_none, aclr_int, aclr_ref, aclr_null, aret_some, aret_none, bz, bz0, bz1, true_and, and_true, vpT, nIc, nI_add, pk_mul, nI_sub', Nat.add_zero, Nat.zero_add, upd_same, upd_ne, if_false, not_true_eq_false, not_false_eq_true, ite_z, ite_o, eq_self, Bool.false_eq_true, nI_leT, nI_leF, nI_ltT, nI_ltF, nI_ne, and_self, false_and, and_false, Nat.reduceAdd, Nat.reduceSub, Nat.reduceMul, Nat.reduceLT, Nat.reduceLeDiff, true_and]
    simp (disch := omega) only [sX2_init_37, sX2_init_40, aput_mk, anew_mk, pf_same, pf_ne, cF_l, cF_g0, cF_g1, cF_g2, cF_g3, cF_g4, cF_g5, tF_l, tF_g0, tF_g1, tF_g2, tF_g3, tF_g4, tF_g5, tF_s3, tF_s4, tF_s5, aFld, aFds, aRow, aRowR, aRefs, aLn, if_true, List.getElem?_cons_zero, List.getElem?_cons_succ, List.set_cons_zero, List.set_cons_succ, List.length_cons, List.length_nil, Option.some.injEq, exists_eq_left', aput_same, aclr_none, aclr_int, aclr_ref, aclr_null, aret_some, aret_none, bz, bz0, bz1, true_and, and_true, vpT, nIc, nI_add, pk_mul, nI_sub', Nat.add_zero, Nat.zero_add, upd_same, upd_ne, if_false, not_true_eq_false, not_false_eq_true, ite_z, ite_o, eq_self, Bool.false_eq_true, nI_leT, nI_leF, nI_ltT, nI_ltF, nI_ne, and_self, false_and, and_false, Nat.reduceAdd, Nat.reduceSub, Nat.reduceMul, Nat.reduceLT, Nat.reduceLeDiff, true_and]
    have hk : ∀ q, q < h + 2 + 41 * j → q ≠ h + 1 → pf F' (h + 1) (eQ 2 7 (va_up G j (some (h + 2 + 41 * j)))) q = F q := fun q hq hq4 => (pf_ne hq4).trans ((hF' q (by omega)).trans (pf_ne (by omega)))
    have hh := ih (pf F' (h + 1) (eQ 2 7 (va_up G j (some (h + 2 + 41 * j))))) (by omega) ?_ ⟨_, pf_same, fun i hi => ?_⟩ (fun i hi => ?_) (fun q hq => ?_) (fun F2 s2 y0 y1 y2 y3 y4 => K F2 s2 (by omega) y1 y2 y3 y4)
    · rw [show h + 2 + 41 * (j + 1) = h + 2 + 41 * j + 41 by omega] at hh
      exact hh
    · exact (hk _ (by omega) (by omega)).trans h0
    · by_cases e : i = j
      · subst e; exact va_up_same
      · rw [va_up_ne _ _ e]; exact hG2 i (by omega)
    · by_cases e : i = j
      · subst e
        exact TabR_keep (fun q g1 g2 => pf_ne (by omega)) hT
      · exact TabR_keep (σ := (F, h + 2 + 41 * j, s)) (fun q g1 g2 => hk q (by omega) (by omega)) (hA i (by omega))
    · exact (hk _ (by omega) (by omega)).trans (hF q hq)
theorem ci_his {F : Nat → Option aE} {h s : Nat} (h0 : F h = some (eO 2 [.null, .int 0, .int 0])) (K : ∀ F', (∀ hi, HisR (F', h + 289, s + 2296) h 0 0 hi) → (∀ q, q < h → F' q = F q) → Q none (F', h + 289, s + 2296)) : aX (d + 2) iX2_init 0 [some (.ref h), none] [] (F, h + 1, s) Q := by
  simp (disch := omega) only [sX2_init_0, sX2_init_1, sX2_init_4, sX2_init_5, sX2_init_7, sX2_init_10, sX2_init_13, sX2_init_14, h0, aput_mk, anew_mk, pf_same, pf_ne, cF_l, cF_g0, cF_g1, cF_g2, cF_g3, cF_g4, cF_g5, tF_l, tF_g0, tF_g1, tF_g2, tF_g3, tF_g4, tF_g5, tF_s3, tF_s4, tF_s5, aFld, aFds, aRow, aRowR, aRefs, aLn, if_true, List.getElem?_cons_zero, List.getElem?_cons_succ, List.set_cons_zero, List.set_cons_succ, List.length_cons, List.length_nil, Option.some.injEq, exists_eq_left', aput_same, aclr_none, aclr_int, aclr_ref, aclr_null, aret_some, aret_none, bz, bz0, bz1, true_and, and_true, vpT, nIc, nI_add, pk_mul, nI_sub', Nat.add_zero, Nat.zero_add, upd_same, upd_ne, if_false, not_true_eq_false, not_false_eq_true, ite_z, ite_o, eq_self, Bool.false_eq_true, nI_leT, nI_leF, nI_ltT, nI_ltF, nI_ne, and_self, false_and, and_false, Nat.reduceAdd, Nat.reduceSub, Nat.reduceMul, Nat.reduceLT, Nat.reduceLeDiff, true_and]
  have hh := ci_h_loop (d := d) (Q := Q) (h := h) (F0 := F) 7 0 (s + 7) (pf (pf F (h + 1) (eQ 2 7 (fun _ => none))) h (eO 2 [.ref (h + 1), .int 0, .int 0])) rfl pf_same ⟨_, (pf_ne (by omega)).trans pf_same, fun i hi => absurd hi (Nat.not_lt_zero i)⟩ (fun i hi => absurd hi (Nat.not_lt_zero i)) (fun q hq => (pf_ne (by omega)).trans (pf_ne (by omega))) (fun F' s' hs y1 y2 y3 y4 => ?_)
  · exact hh
  · have hs2 : s' = s + 2296 := by omega
    subst hs2
    refine K F' (fun hi => ⟨⟨?_, y2⟩, by omega, by omega, fun j hj => ⟨i0, y3 j hj⟩, fun i hi => absurd hi (Nat.not_lt_zero i)⟩) y4
    rw [nI_0]
    exact y1
def jS (j k : Nat) : Int32 := if k < 16 then nI ((k * k * 37 + k * 113 + 5) % 4096) else if 17 ≤ k ∧ k < 17 + j then nI 4095 else 0
theorem jS_0 : jS 0 = iF 16 := by
  funext k
  unfold jS iF
  by_cases h : k < 16
  · rw [if_pos h, if_pos h]
  · rw [if_neg h, if_neg h, if_neg (by omega)]
theorem jS_8 : jS 8 = i0 := rfl
theorem jS_s (j : Nat) : upd (jS j) (17 + j) (nI 4095) = jS (j + 1) := by
  funext k
  unfold upd jS
  by_cases e : k = 17 + j
  · subst e
    rw [if_pos rfl, if_neg (by omega), if_pos (by omega)]
  · rw [if_neg e]
    by_cases h : k < 16
    · rw [if_pos h, if_pos h]
    · rw [if_neg h, if_neg h]
      by_cases g : 17 ≤ k ∧ k < 17 + j
      · rw [if_pos g, if_pos (by omega)]
      · rw [if_neg g, if_neg (by omega)]
end CI2
