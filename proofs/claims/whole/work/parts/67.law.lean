/-! THE LAW: its loop; all of it on the small machine -/
theorem len_lt {L i : Nat} (hL : L ≤ 2048) (hi : i ≤ 4000) : (nI L - nI 4 < nI i) = (L < i + 4) := by
  rcases Nat.lt_or_ge L 4 with h | h
  · have h1 : nI L - nI 4 < nI 0 := (by decide +kernel : ∀ L, L < 4 → nI L - nI 4 < nI 0) L h
    rw [eq_true (Int32.lt_of_lt_of_le h1 (nI_nn (n := i) (by omega))), eq_true (show L < i + 4 by omega)]
  · rw [nI_sub' h, nI_ltL (by omega) (by omega)]
    exact propext ⟨fun z => by omega, fun z => by omega⟩
section LW
variable {d x m b L : Nat} {xs : Nat → Int32}
theorem law_loop (hm : x + 423 ≤ m) (hb : b < x) (hL : L ≤ 2048) {z : Nat × Nat} : ∀ (k i : Nat) (σ : aS), L ≤ i + 4 * k → i ≤ 2100 → LaI σ x m → σ.1 b = some (eS L xs) → σ.2 = z → aX (d + 9) iL_law 18 [some (.ref b), some (.ref x), some (.ref m), some (.int (nI i))] [] σ (fun r τ => r = some (.int (nI 1)) ∧ τ.2 = z) := by
  intro k
  induction k with
  | zero =>
    intro i σ h1 h2 hI hs hz
    have hN : narrow .boolean (.int (nI 1)) = .int (nI 1) := by decide
    have hlt := len_lt hL (show i ≤ 4000 by omega)
    rw [eq_true (show L < i + 4 by omega)] at hlt
    simp (disch := omega) only [sL_law_18, sL_law_19, sL_law_20, sL_law_21, sL_law_22, sL_law_23, sL_law_745, sL_law_746, aLn, hs, hlt, hN, cF_l, cF_g0, cF_g1, cF_g2, cF_g3, cF_g4, cF_g5, tF_l, tF_g0, tF_g1, tF_g2, tF_g3, tF_g4, tF_g5, tF_s3, tF_s4, tF_s5, aFld, aFds, aRow, aRowR, aRefs, aLn, if_true, List.getElem?_cons_zero, List.getElem?_cons_succ, List.set_cons_zero, List.set_cons_succ, List.length_cons, List.length_nil, Option.some.injEq, exists_eq_left', aput_same, aclr_none, aclr_int, aclr_ref, aclr_null, aret_some, aret_none, bz, bz0, bz1, true_and, and_true, vpT, nIc, nI_add, pk_mul, nI_sub', Nat.add_zero, Nat.zero_add, upd_same, upd_ne, if_false, not_true_eq_false, not_false_eq_true, ite_z, ite_o, eq_self, Bool.false_eq_true, nI_leT, nI_leF, nI_ltT, nI_ltF, nI_ne, and_self, false_and, and_false, Nat.reduceAdd, Nat.reduceSub, Nat.reduceMul, Nat.reduceLT, Nat.reduceLeDiff, true_and]
    exact hz
  | succ k ih =>
    intro i σ h1 h2 hI hs hz
    have hN : narrow .boolean (.int (nI 1)) = .int (nI 1) := by decide
    have hlt := len_lt hL (show i ≤ 4000 by omega)
    rcases Nat.lt_or_ge L (i + 4) with g | g
    · rw [eq_true g] at hlt
      simp (disch := omega) only [sL_law_18, sL_law_19, sL_law_20, sL_law_21, sL_law_22, sL_law_23, sL_law_745, sL_law_746, aLn, hs, hlt, hN, cF_l, cF_g0, cF_g1, cF_g2, cF_g3, cF_g4, cF_g5, tF_l, tF_g0, tF_g1, tF_g2, tF_g3, tF_g4, tF_g5, tF_s3, tF_s4, tF_s5, aFld, aFds, aRow, aRowR, aRefs, aLn, if_true, List.getElem?_cons_zero, List.getElem?_cons_succ, List.set_cons_zero, List.set_cons_succ, List.length_cons, List.length_nil, Option.some.injEq, exists_eq_left', aput_same, aclr_none, aclr_int, aclr_ref, aclr_null, aret_some, aret_none, bz, bz0, bz1, true_and, and_true, vpT, nIc, nI_add, pk_mul, nI_sub', Nat.add_zero, Nat.zero_add, upd_same, upd_ne, if_false, not_true_eq_false, not_false_eq_true, ite_z, ite_o, eq_self, Bool.false_eq_true, nI_leT, nI_leF, nI_ltT, nI_ltF, nI_ne, and_self, false_and, and_false, Nat.reduceAdd, Nat.reduceSub, Nat.reduceMul, Nat.reduceLT, Nat.reduceLeDiff, true_and]
      exact hz
    · rw [eq_false (show ¬ L < i + 4 by omega)] at hlt
      have K : ∀ τ, LaI τ x m → τ.1 b = some (eS L xs) → τ.2 = σ.2 → aX (d + 9) iL_law 18 [some (.ref b), some (.ref x), some (.ref m), some (.int (nI (i + 4)))] [] τ (fun r τ => r = some (.int (nI 1)) ∧ τ.2 = z) := fun τ k1 k2 k3 => ih (i + 4) τ (by omega) (by omega) k1 k2 (k3.trans hz)
      simp (disch := omega) only [sL_law_18, sL_law_19, sL_law_20, sL_law_21, sL_law_22, sL_law_23, sL_law_26, sL_law_27, sL_law_28, sL_law_29, sL_law_31, aLn, aRowR, hs, hlt, cF_l, cF_g0, cF_g1, cF_g2, cF_g3, cF_g4, cF_g5, tF_l, tF_g0, tF_g1, tF_g2, tF_g3, tF_g4, tF_g5, tF_s3, tF_s4, tF_s5, aFld, aFds, aRow, aRowR, aRefs, aLn, if_true, List.getElem?_cons_zero, List.getElem?_cons_succ, List.set_cons_zero, List.set_cons_succ, List.length_cons, List.length_nil, Option.some.injEq, exists_eq_left', aput_same, aclr_none, aclr_int, aclr_ref, aclr_null, aret_some, aret_none, bz, bz0, bz1, true_and, and_true, vpT, nIc, nI_add, pk_mul, nI_sub', Nat.add_zero, Nat.zero_add, upd_same, upd_ne, if_false, not_true_eq_false, not_false_eq_true, ite_z, ite_o, eq_self, Bool.false_eq_true, nI_leT, nI_leF, nI_ltT, nI_ltF, nI_ne, and_self, false_and, and_false, Nat.reduceAdd, Nat.reduceSub, Nat.reduceMul, Nat.reduceLT, Nat.reduceLeDiff, true_and]
      rcases i_split 22 (xs i &&& nI 31) with ⟨j, hj, e⟩ | e
      · rw [e]
        clear e
        match j, hj with
        | 0, _ =>
          rw [sL_law_32_0]
          exact lc_teach hm hb hs g hL hI K
        | 1, _ =>
          rw [sL_law_32_1]
          exact lc_sit hm hb hs g hL hI K
        | 2, _ =>
          rw [sL_law_32_2]
          exact lc_leave hm hb hs g hL hI K
        | 3, _ =>
          rw [sL_law_32_3]
          exact lc_begin hm hb hs g hL hI K
        | 4, _ =>
          rw [sL_law_32_4]
          exact lc_tell hm hb hs g hL hI K
        | 5, _ =>
          rw [sL_law_32_5]
          exact lc_round hm hb hs g hL hI K
        | 6, _ =>
          rw [sL_law_32_6]
          exact lc_clear hm hb hs g hL hI K
        | 7, _ =>
          rw [sL_law_32_7]
          exact lc_of hm hb hs g hL hI K
        | 8, _ =>
          rw [sL_law_32_8]
          exact lc_page hm hb hs g hL hI K
        | 9, _ =>
          rw [sL_law_32_9]
          exact lc_seat hm hb hs g hL hI K
        | 10, _ =>
          rw [sL_law_32_10]
          exact lc_word hm hb hs g hL hI K
        | 11, _ =>
          rw [sL_law_32_11]
          exact lc_count hm hb hs g hL hI K
        | 12, _ =>
          rw [sL_law_32_12]
          exact lc_guess hm hb hs g hL hI K
        | 13, _ =>
          rw [sL_law_32_13]
          exact lc_foretold hm hb hs g hL hI K
        | 14, _ =>
          rw [sL_law_32_14]
          exact lc_bestWord hm hb hs g hL hI K
        | 15, _ =>
          rw [sL_law_32_15]
          exact lc_pointsThen hm hb hs g hL hI K
        | 16, _ =>
          rw [sL_law_32_16]
          exact lc_put hm hb hs g hL hI K
        | 17, _ =>
          rw [sL_law_32_17]
          exact lc_wipe hm hb hs g hL hI K
        | 18, _ =>
          rw [sL_law_32_18]
          exact lc_fault hm hb hs g hL hI K
        | 19, _ =>
          rw [sL_law_32_19]
          exact lc_carryOut hm hb hs g hL hI K
        | 20, _ =>
          rw [sL_law_32_20]
          exact lc_undo hm hb hs g hL hI K
        | 21, _ =>
          rw [sL_law_32_21]
          exact lc_save hm hb hs g hL hI K
        | 22, _ =>
          rw [sL_law_32_22]
          exact lc_restore hm hb hs g hL hI K
        | j + 23, hj => omega
      · rw [sL_law_32_d (e 0 (by omega)) (e 1 (by omega)) (e 2 (by omega)) (e 3 (by omega)) (e 4 (by omega)) (e 5 (by omega)) (e 6 (by omega)) (e 7 (by omega)) (e 8 (by omega)) (e 9 (by omega)) (e 10 (by omega)) (e 11 (by omega)) (e 12 (by omega)) (e 13 (by omega)) (e 14 (by omega)) (e 15 (by omega)) (e 16 (by omega)) (e 17 (by omega)) (e 18 (by omega)) (e 19 (by omega)) (e 20 (by omega)) (e 21 (by omega)) (e 22 (by omega))]
        have := K σ hI hs rfl
        simp (disch := omega) only [sL_law_739, sL_law_742, cF_l, cF_g0, cF_g1, cF_g2, cF_g3, cF_g4, cF_g5, tF_l, tF_g0, tF_g1, tF_g2, tF_g3, tF_g4, tF_g5, tF_s3, tF_s4, tF_s5, aFld, aFds, aRow, aRowR, aRefs, aLn, if_true, List.getElem?_cons_zero, List.getElem?_cons_succ, List.set_cons_zero, List.set_cons_succ, List.length_cons, List.length_nil, Option.some.injEq, exists_eq_left', aput_same, aclr_none, aclr_int, aclr_ref, aclr_null, aret_some, aret_none, bz, bz0, bz1, true_and, and_true, vpT, nIc, nI_add, pk_mul, nI_sub', Nat.add_zero, Nat.zero_add, upd_same, upd_ne, if_false, not_true_eq_false, not_false_eq_true, ite_z, ite_o, eq_self, Bool.false_eq_true, nI_leT, nI_leF, nI_ltT, nI_ltF, nI_ne, and_self, false_and, and_false, Nat.reduceAdd, Nat.reduceSub, Nat.reduceMul, Nat.reduceLT, Nat.reduceLeDiff, true_and]
        exact this
theorem zz : (fun _ : Nat => (0 : Int32)) = fun _ => nI 0 := funext fun _ => nI_0.symm
theorem LaI_0 {F : Nat → Option aE} {x s : Nat} (hx : F x = some (xO x)) (hT : TabR (F, x + 430, s) (x + 1) i0) (hF : FoS (F, x + 430, s) (x + 42) (fun _ => 0)) (hH : HisR (F, x + 430, s) (x + 47) 0 0 (fun _ => 0)) (hS : SloR (F, x + 430, s) x (fun _ => 0) (fun _ => nI 0)) (hp : PaC (F, x + 430, s) (x + 337) 0 (fun _ => 0) 0 0 0 0) (hM : MoC (F, x + 430, s) (x + 423) (mF (x + 423) (nI 0) (nI 0) (nI 0) (nI 0) (nI 0) (nI 0)) (fun _ => 0) (fun _ => 0) (fun _ => 0) (fun _ => 0) (fun _ => 0) i0) : LaI (F, x + 430, s) x (x + 423) := by
  have hM2 : MoC (F, x + 430, s) (x + 423) (mF (x + 423) (nI 0) (nI 0) (nI 0) (nI 0) (nI 0) (nI 0)) (fun _ => 0) (fun _ => 0) (fun _ => 0) (fun _ => nI 0) (fun _ => 0) i0 := by
    obtain ⟨m0, m1, m2, m3, m4, m5, m6⟩ := hM
    exact ⟨m0, m1, m2, m3, m4, by rw [← zz]; exact m5, m6⟩
  exact ⟨i0, 0, 0, fun _ => 0, fun _ => 0, fun _ => nI 0, 0, fun _ => 0, fun _ => 0, fun _ => 0, nI 0, nI 0, nI 0, nI 0, ⟨hx, hT, ⟨_, hF⟩, hH, hS, _, _, _, _, hp⟩, hM2, i0_K, fun i hi => absurd hi (Nat.not_lt_zero i), fun s hs => Or.inl rfl, ⟨by omega, fun q hq => absurd hq (Nat.not_lt_zero q)⟩, fun q hq => absurd hq (Nat.not_lt_zero q)⟩
theorem law_all {F : Nat → Option aE} {h s : Nat} (hs : F b = some (eS L xs)) (hb : b < h) (hL : L ≤ 2048) : aX (d + 9) iL_law 0 [some (.ref b), none, none, none] [] (F, h, s) (fun r τ => r = some (.int (nI 1)) ∧ τ.2 = (h + 430, s + 7215)) := by
  simp (disch := omega) only [sL_law_0, sL_law_3, sL_law_3i, sL_law_4, aIs_pf, aput_mk, anew_mk, pf_same, pf_ne, cF_l, cF_g0, cF_g1, cF_g2, cF_g3, cF_g4, cF_g5, tF_l, tF_g0, tF_g1, tF_g2, tF_g3, tF_g4, tF_g5, tF_s3, tF_s4, tF_s5, aFld, aFds, aRow, aRowR, aRefs, aLn, if_true, List.getElem?_cons_zero, List.getElem?_cons_succ, List.set_cons_zero, List.set_cons_succ, List.length_cons, List.length_nil, Option.some.injEq, exists_eq_left', aput_same, aclr_none, aclr_int, aclr_ref, aclr_null, aret_some, aret_none, bz, bz0, bz1, true_and, and_true, vpT, nIc, nI_add, pk_mul, nI_sub', Nat.add_zero, Nat.zero_add, upd_same, upd_ne, if_false, not_true_eq_false, not_false_eq_true, ite_z, ite_o, eq_self, Bool.false_eq_true, nI_leT, nI_leF, nI_ltT, nI_ltF, nI_ne, and_self, false_and, and_false, Nat.reduceAdd, Nat.reduceSub, Nat.reduceMul, Nat.reduceLT, Nat.reduceLeDiff, true_and]
  refine ci_all pf_same (fun F1 s1 e1 x1 t1 f1 hh1 sl1 p1 k1 => ?_)
  simp (disch := omega) only [sL_law_7, sL_law_7n, sL_law_8, sL_law_11, sL_law_11i, sL_law_12, aIs_pf, aput_mk, anew_mk, pf_same, pf_ne, cF_l, cF_g0, cF_g1, cF_g2, cF_g3, cF_g4, cF_g5, tF_l, tF_g0, tF_g1, tF_g2, tF_g3, tF_g4, tF_g5, tF_s3, tF_s4, tF_s5, aFld, aFds, aRow, aRowR, aRefs, aLn, if_true, List.getElem?_cons_zero, List.getElem?_cons_succ, List.set_cons_zero, List.set_cons_succ, List.length_cons, List.length_nil, Option.some.injEq, exists_eq_left', aput_same, aclr_none, aclr_int, aclr_ref, aclr_null, aret_some, aret_none, bz, bz0, bz1, true_and, and_true, vpT, nIc, nI_add, pk_mul, nI_sub', Nat.add_zero, Nat.zero_add, upd_same, upd_ne, if_false, not_true_eq_false, not_false_eq_true, ite_z, ite_o, eq_self, Bool.false_eq_true, nI_leT, nI_leF, nI_ltT, nI_ltF, nI_ne, and_self, false_and, and_false, Nat.reduceAdd, Nat.reduceSub, Nat.reduceMul, Nat.reduceLT, Nat.reduceLeDiff, true_and]
  refine cm_init pf_same (fun F2 hM k2 => ?_)
  have hk : ∀ q, q < h + 423 → F2 q = F1 q := fun q hq => (k2 q hq).trans (pf_ne (by omega))
  have hsc : F2 b = some (eS L xs) := (hk _ (by omega)).trans ((k1 _ hb).trans ((pf_ne (by omega)).trans hs))
  simp (disch := omega) only [sL_law_15, sL_law_15n, sL_law_16, sL_law_17, aput_mk, anew_mk, pf_same, pf_ne, cF_l, cF_g0, cF_g1, cF_g2, cF_g3, cF_g4, cF_g5, tF_l, tF_g0, tF_g1, tF_g2, tF_g3, tF_g4, tF_g5, tF_s3, tF_s4, tF_s5, aFld, aFds, aRow, aRowR, aRefs, aLn, if_true, List.getElem?_cons_zero, List.getElem?_cons_succ, List.set_cons_zero, List.set_cons_succ, List.length_cons, List.length_nil, Option.some.injEq, exists_eq_left', aput_same, aclr_none, aclr_int, aclr_ref, aclr_null, aret_some, aret_none, bz, bz0, bz1, true_and, and_true, vpT, nIc, nI_add, pk_mul, nI_sub', Nat.add_zero, Nat.zero_add, upd_same, upd_ne, if_false, not_true_eq_false, not_false_eq_true, ite_z, ite_o, eq_self, Bool.false_eq_true, nI_leT, nI_leF, nI_ltT, nI_ltF, nI_ne, and_self, false_and, and_false, Nat.reduceAdd, Nat.reduceSub, Nat.reduceMul, Nat.reduceLT, Nat.reduceLeDiff, true_and]
  have hI : LaI (F2, h + 430, s + 7215) h (h + 423) := by
    have es : s1 + 12 + 3792 = s + 7215 := by omega
    rw [es] at hM
    exact LaI_0 ((hk _ (by omega)).trans x1) (TabR_keep (fun q a b => hk q (by omega)) t1) (FoS_keep (fun q a b => hk q (by omega)) f1) (HisR_keep (fun q a b => hk q (by omega)) (hh1 _)) (SloR_keep (fun q a b => hk q (by omega)) (sl1 _)) (PaC_keep (fun q a b => hk q (by omega)) p1) hM
  have hl := law_loop (d := d) (x := h) (m := h + 423) (b := b) (L := L) (xs := xs) (Nat.le_refl _) hb hL (z := (h + 430, s + 7215)) 512 0 (F2, h + 430, s + 7215) (by omega) (by omega) hI hsc rfl
  rw [show s1 + 12 + 3792 = s + 7215 by omega]
  exact hl
end LW
