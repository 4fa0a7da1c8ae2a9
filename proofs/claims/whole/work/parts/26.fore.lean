/-! THE REFERENCE: what will be -/
section MF
variable {d : Nat} {σ : aS} {Q : aQ} {m a c : Nat} {st kp hi sl sv pd : Nat → Int32} {fs : List Value}
theorem mp_fore_loop {w : Int32} (h0 : σ.1 m = some (eO 7 (.ref (m + 1) :: fs))) (h12 : c ≤ 12) (ha : a < c) : ∀ (f r : Nat) (st : Nat → Int32) (Q : aQ), mOK st → st 34 = nI c → (st (35 + 28 * a + 2) = nI 0 → 9 ≤ f + bN (bk st a)) → (aX (d + 6) iX7_foretold 47 [some (.ref m), some (.int (nI a)), some (.int w), some (.int (nI r)), none] [] (mS σ m st) Q ↔ aX (d + 6) iX7_foretold 65 [some (.ref m), some (.int (nI a)), some (.int w), some (.int (nI (r + mFoN a c f st))), none] [] (mS σ m (mFo a c f st)) Q)
  | 0, r, st, Q, hok, hc, hf => by
    have g : ¬ st (35 + 28 * a + 2) = nI 0 := by
      intro g
      have hf1 := hf g
      obtain ⟨he, c2, hc2, hc12, hball⟩ := id hok
      have hc3 : c2 = c := nI_inj (by omega) (by omega) (hc2.symm.trans hc)
      subst hc3
      obtain ⟨n, h1, h2, h3, -⟩ := hball a ha
      rw [bOK_N h1 h3] at hf1
      omega
    rw [sX7_foretold_47, mFoN, mFo, Nat.add_zero]
    simp (disch := omega) only [sX7_foretold_48, sX7_foretold_49, sX7_foretold_52, sX7_foretold_55, sX7_foretold_56, sX7_foretold_59, sX7_foretold_62, mp_goesRound h0, aIsT (mS_0 h0), g, aFld, aFds, aRow, aRowR, aRefs, aLn, if_true, List.getElem?_cons_zero, List.getElem?_cons_succ, List.set_cons_zero, List.set_cons_succ, List.length_cons, List.length_nil, Option.some.injEq, exists_eq_left', aput_same, aclr_none, aclr_int, aclr_ref, aclr_null, aret_some, aret_none, bz, bz0, bz1, true_and, and_true, vpT, nIc, nI_add, pk_mul, nI_sub', Nat.add_zero, Nat.zero_add, upd_same, upd_ne, if_false, not_true_eq_false, not_false_eq_true, ite_z, ite_o, eq_self, Bool.false_eq_true, nI_leT, nI_leF, nI_ltT, nI_ltF, nI_ne, and_self, false_and, and_false]
  | f + 1, r, st, Q, hok, hc, hf => by
    rw [sX7_foretold_47]
    by_cases g : st (35 + 28 * a + 2) = nI 0
    · have hp := mRnd_pro hok hc h12 ha g
      have hf1 := hf g
      have hb8 : bN (bk st a) ≤ 8 := by
        obtain ⟨he, c2, hc2, hc12, hball⟩ := id hok
        have hc3 : c2 = c := nI_inj (by omega) (by omega) (hc2.symm.trans hc)
        subst hc3
        obtain ⟨n, h1, h2, h3, -⟩ := hball a ha
        rw [bOK_N h1 h3]
        exact h3
      have ih := mp_fore_loop (w := w) h0 h12 ha f (r + 1) (mRnd st c) Q (mRnd_ok hok) (by rw [mRnd_34]; exact hc) (fun g2 => by rcases hp with hp | hp; exact absurd g2 hp; omega)
      have e1 : mFoN a c (f + 1) st = mFoN a c f (mRnd st c) + 1 := by rw [mFoN, if_pos g]
      have e2 : mFo a c (f + 1) st = mFo a c f (mRnd st c) := by rw [mFo, if_pos g]
      rw [e1, e2, show r + (mFoN a c f (mRnd st c) + 1) = r + 1 + mFoN a c f (mRnd st c) by omega, ← ih]
      simp (disch := omega) only [sX7_foretold_48, sX7_foretold_49, sX7_foretold_52, sX7_foretold_55, sX7_foretold_56, sX7_foretold_59, sX7_foretold_62, mp_goesRound h0, mp_makesRound h0 hok hc h12, aIsT (mS_0 h0), g, aFld, aFds, aRow, aRowR, aRefs, aLn, if_true, List.getElem?_cons_zero, List.getElem?_cons_succ, List.set_cons_zero, List.set_cons_succ, List.length_cons, List.length_nil, Option.some.injEq, exists_eq_left', aput_same, aclr_none, aclr_int, aclr_ref, aclr_null, aret_some, aret_none, bz, bz0, bz1, true_and, and_true, vpT, nIc, nI_add, pk_mul, nI_sub', Nat.add_zero, Nat.zero_add, upd_same, upd_ne, if_false, not_true_eq_false, not_false_eq_true, ite_z, ite_o, eq_self, Bool.false_eq_true, nI_leT, nI_leF, nI_ltT, nI_ltF, nI_ne, and_self, false_and, and_false]
    · have e1 : mFoN a c (f + 1) st = 0 := by rw [mFoN, if_neg g]
      have e2 : mFo a c (f + 1) st = st := by rw [mFo, if_neg g]
      rw [e1, e2]
      simp (disch := omega) only [sX7_foretold_48, sX7_foretold_49, sX7_foretold_52, sX7_foretold_55, sX7_foretold_56, sX7_foretold_59, sX7_foretold_62, mp_goesRound h0, aIsT (mS_0 h0), g, aFld, aFds, aRow, aRowR, aRefs, aLn, if_true, List.getElem?_cons_zero, List.getElem?_cons_succ, List.set_cons_zero, List.set_cons_succ, List.length_cons, List.length_nil, Option.some.injEq, exists_eq_left', aput_same, aclr_none, aclr_int, aclr_ref, aclr_null, aret_some, aret_none, bz, bz0, bz1, true_and, and_true, vpT, nIc, nI_add, pk_mul, nI_sub', Nat.add_zero, Nat.zero_add, upd_same, upd_ne, if_false, not_true_eq_false, not_false_eq_true, ite_z, ite_o, eq_self, Bool.false_eq_true, nI_leT, nI_leF, nI_ltT, nI_ltF, nI_ne, and_self, false_and, and_false]
theorem mMv_back (st x : Nat → Int32) (kp : Nat → Int32) (hx : ∀ k, 371 ≤ k → x k = st k) : mMv (mMv st 0 kp 0 371) 0 x 0 371 = st := by
  funext j
  rw [mMv_at]
  by_cases h : 0 ≤ j ∧ j < 0 + 371
  · rw [if_pos h, mMv_at, if_pos (by omega), show 0 + (0 + (j - 0) - 0) = j by omega]
  · rw [if_neg h]
    exact hx j (by omega)
/-- what 'foretold' answers -/
def mForeA (st : Nat → Int32) (a c : Nat) (w : Nat) : Int32 :=
  match w with
  | 0 => mFo a c 9 st (35 + 28 * a + (4 + 3 * ((bN (bk (mFo a c 9 st) a) - 1) / 2 * 2) + 1))
  | 1 => mFo a c 9 st (35 + 28 * a + 1)
  | 2 => nI (mFoN a c 9 st)
  | _ => mFo a c 9 st (35 + 28 * a + 2)
theorem mq_foreN {x w : Int32} (h0 : σ.1 m = some (eO 7 (.ref (m + 1) :: fs))) (hc : st 34 = nI c) (hx : (nI 0 ≤ x ∧ x ≤ nI c - nI 1) = False) : aX (d + 2) iX7_foretold 0 [some (.ref m), some (.int x), some (.int w), none, none] [] (mS σ m st) Q ↔ Q (some (.int (-1))) (mS σ m st) := by
  simp (disch := omega) only [sX7_foretold_0, sX7_foretold_1, sX7_foretold_2, sX7_foretold_5, sX7_foretold_8, sX7_foretold_9, sX7_foretold_10, sX7_foretold_11, sX7_foretold_14, sX7_foretold_17, sX7_foretold_18, sX7_foretold_19, sX7_foretold_22, sX7_foretold_25, sX7_foretold_27, sX7_foretold_30, sX7_foretold_31, mp_isAlbF h0 hc hx, aIsT (mS_0 h0), aFld, aFds, aRow, aRowR, aRefs, aLn, if_true, List.getElem?_cons_zero, List.getElem?_cons_succ, List.set_cons_zero, List.set_cons_succ, List.length_cons, List.length_nil, Option.some.injEq, exists_eq_left', aput_same, aclr_none, aclr_int, aclr_ref, aclr_null, aret_some, aret_none, bz, bz0, bz1, true_and, and_true, vpT, nIc, nI_add, pk_mul, nI_sub', Nat.add_zero, Nat.zero_add, upd_same, upd_ne, if_false, not_true_eq_false, not_false_eq_true, ite_z, ite_o, eq_self, Bool.false_eq_true, nI_leT, nI_leF, nI_ltT, nI_ltF, nI_ne, and_self, false_and, and_false]
theorem mq_foreB {w : Int32} (h0 : σ.1 m = some (eO 7 (.ref (m + 1) :: fs))) (hc : st 34 = nI c) (h12 : c ≤ 12) (ha : a < c) (hw : inR w 0 3 = False) : aX (d + 2) iX7_foretold 0 [some (.ref m), some (.int (nI a)), some (.int w), none, none] [] (mS σ m st) Q ↔ Q (some (.int (-2))) (mS σ m st) := by
  simp only [inR] at hw
  simp (disch := omega) only [sX7_foretold_0, sX7_foretold_1, sX7_foretold_2, sX7_foretold_5, sX7_foretold_8, sX7_foretold_9, sX7_foretold_10, sX7_foretold_11, sX7_foretold_14, sX7_foretold_17, sX7_foretold_18, sX7_foretold_19, sX7_foretold_22, sX7_foretold_25, sX7_foretold_27, sX7_foretold_30, sX7_foretold_31, mp_isAlbT h0 hc h12 ha, mm_within, hw, aIsT (mS_0 h0), aFld, aFds, aRow, aRowR, aRefs, aLn, if_true, List.getElem?_cons_zero, List.getElem?_cons_succ, List.set_cons_zero, List.set_cons_succ, List.length_cons, List.length_nil, Option.some.injEq, exists_eq_left', aput_same, aclr_none, aclr_int, aclr_ref, aclr_null, aret_some, aret_none, bz, bz0, bz1, true_and, and_true, vpT, nIc, nI_add, pk_mul, nI_sub', Nat.add_zero, Nat.zero_add, upd_same, upd_ne, if_false, not_true_eq_false, not_false_eq_true, ite_z, ite_o, eq_self, Bool.false_eq_true, nI_leT, nI_leF, nI_ltT, nI_ltF, nI_ne, and_self, false_and, and_false]
theorem mq_fore {w : Nat} (hok : mOK st) (hc : st 34 = nI c) (h12 : c ≤ 12) (ha : a < c) (hw : w ≤ 3) : aX (d + 6) iX7_foretold 0 [some (.ref m), some (.int (nI a)), some (.int (nI w)), none, none] [] (mT σ m (.ref (m + 2) :: fs) kp hi sl sv pd st) Q ↔ Q (some (.int (mForeA st a c w))) (mT σ m (.ref (m + 2) :: fs) (mMv st 0 kp 0 371) hi sl sv pd st) := by
  obtain ⟨he, c2, hc2, hc12, hball⟩ := id hok
  have hc3 : c2 = c := nI_inj (by omega) (by omega) (hc2.symm.trans hc)
  subst hc3
  have hb1 : 1 ≤ bN (bk st a) := by
    obtain ⟨n, h1, h2, h3, -⟩ := hball a ha
    rw [bOK_N h1 h3]
    exact h2
  have hl := mp_fore_loop (d := d) (σ := mU σ m (.ref (m + 2) :: fs) (mMv st 0 kp 0 371) hi sl sv pd) (m := m) (w := nI w) mU_0 h12 ha 9 0 st Q hok hc (fun _ => by omega)
  obtain ⟨ok9, c9, -⟩ := mFo_ok (a := a) 9 st hok hc
  obtain ⟨n9, g1, g2, g3, -⟩ : bOK (bk (mFo a c2 9 st) a) := by
    obtain ⟨he, c3, hc3, hc13, hb9⟩ := ok9
    have hc4 : c3 = c2 := nI_inj (by omega) (by omega) (hc3.symm.trans c9)
    subst hc4
    exact hb9 a ha
  have hback := mMv_back st (mFo a c2 9 st) kp (fun k hk => mFo_big h12 hk 9 st)
  rw [Nat.zero_add] at hl
  simp (disch := omega) only [sX7_foretold_0, sX7_foretold_1, sX7_foretold_2, sX7_foretold_5, sX7_foretold_8, sX7_foretold_9, sX7_foretold_10, sX7_foretold_11, sX7_foretold_14, sX7_foretold_17, sX7_foretold_18, sX7_foretold_19, sX7_foretold_22, sX7_foretold_25, sX7_foretold_27, sX7_foretold_30, sX7_foretold_31, sX7_foretold_32, sX7_foretold_33, sX7_foretold_36, sX7_foretold_37, sX7_foretold_38, sX7_foretold_41, sX7_foretold_42, sX7_foretold_45, sX7_foretold_46, mp_isAlbT mU_0 hc h12 ha, mm_within, aIsT mT_0, mT_0, mT_1, mT_2, aFld, aFds, aRow, aRowR, aRefs, aLn, if_true, List.getElem?_cons_zero, List.getElem?_cons_succ, List.set_cons_zero, List.set_cons_succ, List.length_cons, List.length_nil, Option.some.injEq, exists_eq_left', aput_same, aclr_none, aclr_int, aclr_ref, aclr_null, aret_some, aret_none, bz, bz0, bz1, true_and, and_true, vpT, nIc, nI_add, pk_mul, nI_sub', Nat.add_zero, Nat.zero_add, upd_same, upd_ne, if_false, not_true_eq_false, not_false_eq_true, ite_z, ite_o, eq_self, Bool.false_eq_true, nI_leT, nI_leF, nI_ltT, nI_ltF, nI_ne, and_self, false_and, and_false]
  rw [mm_moves mT_1 mT_2 (by omega) (by omega) (by omega) (by omega)]
  simp (disch := omega) only [sX7_foretold_45, sX7_foretold_46, mT_w2, aFld, aFds, aRow, aRowR, aRefs, aLn, if_true, List.getElem?_cons_zero, List.getElem?_cons_succ, List.set_cons_zero, List.set_cons_succ, List.length_cons, List.length_nil, Option.some.injEq, exists_eq_left', aput_same, aclr_none, aclr_int, aclr_ref, aclr_null, aret_some, aret_none, bz, bz0, bz1, true_and, and_true, vpT, nIc, nI_add, pk_mul, nI_sub', Nat.add_zero, Nat.zero_add, upd_same, upd_ne, if_false, not_true_eq_false, not_false_eq_true, ite_z, ite_o, eq_self, Bool.false_eq_true, nI_leT, nI_leF, nI_ltT, nI_ltF, nI_ne, and_self, false_and, and_false]
  rw [hl]
  have e9 := bOK_N g1 g3
  match w, hw with
  | 0, _ =>
    simp (disch := omega) only [sX7_foretold_65, sX7_foretold_66, sX7_foretold_69, sX7_foretold_70, sX7_foretold_71, sX7_foretold_74, sX7_foretold_77, sX7_foretold_78, sX7_foretold_79, sX7_foretold_82, sX7_foretold_83, sX7_foretold_84, sX7_foretold_85, sX7_foretold_88, sX7_foretold_91, sX7_foretold_92, sX7_foretold_93, sX7_foretold_96, sX7_foretold_97, sX7_foretold_100, sX7_foretold_101, sX7_foretold_102, sX7_foretold_103, sX7_foretold_106, sX7_foretold_108, sX7_foretold_109, sX7_foretold_112, sX7_foretold_113, sX7_foretold_114, sX7_foretold_117, sX7_foretold_118, sX7_foretold_121, sX7_foretold_123, mp_lastWord mU_0 (show a < 12 by omega) g1 g2 g3, aIsT mT_0, mT_0, mT_1, mT_2, aFld, aFds, aRow, aRowR, aRefs, aLn, if_true, List.getElem?_cons_zero, List.getElem?_cons_succ, List.set_cons_zero, List.set_cons_succ, List.length_cons, List.length_nil, Option.some.injEq, exists_eq_left', aput_same, aclr_none, aclr_int, aclr_ref, aclr_null, aret_some, aret_none, bz, bz0, bz1, true_and, and_true, vpT, nIc, nI_add, pk_mul, nI_sub', Nat.add_zero, Nat.zero_add, upd_same, upd_ne, if_false, not_true_eq_false, not_false_eq_true, ite_z, ite_o, eq_self, Bool.false_eq_true, nI_leT, nI_leF, nI_ltT, nI_ltF, nI_ne, and_self, false_and, and_false]
    rw [mm_moves mT_2 mT_1 (by omega) (by omega) (by omega) (by omega), mT_w1, hback]
    simp (disch := omega) only [sX7_foretold_108, sX7_foretold_109, sX7_foretold_112, sX7_foretold_113, sX7_foretold_114, sX7_foretold_117, sX7_foretold_118, sX7_foretold_121, sX7_foretold_123, aFld, aFds, aRow, aRowR, aRefs, aLn, if_true, List.getElem?_cons_zero, List.getElem?_cons_succ, List.set_cons_zero, List.set_cons_succ, List.length_cons, List.length_nil, Option.some.injEq, exists_eq_left', aput_same, aclr_none, aclr_int, aclr_ref, aclr_null, aret_some, aret_none, bz, bz0, bz1, true_and, and_true, vpT, nIc, nI_add, pk_mul, nI_sub', Nat.add_zero, Nat.zero_add, upd_same, upd_ne, if_false, not_true_eq_false, not_false_eq_true, ite_z, ite_o, eq_self, Bool.false_eq_true, nI_leT, nI_leF, nI_ltT, nI_ltF, nI_ne, and_self, false_and, and_false, mForeA, e9]
  | 1, _ =>
    simp (disch := omega) only [sX7_foretold_65, sX7_foretold_66, sX7_foretold_69, sX7_foretold_70, sX7_foretold_71, sX7_foretold_74, sX7_foretold_77, sX7_foretold_78, sX7_foretold_79, sX7_foretold_82, sX7_foretold_83, sX7_foretold_84, sX7_foretold_85, sX7_foretold_88, sX7_foretold_91, sX7_foretold_92, sX7_foretold_93, sX7_foretold_96, sX7_foretold_97, sX7_foretold_100, sX7_foretold_101, sX7_foretold_102, sX7_foretold_103, sX7_foretold_106, sX7_foretold_108, sX7_foretold_109, sX7_foretold_112, sX7_foretold_113, sX7_foretold_114, sX7_foretold_117, sX7_foretold_118, sX7_foretold_121, sX7_foretold_123, mp_part mU_0, aIsT mT_0, mT_0, mT_1, mT_2, aFld, aFds, aRow, aRowR, aRefs, aLn, if_true, List.getElem?_cons_zero, List.getElem?_cons_succ, List.set_cons_zero, List.set_cons_succ, List.length_cons, List.length_nil, Option.some.injEq, exists_eq_left', aput_same, aclr_none, aclr_int, aclr_ref, aclr_null, aret_some, aret_none, bz, bz0, bz1, true_and, and_true, vpT, nIc, nI_add, pk_mul, nI_sub', Nat.add_zero, Nat.zero_add, upd_same, upd_ne, if_false, not_true_eq_false, not_false_eq_true, ite_z, ite_o, eq_self, Bool.false_eq_true, nI_leT, nI_leF, nI_ltT, nI_ltF, nI_ne, and_self, false_and, and_false]
    rw [mm_moves mT_2 mT_1 (by omega) (by omega) (by omega) (by omega), mT_w1, hback]
    simp (disch := omega) only [sX7_foretold_108, sX7_foretold_109, sX7_foretold_112, sX7_foretold_113, sX7_foretold_114, sX7_foretold_117, sX7_foretold_118, sX7_foretold_121, sX7_foretold_123, aFld, aFds, aRow, aRowR, aRefs, aLn, if_true, List.getElem?_cons_zero, List.getElem?_cons_succ, List.set_cons_zero, List.set_cons_succ, List.length_cons, List.length_nil, Option.some.injEq, exists_eq_left', aput_same, aclr_none, aclr_int, aclr_ref, aclr_null, aret_some, aret_none, bz, bz0, bz1, true_and, and_true, vpT, nIc, nI_add, pk_mul, nI_sub', Nat.add_zero, Nat.zero_add, upd_same, upd_ne, if_false, not_true_eq_false, not_false_eq_true, ite_z, ite_o, eq_self, Bool.false_eq_true, nI_leT, nI_leF, nI_ltT, nI_ltF, nI_ne, and_self, false_and, and_false, mForeA]
  | 2, _ =>
    simp (disch := omega) only [sX7_foretold_65, sX7_foretold_66, sX7_foretold_69, sX7_foretold_70, sX7_foretold_71, sX7_foretold_74, sX7_foretold_77, sX7_foretold_78, sX7_foretold_79, sX7_foretold_82, sX7_foretold_83, sX7_foretold_84, sX7_foretold_85, sX7_foretold_88, sX7_foretold_91, sX7_foretold_92, sX7_foretold_93, sX7_foretold_96, sX7_foretold_97, sX7_foretold_100, sX7_foretold_101, sX7_foretold_102, sX7_foretold_103, sX7_foretold_106, sX7_foretold_108, sX7_foretold_109, sX7_foretold_112, sX7_foretold_113, sX7_foretold_114, sX7_foretold_117, sX7_foretold_118, sX7_foretold_121, sX7_foretold_123, mp_part mU_0, aIsT mT_0, mT_0, mT_1, mT_2, aFld, aFds, aRow, aRowR, aRefs, aLn, if_true, List.getElem?_cons_zero, List.getElem?_cons_succ, List.set_cons_zero, List.set_cons_succ, List.length_cons, List.length_nil, Option.some.injEq, exists_eq_left', aput_same, aclr_none, aclr_int, aclr_ref, aclr_null, aret_some, aret_none, bz, bz0, bz1, true_and, and_true, vpT, nIc, nI_add, pk_mul, nI_sub', Nat.add_zero, Nat.zero_add, upd_same, upd_ne, if_false, not_true_eq_false, not_false_eq_true, ite_z, ite_o, eq_self, Bool.false_eq_true, nI_leT, nI_leF, nI_ltT, nI_ltF, nI_ne, and_self, false_and, and_false]
    rw [mm_moves mT_2 mT_1 (by omega) (by omega) (by omega) (by omega), mT_w1, hback]
    simp (disch := omega) only [sX7_foretold_108, sX7_foretold_109, sX7_foretold_112, sX7_foretold_113, sX7_foretold_114, sX7_foretold_117, sX7_foretold_118, sX7_foretold_121, sX7_foretold_123, aFld, aFds, aRow, aRowR, aRefs, aLn, if_true, List.getElem?_cons_zero, List.getElem?_cons_succ, List.set_cons_zero, List.set_cons_succ, List.length_cons, List.length_nil, Option.some.injEq, exists_eq_left', aput_same, aclr_none, aclr_int, aclr_ref, aclr_null, aret_some, aret_none, bz, bz0, bz1, true_and, and_true, vpT, nIc, nI_add, pk_mul, nI_sub', Nat.add_zero, Nat.zero_add, upd_same, upd_ne, if_false, not_true_eq_false, not_false_eq_true, ite_z, ite_o, eq_self, Bool.false_eq_true, nI_leT, nI_leF, nI_ltT, nI_ltF, nI_ne, and_self, false_and, and_false, mForeA]
  | 3, _ =>
    simp (disch := omega) only [sX7_foretold_65, sX7_foretold_66, sX7_foretold_69, sX7_foretold_70, sX7_foretold_71, sX7_foretold_74, sX7_foretold_77, sX7_foretold_78, sX7_foretold_79, sX7_foretold_82, sX7_foretold_83, sX7_foretold_84, sX7_foretold_85, sX7_foretold_88, sX7_foretold_91, sX7_foretold_92, sX7_foretold_93, sX7_foretold_96, sX7_foretold_97, sX7_foretold_100, sX7_foretold_101, sX7_foretold_102, sX7_foretold_103, sX7_foretold_106, sX7_foretold_108, sX7_foretold_109, sX7_foretold_112, sX7_foretold_113, sX7_foretold_114, sX7_foretold_117, sX7_foretold_118, sX7_foretold_121, sX7_foretold_123, mp_part mU_0, aIsT mT_0, mT_0, mT_1, mT_2, aFld, aFds, aRow, aRowR, aRefs, aLn, if_true, List.getElem?_cons_zero, List.getElem?_cons_succ, List.set_cons_zero, List.set_cons_succ, List.length_cons, List.length_nil, Option.some.injEq, exists_eq_left', aput_same, aclr_none, aclr_int, aclr_ref, aclr_null, aret_some, aret_none, bz, bz0, bz1, true_and, and_true, vpT, nIc, nI_add, pk_mul, nI_sub', Nat.add_zero, Nat.zero_add, upd_same, upd_ne, if_false, not_true_eq_false, not_false_eq_true, ite_z, ite_o, eq_self, Bool.false_eq_true, nI_leT, nI_leF, nI_ltT, nI_ltF, nI_ne, and_self, false_and, and_false]
    rw [mm_moves mT_2 mT_1 (by omega) (by omega) (by omega) (by omega), mT_w1, hback]
    simp (disch := omega) only [sX7_foretold_108, sX7_foretold_109, sX7_foretold_112, sX7_foretold_113, sX7_foretold_114, sX7_foretold_117, sX7_foretold_118, sX7_foretold_121, sX7_foretold_123, aFld, aFds, aRow, aRowR, aRefs, aLn, if_true, List.getElem?_cons_zero, List.getElem?_cons_succ, List.set_cons_zero, List.set_cons_succ, List.length_cons, List.length_nil, Option.some.injEq, exists_eq_left', aput_same, aclr_none, aclr_int, aclr_ref, aclr_null, aret_some, aret_none, bz, bz0, bz1, true_and, and_true, vpT, nIc, nI_add, pk_mul, nI_sub', Nat.add_zero, Nat.zero_add, upd_same, upd_ne, if_false, not_true_eq_false, not_false_eq_true, ite_z, ite_o, eq_self, Bool.false_eq_true, nI_leT, nI_leF, nI_ltT, nI_ltF, nI_ne, and_self, false_and, and_false, mForeA]
end MF
