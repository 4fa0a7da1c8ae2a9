/-! THE CLASS: a table: what it answers, its small changes -/
theorem TabA_keep {σ σ' : aS} {t j : Nat} {st st' : Nat → Int32} (hk : ∀ q, t + 5 + 3 * j ≤ q → q < t + 8 + 3 * j → σ'.1 q = σ.1 q) (h : j < (st' 34).toNatClampNeg → j < (st 34).toNatClampNeg ∧ bOK (bk st j) ∧ ∀ i, i < 28 → bk st' j i = bk st j i) (hA : TabA σ t st j) : TabA σ' t st' j := by
  obtain ⟨ow, pg, hw, tn, tp, f, g, ⟨a0, a1, a2⟩, hR⟩ := hA
  refine ⟨ow, pg, hw, tn, tp, f, g, ⟨(hk _ (by omega) (by omega)).trans a0, (hk _ (by omega) (by omega)).trans a1, (hk _ (by omega) (by omega)).trans a2⟩, fun hj => ?_⟩
  obtain ⟨h1, h2, h3⟩ := h hj
  exact albR_cong (bN_8 h2) h3 (hR h1)
theorem TabA_low {σ σ' : aS} {t j : Nat} {st st' : Nat → Int32} (hk : ∀ q, t + 5 + 3 * j ≤ q → q < t + 8 + 3 * j → σ'.1 q = σ.1 q) (h : ∀ k, 34 ≤ k → st' k = st k) (hA : TabA σ t st j) : TabA σ' t st' j := by
  obtain ⟨ow, pg, hw, tn, tp, f, g, ⟨a0, a1, a2⟩, hR⟩ := hA
  refine ⟨ow, pg, hw, tn, tp, f, g, ⟨(hk _ (by omega) (by omega)).trans a0, (hk _ (by omega) (by omega)).trans a1, (hk _ (by omega) (by omega)).trans a2⟩, fun hj => ?_⟩
  rw [h 34 (by omega)] at hj
  have e : bk st' j = bk st j := funext fun i => h _ (by omega)
  rw [e]
  exact hR hj
theorem mOK_b {st : Nat → Int32} {a c : Nat} (hok : mOK st) (hc : st 34 = nI c) (h12 : c ≤ 12) (ha : a < c) : bOK (bk st a) := by
  obtain ⟨he, c', hc', h12', hb⟩ := hok
  have hcc : c' = c := nI_inj (by omega) (by omega) (hc'.symm.trans hc)
  subst hcc
  exact hb a ha
theorem isA_out {c : Nat} {x : Int32} (h12 : c ≤ 12) (h : (nI 0 ≤ x ∧ x ≤ nI c - nI 1) = False) : nI c ≤ x ∨ (¬ nI c ≤ x ∧ x < nI 0) := by
  by_cases h1 : nI c ≤ x
  · exact Or.inl h1
  · refine Or.inr ⟨h1, Int32.not_le.mp (fun h2 => ?_)⟩
    rcases Nat.eq_zero_or_pos c with e | e
    · subst e
      exact h1 h2
    · rw [nI_sub' (by omega)] at h
      have h3 : x ≤ nI (c - 1) := by
        rw [← nI_not_le (by omega) (by omega)]
        exact h1
      exact h.mp ⟨h2, h3⟩
/-- the first album of an owner that goes round -/
def aFi (st : Nat → Int32) (s : Int32) : Nat → Nat → Int32
  | 0, _ => -6
  | k + 1, i => if st (35 + 28 * i + 0) = s ∧ st (35 + 28 * i + 2) = nI 0 then nI i else aFi st s k (i + 1)
theorem aFi_no {st : Nat → Int32} {s : Int32} : ∀ k i, (∀ a, i ≤ a → a < i + k → ¬ (st (35 + 28 * a + 0) = s ∧ st (35 + 28 * a + 2) = nI 0)) → aFi st s k i = -6
  | 0, _, _ => rfl
  | k + 1, i, h => by
    rw [aFi, if_neg (h i (by omega) (by omega))]
    exact aFi_no k (i + 1) (fun a h1 h2 => h a (by omega) (by omega))
theorem mAlbOf_no {st : Nat → Int32} {s : Int32} : ∀ c, (∀ a, a < c → ¬ (st (35 + 28 * a + 0) = s ∧ st (35 + 28 * a + 2) = nI 0)) → mAlbOf st s c = -6
  | 0, _ => rfl
  | c + 1, h => by
    rw [mAlbOf, if_neg (h c (by omega))]
    exact mAlbOf_no c (fun a h1 => h a (by omega))
theorem aFi_at {st : Nat → Int32} {s : Int32} {a : Nat} (ha : st (35 + 28 * a + 0) = s ∧ st (35 + 28 * a + 2) = nI 0) : ∀ k i, i ≤ a → a < i + k → (∀ b, i ≤ b → b < a → ¬ (st (35 + 28 * b + 0) = s ∧ st (35 + 28 * b + 2) = nI 0)) → aFi st s k i = nI a
  | 0, i, h1, h2, _ => by omega
  | k + 1, i, h1, h2, h3 => by
    by_cases e : i = a
    · subst e
      rw [aFi, if_pos ha]
    · rw [aFi, if_neg (h3 i (by omega) (by omega))]
      exact aFi_at ha k (i + 1) (by omega) (by omega) (fun b h4 h5 => h3 b (by omega) h5)
theorem mAlbOf_at {st : Nat → Int32} {s : Int32} {a : Nat} (ha : st (35 + 28 * a + 0) = s ∧ st (35 + 28 * a + 2) = nI 0) : ∀ c, a < c → (∀ b, a < b → b < c → ¬ (st (35 + 28 * b + 0) = s ∧ st (35 + 28 * b + 2) = nI 0)) → mAlbOf st s c = nI a
  | 0, h1, _ => by omega
  | c + 1, h1, h3 => by
    by_cases e : c = a
    · subst e
      rw [mAlbOf, if_pos ha]
    · rw [mAlbOf, if_neg (h3 c (by omega) (by omega))]
      exact mAlbOf_at ha c (by omega) (fun b h4 h5 => h3 b h4 (by omega))
/-- an owner has at most one album that goes round -/
def mUn (st : Nat → Int32) (c : Nat) : Prop := ∀ a b, a < c → b < c → st (35 + 28 * a + 0) = st (35 + 28 * b + 0) → st (35 + 28 * a + 2) = nI 0 → st (35 + 28 * b + 2) = nI 0 → a = b
theorem aFi_eq {st : Nat → Int32} {s : Int32} {c : Nat} (h : mUn st c) : aFi st s c 0 = mAlbOf st s c := by
  by_cases e : ∃ a, a < c ∧ st (35 + 28 * a + 0) = s ∧ st (35 + 28 * a + 2) = nI 0
  · obtain ⟨a, h1, h2, h3⟩ := e
    rw [aFi_at ⟨h2, h3⟩ c 0 (by omega) (by omega) (fun b h4 h5 h6 => by have := h a b h1 (by omega) (h2.trans h6.1.symm) h3 h6.2; omega)]
    rw [mAlbOf_at ⟨h2, h3⟩ c (by omega) (fun b h4 h5 h6 => by have := h a b h1 (by omega) (h2.trans h6.1.symm) h3 h6.2; omega)]
  · rw [aFi_no c 0 (fun a h1 h2 h3 => e ⟨a, by omega, h3⟩), mAlbOf_no c (fun a h1 h3 => e ⟨a, h1, h3⟩)]
section CY
variable {d : Nat} {σ : aS} {Q : aQ} {t c : Nat} {st : Nat → Int32}
theorem cv_placeOut {x : Int32} (hT : TabR σ t st) (hx : x < nI 0 ∨ x = nI 12) : aX d iX5_placeAt 0 [some (.ref t), some (.int x)] [] σ Q ↔ Q (some .null) σ := by
  obtain ⟨h0, -, -, -, ⟨F, h4, h4'⟩, -⟩ := hT
  rcases hx with h | h
  · simp (disch := omega) only [sX5_placeAt_0, sX5_placeAt_1, sX5_placeAt_4, sX5_placeAt_5, sX5_placeAt_6, sX5_placeAt_9, sX5_placeAt_10, sX5_placeAt_13, sX5_placeAt_14, sX5_placeAt_17, sX5_placeAt_18, sX5_placeAt_19, sX5_placeAt_22, sX5_placeAt_23, sX5_placeAt_23n, h0, h4, h, tF_l, tF_g0, tF_g1, tF_g2, tF_g3, tF_g4, tF_g5, tF_s3, tF_s4, tF_s5, aFld, aFds, aRow, aRowR, aRefs, aLn, if_true, List.getElem?_cons_zero, List.getElem?_cons_succ, List.set_cons_zero, List.set_cons_succ, List.length_cons, List.length_nil, Option.some.injEq, exists_eq_left', aput_same, aclr_none, aclr_int, aclr_ref, aclr_null, aret_some, aret_none, bz, bz0, bz1, true_and, and_true, vpT, nIc, nI_add, pk_mul, nI_sub', Nat.add_zero, Nat.zero_add, upd_same, upd_ne, if_false, not_true_eq_false, not_false_eq_true, ite_z, ite_o, eq_self, Bool.false_eq_true, nI_leT, nI_leF, nI_ltT, nI_ltF, nI_ne, and_self, false_and, and_false, Nat.reduceAdd, Nat.reduceSub, Nat.reduceMul, Nat.reduceLT, Nat.reduceLeDiff, true_and]
  · subst h
    simp (disch := omega) only [sX5_placeAt_0, sX5_placeAt_1, sX5_placeAt_4, sX5_placeAt_5, sX5_placeAt_6, sX5_placeAt_9, sX5_placeAt_10, sX5_placeAt_13, sX5_placeAt_14, sX5_placeAt_17, sX5_placeAt_18, sX5_placeAt_19, sX5_placeAt_22, sX5_placeAt_23, sX5_placeAt_23n, h0, h4, tF_l, tF_g0, tF_g1, tF_g2, tF_g3, tF_g4, tF_g5, tF_s3, tF_s4, tF_s5, aFld, aFds, aRow, aRowR, aRefs, aLn, if_true, List.getElem?_cons_zero, List.getElem?_cons_succ, List.set_cons_zero, List.set_cons_succ, List.length_cons, List.length_nil, Option.some.injEq, exists_eq_left', aput_same, aclr_none, aclr_int, aclr_ref, aclr_null, aret_some, aret_none, bz, bz0, bz1, true_and, and_true, vpT, nIc, nI_add, pk_mul, nI_sub', Nat.add_zero, Nat.zero_add, upd_same, upd_ne, if_false, not_true_eq_false, not_false_eq_true, ite_z, ite_o, eq_self, Bool.false_eq_true, nI_leT, nI_leF, nI_ltT, nI_ltF, nI_ne, and_self, false_and, and_false, Nat.reduceAdd, Nat.reduceSub, Nat.reduceMul, Nat.reduceLT, Nat.reduceLeDiff, true_and]
theorem cv_albumN {x : Int32} (hT : TabR σ t st) (hc : st 34 = nI c) (h12 : c ≤ 12) (hx : (nI 0 ≤ x ∧ x ≤ nI c - nI 1) = False) : aX (d + 1) iX5_albumAt 0 [some (.ref t), some (.int x)] [] σ Q ↔ Q (some .null) σ := by
  have h0 := hT.1
  rw [hc] at h0
  rcases isA_out h12 hx with h | ⟨h, h'⟩
  · simp (disch := omega) only [sX5_albumAt_0, sX5_albumAt_1, sX5_albumAt_2, sX5_albumAt_5, sX5_albumAt_8, sX5_albumAt_9, sX5_albumAt_10, sX5_albumAt_13, sX5_albumAt_16, sX5_albumAt_17, sX5_albumAt_17n, h0, h, tF_l, tF_g0, tF_g1, tF_g2, tF_g3, tF_g4, tF_g5, tF_s3, tF_s4, tF_s5, aFld, aFds, aRow, aRowR, aRefs, aLn, if_true, List.getElem?_cons_zero, List.getElem?_cons_succ, List.set_cons_zero, List.set_cons_succ, List.length_cons, List.length_nil, Option.some.injEq, exists_eq_left', aput_same, aclr_none, aclr_int, aclr_ref, aclr_null, aret_some, aret_none, bz, bz0, bz1, true_and, and_true, vpT, nIc, nI_add, pk_mul, nI_sub', Nat.add_zero, Nat.zero_add, upd_same, upd_ne, if_false, not_true_eq_false, not_false_eq_true, ite_z, ite_o, eq_self, Bool.false_eq_true, nI_leT, nI_leF, nI_ltT, nI_ltF, nI_ne, and_self, false_and, and_false, Nat.reduceAdd, Nat.reduceSub, Nat.reduceMul, Nat.reduceLT, Nat.reduceLeDiff, true_and]
  · simp (disch := omega) only [sX5_albumAt_0, sX5_albumAt_1, sX5_albumAt_2, sX5_albumAt_5, sX5_albumAt_8, sX5_albumAt_9, sX5_albumAt_10, sX5_albumAt_13, sX5_albumAt_16, sX5_albumAt_17, sX5_albumAt_17n, h0, h, cv_placeOut hT (Or.inl h'), aIsT h0, tF_l, tF_g0, tF_g1, tF_g2, tF_g3, tF_g4, tF_g5, tF_s3, tF_s4, tF_s5, aFld, aFds, aRow, aRowR, aRefs, aLn, if_true, List.getElem?_cons_zero, List.getElem?_cons_succ, List.set_cons_zero, List.set_cons_succ, List.length_cons, List.length_nil, Option.some.injEq, exists_eq_left', aput_same, aclr_none, aclr_int, aclr_ref, aclr_null, aret_some, aret_none, bz, bz0, bz1, true_and, and_true, vpT, nIc, nI_add, pk_mul, nI_sub', Nat.add_zero, Nat.zero_add, upd_same, upd_ne, if_false, not_true_eq_false, not_false_eq_true, ite_z, ite_o, eq_self, Bool.false_eq_true, nI_leT, nI_leF, nI_ltT, nI_ltF, nI_ne, and_self, false_and, and_false, Nat.reduceAdd, Nat.reduceSub, Nat.reduceMul, Nat.reduceLT, Nat.reduceLeDiff, true_and]
theorem cv_taken {s : Nat} (hT : TabR σ t st) (hs : s < 32) : aX d iX5_isTaken 0 [some (.ref t), some (.int (nI s))] [] σ Q ↔ Q (some (.int (if mTk st (nI s) = true then nI 1 else nI 0))) σ := by
  rw [ct_isTaken hT.1 hs, mTk_bt st hs]
theorem cv_albOf_loop (hT : TabR σ t st) (hc : st 34 = nI c) (h12 : c ≤ 12) (s : Int32) : ∀ (k i : Nat) (l3 : Option Value) (Q : aQ), i + k = c → (aX (d + 2) iX5_albumGoingRoundOf 2 [some (.ref t), some (.int s), some (.int (nI i)), l3] [] σ Q ↔ Q (some (.int (aFi st s k i))) σ)
  | 0, i, l3, Q, h => by
    have e : i = c := by omega
    subst e
    have h0 := hT.1
    rw [hc] at h0
    rw [sX5_albumGoingRoundOf_2]
    simp (disch := omega) only [sX5_albumGoingRoundOf_0, sX5_albumGoingRoundOf_1, sX5_albumGoingRoundOf_3, sX5_albumGoingRoundOf_4, sX5_albumGoingRoundOf_7, sX5_albumGoingRoundOf_10, sX5_albumGoingRoundOf_11, sX5_albumGoingRoundOf_12, sX5_albumGoingRoundOf_15, sX5_albumGoingRoundOf_15n, sX5_albumGoingRoundOf_16, sX5_albumGoingRoundOf_16n, sX5_albumGoingRoundOf_17, sX5_albumGoingRoundOf_17n, sX5_albumGoingRoundOf_20, sX5_albumGoingRoundOf_20n, sX5_albumGoingRoundOf_21, sX5_albumGoingRoundOf_24, sX5_albumGoingRoundOf_25, sX5_albumGoingRoundOf_28, sX5_albumGoingRoundOf_28n, sX5_albumGoingRoundOf_29, sX5_albumGoingRoundOf_32, sX5_albumGoingRoundOf_35, sX5_albumGoingRoundOf_36, sX5_albumGoingRoundOf_37, sX5_albumGoingRoundOf_40, sX5_albumGoingRoundOf_43, sX5_albumGoingRoundOf_45, h0, aFi, tF_l, tF_g0, tF_g1, tF_g2, tF_g3, tF_g4, tF_g5, tF_s3, tF_s4, tF_s5, aFld, aFds, aRow, aRowR, aRefs, aLn, if_true, List.getElem?_cons_zero, List.getElem?_cons_succ, List.set_cons_zero, List.set_cons_succ, List.length_cons, List.length_nil, Option.some.injEq, exists_eq_left', aput_same, aclr_none, aclr_int, aclr_ref, aclr_null, aret_some, aret_none, bz, bz0, bz1, true_and, and_true, vpT, nIc, nI_add, pk_mul, nI_sub', Nat.add_zero, Nat.zero_add, upd_same, upd_ne, if_false, not_true_eq_false, not_false_eq_true, ite_z, ite_o, eq_self, Bool.false_eq_true, nI_leT, nI_leF, nI_ltT, nI_ltF, nI_ne, and_self, false_and, and_false, Nat.reduceAdd, Nat.reduceSub, Nat.reduceMul, Nat.reduceLT, Nat.reduceLeDiff, true_and]
  | k + 1, i, l3, Q, h => by
    have h0 := hT.1
    rw [hc] at h0
    obtain ⟨ow, pg, hw, tn, tp, f, g, hAl, hR⟩ := hT.2.2.2.2.2 i (by omega)
    have hR' := hR (by rw [hc, nIc (by omega)]; omega)
    have how : ow = st (35 + 28 * i + 0) := hR'.1
    have hhw : hw = st (35 + 28 * i + 2) := hR'.2.2.1
    have a0 := hAl.1
    have ih := fun l3 => cv_albOf_loop hT hc h12 s k (i + 1) l3 Q (by omega)
    rw [aFi, ← how, ← hhw]
    rw [sX5_albumGoingRoundOf_2]
    by_cases g1 : ow = s
    · by_cases g2 : hw = nI 0
      · rw [if_pos ⟨g1, g2⟩]
        simp (disch := omega) only [sX5_albumGoingRoundOf_0, sX5_albumGoingRoundOf_1, sX5_albumGoingRoundOf_3, sX5_albumGoingRoundOf_4, sX5_albumGoingRoundOf_7, sX5_albumGoingRoundOf_10, sX5_albumGoingRoundOf_11, sX5_albumGoingRoundOf_12, sX5_albumGoingRoundOf_15, sX5_albumGoingRoundOf_15n, sX5_albumGoingRoundOf_16, sX5_albumGoingRoundOf_16n, sX5_albumGoingRoundOf_17, sX5_albumGoingRoundOf_17n, sX5_albumGoingRoundOf_20, sX5_albumGoingRoundOf_20n, sX5_albumGoingRoundOf_21, sX5_albumGoingRoundOf_24, sX5_albumGoingRoundOf_25, sX5_albumGoingRoundOf_28, sX5_albumGoingRoundOf_28n, sX5_albumGoingRoundOf_29, sX5_albumGoingRoundOf_32, sX5_albumGoingRoundOf_35, sX5_albumGoingRoundOf_36, sX5_albumGoingRoundOf_37, sX5_albumGoingRoundOf_40, sX5_albumGoingRoundOf_43, sX5_albumGoingRoundOf_45, h0, a0, cv_albumAt hT hc h12, cv_goes hAl, aIsT h0, aIsT a0, g1, g2, cF_g1, tF_l, tF_g0, tF_g1, tF_g2, tF_g3, tF_g4, tF_g5, tF_s3, tF_s4, tF_s5, aFld, aFds, aRow, aRowR, aRefs, aLn, if_true, List.getElem?_cons_zero, List.getElem?_cons_succ, List.set_cons_zero, List.set_cons_succ, List.length_cons, List.length_nil, Option.some.injEq, exists_eq_left', aput_same, aclr_none, aclr_int, aclr_ref, aclr_null, aret_some, aret_none, bz, bz0, bz1, true_and, and_true, vpT, nIc, nI_add, pk_mul, nI_sub', Nat.add_zero, Nat.zero_add, upd_same, upd_ne, if_false, not_true_eq_false, not_false_eq_true, ite_z, ite_o, eq_self, Bool.false_eq_true, nI_leT, nI_leF, nI_ltT, nI_ltF, nI_ne, and_self, false_and, and_false, Nat.reduceAdd, Nat.reduceSub, Nat.reduceMul, Nat.reduceLT, Nat.reduceLeDiff, true_and]
      · rw [if_neg (fun z => g2 z.2), ← ih (some (.ref (t + 5 + 3 * i)))]
        simp (disch := omega) only [sX5_albumGoingRoundOf_0, sX5_albumGoingRoundOf_1, sX5_albumGoingRoundOf_3, sX5_albumGoingRoundOf_4, sX5_albumGoingRoundOf_7, sX5_albumGoingRoundOf_10, sX5_albumGoingRoundOf_11, sX5_albumGoingRoundOf_12, sX5_albumGoingRoundOf_15, sX5_albumGoingRoundOf_15n, sX5_albumGoingRoundOf_16, sX5_albumGoingRoundOf_16n, sX5_albumGoingRoundOf_17, sX5_albumGoingRoundOf_17n, sX5_albumGoingRoundOf_20, sX5_albumGoingRoundOf_20n, sX5_albumGoingRoundOf_21, sX5_albumGoingRoundOf_24, sX5_albumGoingRoundOf_25, sX5_albumGoingRoundOf_28, sX5_albumGoingRoundOf_28n, sX5_albumGoingRoundOf_29, sX5_albumGoingRoundOf_32, sX5_albumGoingRoundOf_35, sX5_albumGoingRoundOf_36, sX5_albumGoingRoundOf_37, sX5_albumGoingRoundOf_40, sX5_albumGoingRoundOf_43, sX5_albumGoingRoundOf_45, h0, a0, cv_albumAt hT hc h12, cv_goes hAl, aIsT h0, aIsT a0, g1, g2, cF_g1, tF_l, tF_g0, tF_g1, tF_g2, tF_g3, tF_g4, tF_g5, tF_s3, tF_s4, tF_s5, aFld, aFds, aRow, aRowR, aRefs, aLn, if_true, List.getElem?_cons_zero, List.getElem?_cons_succ, List.set_cons_zero, List.set_cons_succ, List.length_cons, List.length_nil, Option.some.injEq, exists_eq_left', aput_same, aclr_none, aclr_int, aclr_ref, aclr_null, aret_some, aret_none, bz, bz0, bz1, true_and, and_true, vpT, nIc, nI_add, pk_mul, nI_sub', Nat.add_zero, Nat.zero_add, upd_same, upd_ne, if_false, not_true_eq_false, not_false_eq_true, ite_z, ite_o, eq_self, Bool.false_eq_true, nI_leT, nI_leF, nI_ltT, nI_ltF, nI_ne, and_self, false_and, and_false, Nat.reduceAdd, Nat.reduceSub, Nat.reduceMul, Nat.reduceLT, Nat.reduceLeDiff, true_and]
    · rw [if_neg (fun z => g1 z.1), ← ih (some (.ref (t + 5 + 3 * i)))]
      simp (disch := omega) only [sX5_albumGoingRoundOf_0, sX5_albumGoingRoundOf_1, sX5_albumGoingRoundOf_3, sX5_albumGoingRoundOf_4, sX5_albumGoingRoundOf_7, sX5_albumGoingRoundOf_10, sX5_albumGoingRoundOf_11, sX5_albumGoingRoundOf_12, sX5_albumGoingRoundOf_15, sX5_albumGoingRoundOf_15n, sX5_albumGoingRoundOf_16, sX5_albumGoingRoundOf_16n, sX5_albumGoingRoundOf_17, sX5_albumGoingRoundOf_17n, sX5_albumGoingRoundOf_20, sX5_albumGoingRoundOf_20n, sX5_albumGoingRoundOf_21, sX5_albumGoingRoundOf_24, sX5_albumGoingRoundOf_25, sX5_albumGoingRoundOf_28, sX5_albumGoingRoundOf_28n, sX5_albumGoingRoundOf_29, sX5_albumGoingRoundOf_32, sX5_albumGoingRoundOf_35, sX5_albumGoingRoundOf_36, sX5_albumGoingRoundOf_37, sX5_albumGoingRoundOf_40, sX5_albumGoingRoundOf_43, sX5_albumGoingRoundOf_45, h0, a0, cv_albumAt hT hc h12, aIsT h0, g1, cF_g1, tF_l, tF_g0, tF_g1, tF_g2, tF_g3, tF_g4, tF_g5, tF_s3, tF_s4, tF_s5, aFld, aFds, aRow, aRowR, aRefs, aLn, if_true, List.getElem?_cons_zero, List.getElem?_cons_succ, List.set_cons_zero, List.set_cons_succ, List.length_cons, List.length_nil, Option.some.injEq, exists_eq_left', aput_same, aclr_none, aclr_int, aclr_ref, aclr_null, aret_some, aret_none, bz, bz0, bz1, true_and, and_true, vpT, nIc, nI_add, pk_mul, nI_sub', Nat.add_zero, Nat.zero_add, upd_same, upd_ne, if_false, not_true_eq_false, not_false_eq_true, ite_z, ite_o, eq_self, Bool.false_eq_true, nI_leT, nI_leF, nI_ltT, nI_ltF, nI_ne, and_self, false_and, and_false, Nat.reduceAdd, Nat.reduceSub, Nat.reduceMul, Nat.reduceLT, Nat.reduceLeDiff, true_and]
theorem cv_albOf (hT : TabR σ t st) (hc : st 34 = nI c) (h12 : c ≤ 12) (hu : mUn st c) (s : Int32) : aX (d + 2) iX5_albumGoingRoundOf 0 [some (.ref t), some (.int s), none, none] [] σ Q ↔ Q (some (.int (mAlbOf st s c))) σ := by
  rw [← aFi_eq hu, ← cv_albOf_loop (d := d) hT hc h12 s c 0 none Q (by omega)]
  simp only [sX5_albumGoingRoundOf_0, sX5_albumGoingRoundOf_1, tF_l, tF_g0, tF_g1, tF_g2, tF_g3, tF_g4, tF_g5, tF_s3, tF_s4, tF_s5, aFld, aFds, aRow, aRowR, aRefs, aLn, if_true, List.getElem?_cons_zero, List.getElem?_cons_succ, List.set_cons_zero, List.set_cons_succ, List.length_cons, List.length_nil, Option.some.injEq, exists_eq_left', aput_same, aclr_none, aclr_int, aclr_ref, aclr_null, aret_some, aret_none, bz, bz0, bz1, true_and, and_true, vpT, nIc, nI_add, pk_mul, nI_sub', Nat.add_zero, Nat.zero_add, upd_same, upd_ne, if_false, not_true_eq_false, not_false_eq_true, ite_z, ite_o, eq_self, Bool.false_eq_true, nI_leT, nI_leF, nI_ltT, nI_ltF, nI_ne, and_self, false_and, and_false, Nat.reduceAdd, Nat.reduceSub, Nat.reduceMul, Nat.reduceLT, Nat.reduceLeDiff, true_and]
theorem cv_points_loop (hT : TabR σ t st) : ∀ (k i : Nat) (Q : aQ), i + k = 8 → (aX d iX5_allPoints 4 [some (.ref t), some (.int (mSum st i)), some (.int (nI i))] [] σ Q ↔ Q (some (.int (mSum st 8))) σ)
  | 0, i, Q, h => by
    have e : i = 8 := by omega
    subst e
    obtain ⟨h0, -, -, ⟨P, h3, h3'⟩, -⟩ := hT
    rw [sX5_allPoints_4]
    simp (disch := omega) only [sX5_allPoints_0, sX5_allPoints_1, sX5_allPoints_2, sX5_allPoints_3, sX5_allPoints_5, sX5_allPoints_6, sX5_allPoints_9, sX5_allPoints_10, sX5_allPoints_13, sX5_allPoints_14, sX5_allPoints_15, sX5_allPoints_18, sX5_allPoints_19, sX5_allPoints_20, sX5_allPoints_21, sX5_allPoints_22, sX5_allPoints_25, sX5_allPoints_28, sX5_allPoints_29, h0, h3, tF_l, tF_g0, tF_g1, tF_g2, tF_g3, tF_g4, tF_g5, tF_s3, tF_s4, tF_s5, aFld, aFds, aRow, aRowR, aRefs, aLn, if_true, List.getElem?_cons_zero, List.getElem?_cons_succ, List.set_cons_zero, List.set_cons_succ, List.length_cons, List.length_nil, Option.some.injEq, exists_eq_left', aput_same, aclr_none, aclr_int, aclr_ref, aclr_null, aret_some, aret_none, bz, bz0, bz1, true_and, and_true, vpT, nIc, nI_add, pk_mul, nI_sub', Nat.add_zero, Nat.zero_add, upd_same, upd_ne, if_false, not_true_eq_false, not_false_eq_true, ite_z, ite_o, eq_self, Bool.false_eq_true, nI_leT, nI_leF, nI_ltT, nI_ltF, nI_ne, and_self, false_and, and_false, Nat.reduceAdd, Nat.reduceSub, Nat.reduceMul, Nat.reduceLT, Nat.reduceLeDiff, true_and]
  | k + 1, i, Q, h => by
    have ih := cv_points_loop hT k (i + 1) Q (by omega)
    obtain ⟨h0, -, -, ⟨P, h3, h3'⟩, -⟩ := hT
    rw [mSum] at ih
    rw [sX5_allPoints_4]
    simp (disch := omega) only [sX5_allPoints_0, sX5_allPoints_1, sX5_allPoints_2, sX5_allPoints_3, sX5_allPoints_5, sX5_allPoints_6, sX5_allPoints_9, sX5_allPoints_10, sX5_allPoints_13, sX5_allPoints_14, sX5_allPoints_15, sX5_allPoints_18, sX5_allPoints_19, sX5_allPoints_20, sX5_allPoints_21, sX5_allPoints_22, sX5_allPoints_25, sX5_allPoints_28, sX5_allPoints_29, h0, h3, h3', tF_l, tF_g0, tF_g1, tF_g2, tF_g3, tF_g4, tF_g5, tF_s3, tF_s4, tF_s5, aFld, aFds, aRow, aRowR, aRefs, aLn, if_true, List.getElem?_cons_zero, List.getElem?_cons_succ, List.set_cons_zero, List.set_cons_succ, List.length_cons, List.length_nil, Option.some.injEq, exists_eq_left', aput_same, aclr_none, aclr_int, aclr_ref, aclr_null, aret_some, aret_none, bz, bz0, bz1, true_and, and_true, vpT, nIc, nI_add, pk_mul, nI_sub', Nat.add_zero, Nat.zero_add, upd_same, upd_ne, if_false, not_true_eq_false, not_false_eq_true, ite_z, ite_o, eq_self, Bool.false_eq_true, nI_leT, nI_leF, nI_ltT, nI_ltF, nI_ne, and_self, false_and, and_false, Nat.reduceAdd, Nat.reduceSub, Nat.reduceMul, Nat.reduceLT, Nat.reduceLeDiff, true_and]
    exact ih
theorem cv_points (hT : TabR σ t st) : aX d iX5_allPoints 0 [some (.ref t), none, none] [] σ Q ↔ Q (some (.int (mSum st 8))) σ := by
  rw [← cv_points_loop (d := d) hT 8 0 Q (by omega)]
  simp only [sX5_allPoints_0, sX5_allPoints_1, sX5_allPoints_2, sX5_allPoints_3, mSum, tF_l, tF_g0, tF_g1, tF_g2, tF_g3, tF_g4, tF_g5, tF_s3, tF_s4, tF_s5, aFld, aFds, aRow, aRowR, aRefs, aLn, if_true, List.getElem?_cons_zero, List.getElem?_cons_succ, List.set_cons_zero, List.set_cons_succ, List.length_cons, List.length_nil, Option.some.injEq, exists_eq_left', aput_same, aclr_none, aclr_int, aclr_ref, aclr_null, aret_some, aret_none, bz, bz0, bz1, true_and, and_true, vpT, nIc, nI_add, pk_mul, nI_sub', Nat.add_zero, Nat.zero_add, upd_same, upd_ne, if_false, not_true_eq_false, not_false_eq_true, ite_z, ite_o, eq_self, Bool.false_eq_true, nI_leT, nI_leF, nI_ltT, nI_ltF, nI_ne, and_self, false_and, and_false, Nat.reduceAdd, Nat.reduceSub, Nat.reduceMul, Nat.reduceLT, Nat.reduceLeDiff, true_and]
theorem cv_teachN {w f : Int32} (hw : inR w 0 15 = False) : aX (d + 1) iX5_changeFeatures 0 [some (.ref t), some (.int w), some (.int f), none] [] σ Q ↔ Q (some (.int (-1))) σ := by
  simp only [inR] at hw
  simp (disch := omega) only [sX5_changeFeatures_0, sX5_changeFeatures_1, sX5_changeFeatures_3, sX5_changeFeatures_6, sX5_changeFeatures_9, sX5_changeFeatures_10, sX5_changeFeatures_11, sX5_changeFeatures_12, sX5_changeFeatures_15, sX5_changeFeatures_18, sX5_changeFeatures_21, sX5_changeFeatures_23, sX5_changeFeatures_24, sX5_changeFeatures_25, sX5_changeFeatures_28, sX5_changeFeatures_29, sX5_changeFeatures_32, sX5_changeFeatures_33, sX5_changeFeatures_34, sX5_changeFeatures_37, sX5_changeFeatures_38, sX5_changeFeatures_39, sX5_changeFeatures_42, sX5_changeFeatures_43, ch_isBelow, hw, tF_l, tF_g0, tF_g1, tF_g2, tF_g3, tF_g4, tF_g5, tF_s3, tF_s4, tF_s5, aFld, aFds, aRow, aRowR, aRefs, aLn, if_true, List.getElem?_cons_zero, List.getElem?_cons_succ, List.set_cons_zero, List.set_cons_succ, List.length_cons, List.length_nil, Option.some.injEq, exists_eq_left', aput_same, aclr_none, aclr_int, aclr_ref, aclr_null, aret_some, aret_none, bz, bz0, bz1, true_and, and_true, vpT, nIc, nI_add, pk_mul, nI_sub', Nat.add_zero, Nat.zero_add, upd_same, upd_ne, if_false, not_true_eq_false, not_false_eq_true, ite_z, ite_o, eq_self, Bool.false_eq_true, nI_leT, nI_leF, nI_ltT, nI_ltF, nI_ne, and_self, false_and, and_false, Nat.reduceAdd, Nat.reduceSub, Nat.reduceMul, Nat.reduceLT, Nat.reduceLeDiff, true_and]
theorem cv_teachB {w : Nat} {f : Int32} (hw : w ≤ 15) (hf : inR f 0 4095 = False) : aX (d + 1) iX5_changeFeatures 0 [some (.ref t), some (.int (nI w)), some (.int f), none] [] σ Q ↔ Q (some (.int (-2))) σ := by
  simp only [inR] at hf
  simp (disch := omega) only [sX5_changeFeatures_0, sX5_changeFeatures_1, sX5_changeFeatures_3, sX5_changeFeatures_6, sX5_changeFeatures_9, sX5_changeFeatures_10, sX5_changeFeatures_11, sX5_changeFeatures_12, sX5_changeFeatures_15, sX5_changeFeatures_18, sX5_changeFeatures_21, sX5_changeFeatures_23, sX5_changeFeatures_24, sX5_changeFeatures_25, sX5_changeFeatures_28, sX5_changeFeatures_29, sX5_changeFeatures_32, sX5_changeFeatures_33, sX5_changeFeatures_34, sX5_changeFeatures_37, sX5_changeFeatures_38, sX5_changeFeatures_39, sX5_changeFeatures_42, sX5_changeFeatures_43, ch_isBelow, hf, tF_l, tF_g0, tF_g1, tF_g2, tF_g3, tF_g4, tF_g5, tF_s3, tF_s4, tF_s5, aFld, aFds, aRow, aRowR, aRefs, aLn, if_true, List.getElem?_cons_zero, List.getElem?_cons_succ, List.set_cons_zero, List.set_cons_succ, List.length_cons, List.length_nil, Option.some.injEq, exists_eq_left', aput_same, aclr_none, aclr_int, aclr_ref, aclr_null, aret_some, aret_none, bz, bz0, bz1, true_and, and_true, vpT, nIc, nI_add, pk_mul, nI_sub', Nat.add_zero, Nat.zero_add, upd_same, upd_ne, if_false, not_true_eq_false, not_false_eq_true, ite_z, ite_o, eq_self, Bool.false_eq_true, nI_leT, nI_leF, nI_ltT, nI_ltF, nI_ne, and_self, false_and, and_false, Nat.reduceAdd, Nat.reduceSub, Nat.reduceMul, Nat.reduceLT, Nat.reduceLeDiff, true_and]
theorem cv_teach {w x : Nat} (hT : TabR σ t st) (hw : w ≤ 15) (hx : x ≤ 4095) (K : ∀ σ', TabR σ' t (upd st w (nI x)) → Fr σ σ' t 41 → Q (some (.int (st w))) σ') : aX (d + 1) iX5_changeFeatures 0 [some (.ref t), some (.int (nI w)), some (.int (nI x)), none] [] σ Q := by
  obtain ⟨h0, ⟨ft, h1, h1'⟩, ⟨dr, h2, h2'⟩, ⟨P, h3, h3'⟩, ⟨F, h4, h4'⟩, hA⟩ := hT
  simp (disch := omega) only [sX5_changeFeatures_0, sX5_changeFeatures_1, sX5_changeFeatures_3, sX5_changeFeatures_6, sX5_changeFeatures_9, sX5_changeFeatures_10, sX5_changeFeatures_11, sX5_changeFeatures_12, sX5_changeFeatures_15, sX5_changeFeatures_18, sX5_changeFeatures_21, sX5_changeFeatures_23, sX5_changeFeatures_24, sX5_changeFeatures_25, sX5_changeFeatures_28, sX5_changeFeatures_29, sX5_changeFeatures_32, sX5_changeFeatures_33, sX5_changeFeatures_34, sX5_changeFeatures_37, sX5_changeFeatures_38, sX5_changeFeatures_39, sX5_changeFeatures_42, sX5_changeFeatures_43, ch_isBelow, ch_valueAt h1, ch_setAt h1, h0, h1', tF_l, tF_g0, tF_g1, tF_g2, tF_g3, tF_g4, tF_g5, tF_s3, tF_s4, tF_s5, aFld, aFds, aRow, aRowR, aRefs, aLn, if_true, List.getElem?_cons_zero, List.getElem?_cons_succ, List.set_cons_zero, List.set_cons_succ, List.length_cons, List.length_nil, Option.some.injEq, exists_eq_left', aput_same, aclr_none, aclr_int, aclr_ref, aclr_null, aret_some, aret_none, bz, bz0, bz1, true_and, and_true, vpT, nIc, nI_add, pk_mul, nI_sub', Nat.add_zero, Nat.zero_add, upd_same, upd_ne, if_false, not_true_eq_false, not_false_eq_true, ite_z, ite_o, eq_self, Bool.false_eq_true, nI_leT, nI_leF, nI_ltT, nI_ltF, nI_ne, and_self, false_and, and_false, Nat.reduceAdd, Nat.reduceSub, Nat.reduceMul, Nat.reduceLT, Nat.reduceLeDiff, true_and]
  refine K _ ⟨?_, ⟨_, aput_same _ _ _, fun k hk => ?_⟩, ⟨dr, (aput_ne _ _ (by omega)).trans h2, fun k hk => by rw [upd_ne (by omega)]; exact h2' k hk⟩, ⟨P, (aput_ne _ _ (by omega)).trans h3, fun k hk => by rw [upd_ne (by omega)]; exact h3' k hk⟩, ⟨F, (aput_ne _ _ (by omega)).trans h4, h4'⟩, fun j hj => TabA_low (fun q g1 g2 => aput_ne _ _ (by omega)) (fun k hk => upd_ne (by omega)) (hA j hj)⟩ (Fr_put (by omega) (by omega))
  · rw [upd_ne (by omega), upd_ne (by omega), upd_ne (by omega)]
    exact (aput_ne _ _ (by omega)).trans h0
  · by_cases e : k = w
    · subst e; rw [upd_same, upd_same]
    · rw [upd_ne e, upd_ne e]; exact h1' k hk
theorem cv_sitE {s f v : Int32} (hv : mWSat s f = v) (hn : (nI 0 ≤ v) = False) : aX (d + 1) iX5_sitDown 0 [some (.ref t), some (.int s), some (.int f)] [] σ Q ↔ Q (some (.int v)) σ := by
  unfold mWSat at hv
  by_cases h1 : inR s 0 7
  · rw [if_pos h1] at hv
    by_cases h2 : f = -6
    · rw [if_pos h2] at hv
      subst hv
      exact absurd (Int32.le_refl (nI 0)) hn.mp
    · rw [if_neg h2] at hv
      by_cases h3 : inR f 0 4095
      · rw [if_pos h3] at hv
        subst hv
        exact absurd (Int32.le_refl (nI 0)) hn.mp
      · rw [if_neg h3] at hv
        subst hv
        simp only [inR] at h1 h3
        simp (disch := omega) only [sX5_sitDown_0, sX5_sitDown_1, sX5_sitDown_3, sX5_sitDown_6, sX5_sitDown_9, sX5_sitDown_10, sX5_sitDown_11, sX5_sitDown_12, sX5_sitDown_14, sX5_sitDown_17, sX5_sitDown_18, sX5_sitDown_21, sX5_sitDown_24, sX5_sitDown_27, sX5_sitDown_29, sX5_sitDown_30, sX5_sitDown_31, sX5_sitDown_33, sX5_sitDown_36, sX5_sitDown_37, sX5_sitDown_40, sX5_sitDown_41, sX5_sitDown_42, sX5_sitDown_45, sX5_sitDown_46, sX5_sitDown_46i, sX5_sitDown_47, sX5_sitDown_50, sX5_sitDown_51, sX5_sitDown_52, sX5_sitDown_53, sX5_sitDown_54, sX5_sitDown_57, sX5_sitDown_58, sX5_sitDown_61, sX5_sitDown_64, ch_isBelow, h1, h2, h3, tF_l, tF_g0, tF_g1, tF_g2, tF_g3, tF_g4, tF_g5, tF_s3, tF_s4, tF_s5, aFld, aFds, aRow, aRowR, aRefs, aLn, if_true, List.getElem?_cons_zero, List.getElem?_cons_succ, List.set_cons_zero, List.set_cons_succ, List.length_cons, List.length_nil, Option.some.injEq, exists_eq_left', aput_same, aclr_none, aclr_int, aclr_ref, aclr_null, aret_some, aret_none, bz, bz0, bz1, true_and, and_true, vpT, nIc, nI_add, pk_mul, nI_sub', Nat.add_zero, Nat.zero_add, upd_same, upd_ne, if_false, not_true_eq_false, not_false_eq_true, ite_z, ite_o, eq_self, Bool.false_eq_true, nI_leT, nI_leF, nI_ltT, nI_ltF, nI_ne, and_self, false_and, and_false, Nat.reduceAdd, Nat.reduceSub, Nat.reduceMul, Nat.reduceLT, Nat.reduceLeDiff, true_and]
  · rw [if_neg h1] at hv
    subst hv
    simp only [inR] at h1
    simp (disch := omega) only [sX5_sitDown_0, sX5_sitDown_1, sX5_sitDown_3, sX5_sitDown_6, sX5_sitDown_9, sX5_sitDown_10, sX5_sitDown_11, sX5_sitDown_12, sX5_sitDown_14, sX5_sitDown_17, sX5_sitDown_18, sX5_sitDown_21, sX5_sitDown_24, sX5_sitDown_27, sX5_sitDown_29, sX5_sitDown_30, sX5_sitDown_31, sX5_sitDown_33, sX5_sitDown_36, sX5_sitDown_37, sX5_sitDown_40, sX5_sitDown_41, sX5_sitDown_42, sX5_sitDown_45, sX5_sitDown_46, sX5_sitDown_46i, sX5_sitDown_47, sX5_sitDown_50, sX5_sitDown_51, sX5_sitDown_52, sX5_sitDown_53, sX5_sitDown_54, sX5_sitDown_57, sX5_sitDown_58, sX5_sitDown_61, sX5_sitDown_64, ch_isBelow, h1, tF_l, tF_g0, tF_g1, tF_g2, tF_g3, tF_g4, tF_g5, tF_s3, tF_s4, tF_s5, aFld, aFds, aRow, aRowR, aRefs, aLn, if_true, List.getElem?_cons_zero, List.getElem?_cons_succ, List.set_cons_zero, List.set_cons_succ, List.length_cons, List.length_nil, Option.some.injEq, exists_eq_left', aput_same, aclr_none, aclr_int, aclr_ref, aclr_null, aret_some, aret_none, bz, bz0, bz1, true_and, and_true, vpT, nIc, nI_add, pk_mul, nI_sub', Nat.add_zero, Nat.zero_add, upd_same, upd_ne, if_false, not_true_eq_false, not_false_eq_true, ite_z, ite_o, eq_self, Bool.false_eq_true, nI_leT, nI_leF, nI_ltT, nI_ltF, nI_ne, and_self, false_and, and_false, Nat.reduceAdd, Nat.reduceSub, Nat.reduceMul, Nat.reduceLT, Nat.reduceLeDiff, true_and]
theorem jBc_or {st : Nat → Int32} (hE : eOK st) {s : Nat} (hs : s ≤ 7) : jBc (st 16 ||| nI 1 <<< (nI s &&& 31)) = mBits (st 16 ||| nI 1 <<< (nI s &&& 31)) 12 := by
  obtain ⟨x, hx, hx2⟩ := hE.2.1
  obtain ⟨y, hy, hy2⟩ := or_256 x hx2 s (by omega)
  rw [hx, hy, jBc_eq (by omega)]
theorem jBc_an {st : Nat → Int32} (hE : eOK st) {s : Nat} (hs : s ≤ 7) : jBc (st 16 &&& (nI 1 <<< (nI s &&& 31) ^^^ -1)) = mBits (st 16 &&& (nI 1 <<< (nI s &&& 31) ^^^ -1)) 12 := by
  obtain ⟨x, hx, hx2⟩ := hE.2.1
  obtain ⟨y, hy, hy2⟩ := an_256 x hx2 s (by omega)
  rw [hx, hy, jBc_eq (by omega)]
theorem cv_sit {s : Nat} {f : Int32} (hT : TabR σ t st) (hE : eOK st) (hs : s ≤ 7) (hv : mWSat (nI s) f = nI 0) (K : ∀ σ', TabR σ' t (mSat st s f) → Fr σ σ' t 41 → Q (some (.int (mBits (st 16 ||| nI 1 <<< (nI s &&& 31)) 12))) σ') : aX (d + 1) iX5_sitDown 0 [some (.ref t), some (.int (nI s)), some (.int f)] [] σ Q := by
  have hb := jBc_or hE hs
  obtain ⟨h0, ⟨ft, h1, h1'⟩, ⟨dr, h2, h2'⟩, ⟨P, h3, h3'⟩, ⟨F, h4, h4'⟩, hA⟩ := hT
  have u : ∀ k, k ≠ 16 → k ≠ 17 + s → mSat st s f k = st k := fun k g1 g2 => by unfold mSat; rw [upd_ne g2, upd_ne g1]
  have u16 : mSat st s f 16 = st 16 ||| nI 1 <<< (nI s &&& 31) := by unfold mSat; rw [upd_ne (by omega), upd_same]
  have uS : mSat st s f (17 + s) = if f = -6 then st (17 + s) else f := by unfold mSat; rw [upd_same]
  unfold mWSat at hv
  rw [if_pos (by rw [inR_T (by omega) (by omega)]; trivial)] at hv
  by_cases h2f : f = -6
  · rw [if_pos h2f] at uS
    simp (disch := omega) only [sX5_sitDown_0, sX5_sitDown_1, sX5_sitDown_3, sX5_sitDown_6, sX5_sitDown_9, sX5_sitDown_10, sX5_sitDown_11, sX5_sitDown_12, sX5_sitDown_14, sX5_sitDown_17, sX5_sitDown_18, sX5_sitDown_21, sX5_sitDown_24, sX5_sitDown_27, sX5_sitDown_29, sX5_sitDown_30, sX5_sitDown_31, sX5_sitDown_33, sX5_sitDown_36, sX5_sitDown_37, sX5_sitDown_40, sX5_sitDown_41, sX5_sitDown_42, sX5_sitDown_45, sX5_sitDown_46, sX5_sitDown_46i, sX5_sitDown_47, sX5_sitDown_50, sX5_sitDown_51, sX5_sitDown_52, sX5_sitDown_53, sX5_sitDown_54, sX5_sitDown_57, sX5_sitDown_58, sX5_sitDown_61, sX5_sitDown_64, ch_isBelow, h0, h2f, j_bitCount, hb, tF_l, tF_g0, tF_g1, tF_g2, tF_g3, tF_g4, tF_g5, tF_s3, tF_s4, tF_s5, aFld, aFds, aRow, aRowR, aRefs, aLn, if_true, List.getElem?_cons_zero, List.getElem?_cons_succ, List.set_cons_zero, List.set_cons_succ, List.length_cons, List.length_nil, Option.some.injEq, exists_eq_left', aput_same, aclr_none, aclr_int, aclr_ref, aclr_null, aret_some, aret_none, bz, bz0, bz1, true_and, and_true, vpT, nIc, nI_add, pk_mul, nI_sub', Nat.add_zero, Nat.zero_add, upd_same, upd_ne, if_false, not_true_eq_false, not_false_eq_true, ite_z, ite_o, eq_self, Bool.false_eq_true, nI_leT, nI_leF, nI_ltT, nI_ltF, nI_ne, and_self, false_and, and_false, Nat.reduceAdd, Nat.reduceSub, Nat.reduceMul, Nat.reduceLT, Nat.reduceLeDiff, true_and]
    subst h2f
    refine K _ ⟨?_, ⟨ft, (aput_ne _ _ (by omega)).trans h1, fun k hk => by rw [u k (by omega) (by omega)]; exact h1' k hk⟩, ⟨dr, (aput_ne _ _ (by omega)).trans h2, fun k hk => ?_⟩, ⟨P, (aput_ne _ _ (by omega)).trans h3, fun k hk => by rw [u _ (by omega) (by omega)]; exact h3' k hk⟩, ⟨F, (aput_ne _ _ (by omega)).trans h4, h4'⟩, fun j hj => TabA_low (fun q g1 g2 => aput_ne _ _ (by omega)) (fun k hk => u k (by omega) (by omega)) (hA j hj)⟩ (Fr_put (by omega) (by omega))
    · rw [u16, u 34 (by omega) (by omega), u 33 (by omega) (by omega)]
      exact aput_same _ _ _
    · by_cases e : k = s
      · subst e; rw [uS]; exact h2' k hk
      · rw [u _ (by omega) (by omega)]; exact h2' k hk
  · rw [if_neg h2f] at hv uS
    by_cases h3f : inR f 0 4095
    · simp only [inR] at h3f
      have r0 : ∀ {x : Nat → Int32}, (aput σ (t + 2) (eI 8 x)).1 t = some (eO 5 (.ref (t + 1) :: tF t (st 16) (st 34) (st 33))) := fun {x} => (aput_ne _ _ (by omega)).trans h0
      simp (disch := omega) only [sX5_sitDown_0, sX5_sitDown_1, sX5_sitDown_3, sX5_sitDown_6, sX5_sitDown_9, sX5_sitDown_10, sX5_sitDown_11, sX5_sitDown_12, sX5_sitDown_14, sX5_sitDown_17, sX5_sitDown_18, sX5_sitDown_21, sX5_sitDown_24, sX5_sitDown_27, sX5_sitDown_29, sX5_sitDown_30, sX5_sitDown_31, sX5_sitDown_33, sX5_sitDown_36, sX5_sitDown_37, sX5_sitDown_40, sX5_sitDown_41, sX5_sitDown_42, sX5_sitDown_45, sX5_sitDown_46, sX5_sitDown_46i, sX5_sitDown_47, sX5_sitDown_50, sX5_sitDown_51, sX5_sitDown_52, sX5_sitDown_53, sX5_sitDown_54, sX5_sitDown_57, sX5_sitDown_58, sX5_sitDown_61, sX5_sitDown_64, ch_isBelow, ch_setAt h2, h0, r0, h2f, h3f, j_bitCount, hb, tF_l, tF_g0, tF_g1, tF_g2, tF_g3, tF_g4, tF_g5, tF_s3, tF_s4, tF_s5, aFld, aFds, aRow, aRowR, aRefs, aLn, if_true, List.getElem?_cons_zero, List.getElem?_cons_succ, List.set_cons_zero, List.set_cons_succ, List.length_cons, List.length_nil, Option.some.injEq, exists_eq_left', aput_same, aclr_none, aclr_int, aclr_ref, aclr_null, aret_some, aret_none, bz, bz0, bz1, true_and, and_true, vpT, nIc, nI_add, pk_mul, nI_sub', Nat.add_zero, Nat.zero_add, upd_same, upd_ne, if_false, not_true_eq_false, not_false_eq_true, ite_z, ite_o, eq_self, Bool.false_eq_true, nI_leT, nI_leF, nI_ltT, nI_ltF, nI_ne, and_self, false_and, and_false, Nat.reduceAdd, Nat.reduceSub, Nat.reduceMul, Nat.reduceLT, Nat.reduceLeDiff, true_and]
      refine K _ ⟨?_, ⟨ft, (aput_ne _ _ (by omega)).trans ((aput_ne _ _ (by omega)).trans h1), fun k hk => by rw [u k (by omega) (by omega)]; exact h1' k hk⟩, ⟨_, (aput_ne _ _ (by omega)).trans (aput_same _ _ _), fun k hk => ?_⟩, ⟨P, (aput_ne _ _ (by omega)).trans ((aput_ne _ _ (by omega)).trans h3), fun k hk => by rw [u _ (by omega) (by omega)]; exact h3' k hk⟩, ⟨F, (aput_ne _ _ (by omega)).trans ((aput_ne _ _ (by omega)).trans h4), h4'⟩, fun j hj => TabA_low (fun q g1 g2 => (aput_ne _ _ (by omega)).trans (aput_ne _ _ (by omega))) (fun k hk => u k (by omega) (by omega)) (hA j hj)⟩ (Fr_trans (Fr_put (by omega) (by omega)) (Fr_put (by omega) (by omega)))
      · rw [u16, u 34 (by omega) (by omega), u 33 (by omega) (by omega)]
        exact aput_same _ _ _
      · by_cases e : k = s
        · subst e; rw [uS, upd_same]
        · rw [u _ (by omega) (by omega), upd_ne e]; exact h2' k hk
    · rw [if_neg h3f] at hv
      exact absurd hv (by decide)
theorem cv_leaveE {s v : Int32} (hT : TabR σ t st) (hv : mWLeft st s = v) (hn : (nI 0 ≤ v) = False) : aX (d + 1) iX5_standUp 0 [some (.ref t), some (.int s)] [] σ Q ↔ Q (some (.int v)) σ := by
  unfold mWLeft at hv
  rcases inR_split 0 7 s (by decide) rfl with ⟨j, hj, e⟩ | e
  · subst e
    rw [if_pos (by rw [inR_T (by omega) (by omega)]; trivial)] at hv
    by_cases g : mTk st (nI j) = true
    · rw [if_pos g] at hv
      subst hv
      exact absurd (Int32.le_refl (nI 0)) hn.mp
    · rw [if_neg g] at hv
      subst hv
      simp (disch := omega) only [sX5_standUp_0, sX5_standUp_1, sX5_standUp_3, sX5_standUp_6, sX5_standUp_9, sX5_standUp_10, sX5_standUp_11, sX5_standUp_12, sX5_standUp_13, sX5_standUp_16, sX5_standUp_19, sX5_standUp_21, sX5_standUp_22, sX5_standUp_23, sX5_standUp_23i, sX5_standUp_24, sX5_standUp_27, sX5_standUp_28, sX5_standUp_29, sX5_standUp_30, sX5_standUp_31, sX5_standUp_32, sX5_standUp_33, sX5_standUp_36, sX5_standUp_37, sX5_standUp_40, sX5_standUp_43, ch_isBelow, cv_taken hT, g, aIsT hT.1, tF_l, tF_g0, tF_g1, tF_g2, tF_g3, tF_g4, tF_g5, tF_s3, tF_s4, tF_s5, aFld, aFds, aRow, aRowR, aRefs, aLn, if_true, List.getElem?_cons_zero, List.getElem?_cons_succ, List.set_cons_zero, List.set_cons_succ, List.length_cons, List.length_nil, Option.some.injEq, exists_eq_left', aput_same, aclr_none, aclr_int, aclr_ref, aclr_null, aret_some, aret_none, bz, bz0, bz1, true_and, and_true, vpT, nIc, nI_add, pk_mul, nI_sub', Nat.add_zero, Nat.zero_add, upd_same, upd_ne, if_false, not_true_eq_false, not_false_eq_true, ite_z, ite_o, eq_self, Bool.false_eq_true, nI_leT, nI_leF, nI_ltT, nI_ltF, nI_ne, and_self, false_and, and_false, Nat.reduceAdd, Nat.reduceSub, Nat.reduceMul, Nat.reduceLT, Nat.reduceLeDiff, true_and]
  · rw [if_neg (of_eq_false e)] at hv
    subst hv
    simp only [inR] at e
    simp (disch := omega) only [sX5_standUp_0, sX5_standUp_1, sX5_standUp_3, sX5_standUp_6, sX5_standUp_9, sX5_standUp_10, sX5_standUp_11, sX5_standUp_12, sX5_standUp_13, sX5_standUp_16, sX5_standUp_19, sX5_standUp_21, sX5_standUp_22, sX5_standUp_23, sX5_standUp_23i, sX5_standUp_24, sX5_standUp_27, sX5_standUp_28, sX5_standUp_29, sX5_standUp_30, sX5_standUp_31, sX5_standUp_32, sX5_standUp_33, sX5_standUp_36, sX5_standUp_37, sX5_standUp_40, sX5_standUp_43, ch_isBelow, e, tF_l, tF_g0, tF_g1, tF_g2, tF_g3, tF_g4, tF_g5, tF_s3, tF_s4, tF_s5, aFld, aFds, aRow, aRowR, aRefs, aLn, if_true, List.getElem?_cons_zero, List.getElem?_cons_succ, List.set_cons_zero, List.set_cons_succ, List.length_cons, List.length_nil, Option.some.injEq, exists_eq_left', aput_same, aclr_none, aclr_int, aclr_ref, aclr_null, aret_some, aret_none, bz, bz0, bz1, true_and, and_true, vpT, nIc, nI_add, pk_mul, nI_sub', Nat.add_zero, Nat.zero_add, upd_same, upd_ne, if_false, not_true_eq_false, not_false_eq_true, ite_z, ite_o, eq_self, Bool.false_eq_true, nI_leT, nI_leF, nI_ltT, nI_ltF, nI_ne, and_self, false_and, and_false, Nat.reduceAdd, Nat.reduceSub, Nat.reduceMul, Nat.reduceLT, Nat.reduceLeDiff, true_and]
theorem cv_leave {s : Nat} (hT : TabR σ t st) (hE : eOK st) (hs : s ≤ 7) (hv : mWLeft st (nI s) = nI 0) (K : ∀ σ', TabR σ' t (mLeft st s) → Fr σ σ' t 41 → Q (some (.int (mBits (st 16 &&& (nI 1 <<< (nI s &&& 31) ^^^ -1)) 12))) σ') : aX (d + 1) iX5_standUp 0 [some (.ref t), some (.int (nI s))] [] σ Q := by
  have hb := jBc_an hE hs
  unfold mWLeft at hv
  rw [if_pos (by rw [inR_T (by omega) (by omega)]; trivial)] at hv
  by_cases g : mTk st (nI s) = true
  · have hT2 := hT
    obtain ⟨h0, ⟨ft, h1, h1'⟩, ⟨dr, h2, h2'⟩, ⟨P, h3, h3'⟩, ⟨F, h4, h4'⟩, hA⟩ := hT
    have u : ∀ k, k ≠ 16 → mLeft st s k = st k := fun k g1 => upd_ne g1
    have u16 : mLeft st s 16 = st 16 &&& (nI 1 <<< (nI s &&& 31) ^^^ -1) := upd_same
    simp (disch := omega) only [sX5_standUp_0, sX5_standUp_1, sX5_standUp_3, sX5_standUp_6, sX5_standUp_9, sX5_standUp_10, sX5_standUp_11, sX5_standUp_12, sX5_standUp_13, sX5_standUp_16, sX5_standUp_19, sX5_standUp_21, sX5_standUp_22, sX5_standUp_23, sX5_standUp_23i, sX5_standUp_24, sX5_standUp_27, sX5_standUp_28, sX5_standUp_29, sX5_standUp_30, sX5_standUp_31, sX5_standUp_32, sX5_standUp_33, sX5_standUp_36, sX5_standUp_37, sX5_standUp_40, sX5_standUp_43, ch_isBelow, cv_taken hT2, g, h0, aIsT h0, j_bitCount, hb, tF_l, tF_g0, tF_g1, tF_g2, tF_g3, tF_g4, tF_g5, tF_s3, tF_s4, tF_s5, aFld, aFds, aRow, aRowR, aRefs, aLn, if_true, List.getElem?_cons_zero, List.getElem?_cons_succ, List.set_cons_zero, List.set_cons_succ, List.length_cons, List.length_nil, Option.some.injEq, exists_eq_left', aput_same, aclr_none, aclr_int, aclr_ref, aclr_null, aret_some, aret_none, bz, bz0, bz1, true_and, and_true, vpT, nIc, nI_add, pk_mul, nI_sub', Nat.add_zero, Nat.zero_add, upd_same, upd_ne, if_false, not_true_eq_false, not_false_eq_true, ite_z, ite_o, eq_self, Bool.false_eq_true, nI_leT, nI_leF, nI_ltT, nI_ltF, nI_ne, and_self, false_and, and_false, Nat.reduceAdd, Nat.reduceSub, Nat.reduceMul, Nat.reduceLT, Nat.reduceLeDiff, true_and]
    refine K _ ⟨?_, ⟨ft, (aput_ne _ _ (by omega)).trans h1, fun k hk => by rw [u k (by omega)]; exact h1' k hk⟩, ⟨dr, (aput_ne _ _ (by omega)).trans h2, fun k hk => by rw [u _ (by omega)]; exact h2' k hk⟩, ⟨P, (aput_ne _ _ (by omega)).trans h3, fun k hk => by rw [u _ (by omega)]; exact h3' k hk⟩, ⟨F, (aput_ne _ _ (by omega)).trans h4, h4'⟩, fun j hj => TabA_low (fun q g1 g2 => aput_ne _ _ (by omega)) (fun k hk => u k (by omega)) (hA j hj)⟩ (Fr_put (by omega) (by omega))
    rw [u16, u 34 (by omega), u 33 (by omega)]
    exact aput_same _ _ _
  · rw [if_neg g] at hv
    exact absurd hv (by decide)
end CY
