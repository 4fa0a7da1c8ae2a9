/-! THE CLASS: the history -/
theorem mOK_cong {st st' : Nat → Int32} (h : ∀ k, k < 371 → st' k = st k) (hok : mOK st) : mOK st' := by
  obtain ⟨he, c, hc, h12, hb⟩ := hok
  exact ⟨eOK_cong (fun k hk => h k (by omega)) he, c, (h 34 (by omega)).trans hc, h12, fun a ha => bOK_congr (fun i hi => h _ (by omega)) (hb a ha)⟩
theorem mK_cong {st st' : Nat → Int32} (h : ∀ k, k < 371 → st' k = st k) (hk : mK st) : mK st' := by
  obtain ⟨hok, hu⟩ := hk
  obtain ⟨he, c, hc, h12, hb⟩ := id hok
  refine ⟨mOK_cong h hok, ?_⟩
  rw [h 34 (by omega)]
  rw [hc, nIc (by omega)] at hu ⊢
  exact mUn_keep (fun a ha => h _ (by omega)) (fun a ha e => by rw [← h _ (by omega)]; exact e) hu
theorem TabR_cong {σ : aS} {t : Nat} {st st' : Nat → Int32} (h : ∀ k, k < 371 → st' k = st k) (hok : mOK st) (hT : TabR σ t st) : TabR σ t st' := by
  obtain ⟨h0, ⟨ft, h1, h1'⟩, ⟨dr, h2, h2'⟩, ⟨P, h3, h3'⟩, hF, hA⟩ := hT
  obtain ⟨he, c, hc, h12, hb⟩ := hok
  refine ⟨by rw [h 16 (by omega), h 34 (by omega), h 33 (by omega)]; exact h0, ⟨ft, h1, fun w hw => by rw [h _ (by omega)]; exact h1' w hw⟩, ⟨dr, h2, fun w hw => by rw [h _ (by omega)]; exact h2' w hw⟩, ⟨P, h3, fun w hw => by rw [h _ (by omega)]; exact h3' w hw⟩, hF, fun j hj => ?_⟩
  refine TabA_keep (fun q _ _ => rfl) (fun hj2 => ?_) (hA j hj)
  rw [h 34 (by omega)] at hj2
  rw [hc, nIc (by omega)] at hj2 ⊢
  exact ⟨hj2, hb j hj2, fun i hi => h _ (by omega)⟩
def HisO (σ : aS) (h o rc : Nat) : Prop := σ.1 h = some (eO 2 [.ref (h + 1), .int (nI o), .int (nI rc)]) ∧ ∃ F, σ.1 (h + 1) = some (eQ 2 7 F) ∧ ∀ j, j < 7 → F j = some (h + 2 + 41 * j)
def hRow (hi : Nat → Int32) (i k : Nat) : Int32 := hi (i * 371 + k)
def HisR (σ : aS) (h o rc : Nat) (hi : Nat → Int32) : Prop := HisO σ h o rc ∧ o < 7 ∧ rc ≤ 6 ∧ (∀ j, j < 7 → ∃ st, TabR σ (h + 2 + 41 * j) st) ∧ ∀ i, i < rc → TabR σ (h + 2 + 41 * ((o + i) % 7)) (hRow hi i)
theorem HisR_keep {σ σ' : aS} {h o rc : Nat} {hi : Nat → Int32} (hk : ∀ q, h ≤ q → q < h + 289 → σ'.1 q = σ.1 q) (hH : HisR σ h o rc hi) : HisR σ' h o rc hi := by
  obtain ⟨⟨h0, F, h1, h1'⟩, h2, h3, h4, h5⟩ := hH
  refine ⟨⟨(hk _ (by omega) (by omega)).trans h0, F, (hk _ (by omega) (by omega)).trans h1, h1'⟩, h2, h3, fun j hj => ?_, fun i hi => TabR_keep (fun q g1 g2 => hk q (by omega) (by omega)) (h5 i hi)⟩
  obtain ⟨st, hT⟩ := h4 j hj
  exact ⟨st, TabR_keep (fun q g1 g2 => hk q (by omega) (by omega)) hT⟩
theorem mRecN_le {rc : Nat} (h : rc ≤ 6) : mRecN rc ≤ 6 := by unfold mRecN; split <;> omega
/-- rows of the history behind a record -/
theorem hRow_rec {hi st : Nat → Int32} {rc i k : Nat} (h6 : rc ≤ 6) (hi2 : i < mRecN rc) (hk : k < 371) : hRow (mRecH hi st rc) i k = if rc = 6 then (if i = 5 then st k else hRow hi (i + 1) k) else (if i = rc then st k else hRow hi i k) := by
  unfold mRecN at hi2
  unfold hRow mRecH
  by_cases h : rc = 6
  · rw [if_pos h] at hi2
    rw [if_pos h, if_pos h, mMv_at]
    by_cases e : i = 5
    · rw [if_pos e, if_pos (by omega), show 0 + (i * 371 + k - 1855) = k by omega]
    · rw [if_neg e, if_neg (by omega), mShift_at, if_pos (by omega), show (i + 1) * 371 + k = i * 371 + k + 371 by omega]
  · rw [if_neg h] at hi2
    rw [if_neg h, if_neg h, mMv_at]
    by_cases e : i = rc
    · rw [if_pos e, if_pos (by subst e; omega), show 0 + (i * 371 + k - rc * 371) = k by subst e; omega]
    · rw [if_neg e, if_neg (by omega)]
section CHI
variable {d : Nat} {σ : aS} {Q : aQ} {h o rc t : Nat} {hi st : Nat → Int32}
theorem ch_stateAt {a : Nat} (hO : HisO σ h o rc) (ho : o < 7) (ha : a < 7) : aX d iX2_stateAt 0 [some (.ref h), some (.int (nI a)), none] [] σ Q ↔ Q (some (.ref (h + 2 + 41 * ((o + a) % 7)))) σ := by
  obtain ⟨h0, F, h1, h1'⟩ := hO
  by_cases g : o + a < 7
  · rw [Nat.mod_eq_of_lt g]
    simp (disch := omega) only [sX2_stateAt_0, sX2_stateAt_1, sX2_stateAt_4, sX2_stateAt_5, sX2_stateAt_6, sX2_stateAt_7, sX2_stateAt_8, sX2_stateAt_9, sX2_stateAt_12, sX2_stateAt_13, sX2_stateAt_16, sX2_stateAt_17, sX2_stateAt_18, sX2_stateAt_21, sX2_stateAt_22, sX2_stateAt_23, sX2_stateAt_24, sX2_stateAt_25, sX2_stateAt_28, sX2_stateAt_29, sX2_stateAt_30, sX2_stateAt_33, sX2_stateAt_34, sX2_stateAt_37, sX2_stateAt_38, sX2_stateAt_41, sX2_stateAt_42, sX2_stateAt_43, sX2_stateAt_46, sX2_stateAt_47, sX2_stateAt_47n, h0, h1, h1', vrf, aFld, aFds, aRow, aRowR, aRefs, aLn, if_true, List.getElem?_cons_zero, List.getElem?_cons_succ, List.set_cons_zero, List.set_cons_succ, List.length_cons, List.length_nil, Option.some.injEq, exists_eq_left', aput_same, aclr_none, aclr_int, aclr_ref, aclr_null, aret_some, aret_none, bz, bz0, bz1, true_and, and_true, vpT, nIc, nI_add, pk_mul, nI_sub', Nat.add_zero, Nat.zero_add, upd_same, upd_ne, if_false, not_true_eq_false, not_false_eq_true, ite_z, ite_o, eq_self, Bool.false_eq_true, nI_leT, nI_leF, nI_ltT, nI_ltF, nI_ne, and_self, false_and, and_false, Nat.reduceAdd, Nat.reduceSub, Nat.reduceMul, Nat.reduceLT, Nat.reduceLeDiff, true_and]
  · rw [show (o + a) % 7 = o + a - 7 by omega]
    simp (disch := omega) only [sX2_stateAt_0, sX2_stateAt_1, sX2_stateAt_4, sX2_stateAt_5, sX2_stateAt_6, sX2_stateAt_7, sX2_stateAt_8, sX2_stateAt_9, sX2_stateAt_12, sX2_stateAt_13, sX2_stateAt_16, sX2_stateAt_17, sX2_stateAt_18, sX2_stateAt_21, sX2_stateAt_22, sX2_stateAt_23, sX2_stateAt_24, sX2_stateAt_25, sX2_stateAt_28, sX2_stateAt_29, sX2_stateAt_30, sX2_stateAt_33, sX2_stateAt_34, sX2_stateAt_37, sX2_stateAt_38, sX2_stateAt_41, sX2_stateAt_42, sX2_stateAt_43, sX2_stateAt_46, sX2_stateAt_47, sX2_stateAt_47n, h0, h1, h1', vrf, aFld, aFds, aRow, aRowR, aRefs, aLn, if_true, List.getElem?_cons_zero, List.getElem?_cons_succ, List.set_cons_zero, List.set_cons_succ, List.length_cons, List.length_nil, Option.some.injEq, exists_eq_left', aput_same, aclr_none, aclr_int, aclr_ref, aclr_null, aret_some, aret_none, bz, bz0, bz1, true_and, and_true, vpT, nIc, nI_add, pk_mul, nI_sub', Nat.add_zero, Nat.zero_add, upd_same, upd_ne, if_false, not_true_eq_false, not_false_eq_true, ite_z, ite_o, eq_self, Bool.false_eq_true, nI_leT, nI_leF, nI_ltT, nI_ltF, nI_ne, and_self, false_and, and_false, Nat.reduceAdd, Nat.reduceSub, Nat.reduceMul, Nat.reduceLT, Nat.reduceLeDiff, true_and]
theorem ch_prepare (hH : HisR σ h o rc hi) (hT : TabR σ t st) (hok : mOK st) (ht : t + 41 ≤ h) (K : ∀ σ', HisR σ' h o rc hi → TabR σ' (h + 2 + 41 * ((o + rc) % 7)) st → Fr σ σ' (h + 2) 287 → Q none σ') : aX (d + 3) iX2_prepare 0 [some (.ref h), some (.ref t), none] [] σ Q := by
  have hH2 := hH
  obtain ⟨hO, ho, h6, hS, hR⟩ := hH
  have h0 := hO.1
  obtain ⟨st2, hT2⟩ := hS ((o + rc) % 7) (by omega)
  simp (disch := omega) only [sX2_prepare_0, sX2_prepare_1, sX2_prepare_2, sX2_prepare_5, sX2_prepare_8, sX2_prepare_8n, sX2_prepare_9, sX2_prepare_9n, sX2_prepare_10, sX2_prepare_10n, sX2_prepare_13, sX2_prepare_13n, sX2_prepare_14, sX2_prepare_14n, sX2_prepare_15, h0, ch_stateAt hO ho, aIsT h0, aIsT hT2.1, aFld, aFds, aRow, aRowR, aRefs, aLn, if_true, List.getElem?_cons_zero, List.getElem?_cons_succ, List.set_cons_zero, List.set_cons_succ, List.length_cons, List.length_nil, Option.some.injEq, exists_eq_left', aput_same, aclr_none, aclr_int, aclr_ref, aclr_null, aret_some, aret_none, bz, bz0, bz1, true_and, and_true, vpT, nIc, nI_add, pk_mul, nI_sub', Nat.add_zero, Nat.zero_add, upd_same, upd_ne, if_false, not_true_eq_false, not_false_eq_true, ite_z, ite_o, eq_self, Bool.false_eq_true, nI_leT, nI_leF, nI_ltT, nI_ltF, nI_ne, and_self, false_and, and_false, Nat.reduceAdd, Nat.reduceSub, Nat.reduceMul, Nat.reduceLT, Nat.reduceLeDiff, true_and]
  refine cv_copy hT2 hT (by omega) hok (fun σ' hT' hF => ?_)
  simp (disch := omega) only [sX2_prepare_18, aFld, aFds, aRow, aRowR, aRefs, aLn, if_true, List.getElem?_cons_zero, List.getElem?_cons_succ, List.set_cons_zero, List.set_cons_succ, List.length_cons, List.length_nil, Option.some.injEq, exists_eq_left', aput_same, aclr_none, aclr_int, aclr_ref, aclr_null, aret_some, aret_none, bz, bz0, bz1, true_and, and_true, vpT, nIc, nI_add, pk_mul, nI_sub', Nat.add_zero, Nat.zero_add, upd_same, upd_ne, if_false, not_true_eq_false, not_false_eq_true, ite_z, ite_o, eq_self, Bool.false_eq_true, nI_leT, nI_leF, nI_ltT, nI_ltF, nI_ne, and_self, false_and, and_false]
  refine K σ' ⟨⟨(hF.1 _ (by omega)).trans hO.1, ?_⟩, ho, h6, fun j hj => ?_, fun i hi => ?_⟩ hT' ⟨fun q hq => hF.1 q (by omega), hF.2⟩
  · obtain ⟨F, h1, h1'⟩ := hO.2
    exact ⟨F, (hF.1 _ (by omega)).trans h1, h1'⟩
  · by_cases e : j = (o + rc) % 7
    · subst e; exact ⟨st, hT'⟩
    · obtain ⟨st3, hT3⟩ := hS j hj
      exact ⟨st3, TabR_keep (fun q g1 g2 => hF.1 q (by omega)) hT3⟩
  · exact TabR_keep (fun q g1 g2 => hF.1 q (by omega)) (hR i hi)
theorem ch_recE {v : Int32} (hv : v < nI 0) : aX d iX2_recordUnlessError 0 [some (.ref h), some (.int v)] [] σ Q ↔ Q (some (.int v)) σ := by
  simp (disch := omega) only [sX2_recordUnlessError_0, sX2_recordUnlessError_1, sX2_recordUnlessError_4, sX2_recordUnlessError_5, sX2_recordUnlessError_8, sX2_recordUnlessError_10, sX2_recordUnlessError_13, sX2_recordUnlessError_14, sX2_recordUnlessError_14i, sX2_recordUnlessError_15, sX2_recordUnlessError_18, sX2_recordUnlessError_19, sX2_recordUnlessError_20, sX2_recordUnlessError_23, sX2_recordUnlessError_26, sX2_recordUnlessError_27, sX2_recordUnlessError_28, sX2_recordUnlessError_31, sX2_recordUnlessError_32, sX2_recordUnlessError_33, sX2_recordUnlessError_34, sX2_recordUnlessError_37, sX2_recordUnlessError_38, sX2_recordUnlessError_41, sX2_recordUnlessError_42, sX2_recordUnlessError_45, sX2_recordUnlessError_46, sX2_recordUnlessError_47, sX2_recordUnlessError_50, sX2_recordUnlessError_51, sX2_recordUnlessError_54, sX2_recordUnlessError_55, hv, aFld, aFds, aRow, aRowR, aRefs, aLn, if_true, List.getElem?_cons_zero, List.getElem?_cons_succ, List.set_cons_zero, List.set_cons_succ, List.length_cons, List.length_nil, Option.some.injEq, exists_eq_left', aput_same, aclr_none, aclr_int, aclr_ref, aclr_null, aret_some, aret_none, bz, bz0, bz1, true_and, and_true, vpT, nIc, nI_add, pk_mul, nI_sub', Nat.add_zero, Nat.zero_add, upd_same, upd_ne, if_false, not_true_eq_false, not_false_eq_true, ite_z, ite_o, eq_self, Bool.false_eq_true, nI_leT, nI_leF, nI_ltT, nI_ltF, nI_ne, and_self, false_and, and_false]
def mRecO (o rc : Nat) : Nat := if rc = 6 then (if o = 6 then 0 else o + 1) else o
theorem ch_rec {v : Int32} (hH : HisR σ h o rc hi) (hv : nI 0 ≤ v) (hT : TabR σ (h + 2 + 41 * ((o + rc) % 7)) st) (hok : mOK st) (hr : ∀ i, i < rc → mOK (hRow hi i)) (K : ∀ σ', HisR σ' h (mRecO o rc) (mRecN rc) (mRecH hi st rc) → Fr σ σ' h 1 → Q (some (.int v)) σ') : aX d iX2_recordUnlessError 0 [some (.ref h), some (.int v)] [] σ Q := by
  have hv0 : ¬ v < nI 0 := Int32.not_lt.mpr hv
  obtain ⟨hO, ho, h6, hS, hR⟩ := hH
  obtain ⟨h0, F, h1, h1'⟩ := hO
  have fin : ∀ o' : Nat, o' = mRecO o rc → Q (some (.int v)) (aput σ h (eO 2 [.ref (h + 1), .int (nI o'), .int (nI (mRecN rc))])) := fun o' ho' => by
    subst ho'
    refine K _ ⟨⟨aput_same _ _ _, F, (aput_ne _ _ (by omega)).trans h1, h1'⟩, ?_, mRecN_le h6, fun j hj => ?_, fun i hi2 => ?_⟩ (Fr_put (by omega) (by omega))
    · unfold mRecO; split
      · split <;> omega
      · exact ho
    · obtain ⟨st3, hT3⟩ := hS j hj
      exact ⟨st3, TabR_keep (fun q g1 g2 => aput_ne _ _ (by omega)) hT3⟩
    · have hrow := fun k (hk : k < 371) => hRow_rec (hi := hi) (st := st) (i := i) h6 hi2 hk
      refine TabR_keep (fun q g1 g2 => aput_ne _ _ (by omega)) ?_
      unfold mRecN at hi2
      unfold mRecO
      by_cases e6 : rc = 6
      · rw [if_pos e6] at hi2
        rw [if_pos e6]
        have hpl : ((if o = 6 then 0 else o + 1) + i) % 7 = (o + (i + 1)) % 7 := by
          by_cases eo : o = 6
          · rw [if_pos eo]; omega
          · rw [if_neg eo]; omega
        rw [hpl]
        by_cases e : i = 5
        · refine TabR_cong (fun k hk => by rw [hrow k hk, if_pos e6, if_pos e]) hok ?_
          rw [e6] at hT
          rw [e]
          exact hT
        · exact TabR_cong (fun k hk => by rw [hrow k hk, if_pos e6, if_neg e]) (hr (i + 1) (by omega)) (hR (i + 1) (by omega))
      · rw [if_neg e6] at hi2
        rw [if_neg e6]
        by_cases e : i = rc
        · refine TabR_cong (fun k hk => by rw [hrow k hk, if_neg e6, if_pos e]) hok ?_
          rw [e]
          exact hT
        · exact TabR_cong (fun k hk => by rw [hrow k hk, if_neg e6, if_neg e]) (hr i (by omega)) (hR i (by omega))
  by_cases e6 : rc = 6
  · unfold mRecN mRecO at fin
    rw [if_pos e6, if_pos e6] at fin
    by_cases eo : o = 6
    · rw [if_pos eo] at fin
      have := fin 0 rfl
      simp (disch := omega) only [sX2_recordUnlessError_0, sX2_recordUnlessError_1, sX2_recordUnlessError_4, sX2_recordUnlessError_5, sX2_recordUnlessError_8, sX2_recordUnlessError_10, sX2_recordUnlessError_13, sX2_recordUnlessError_14, sX2_recordUnlessError_14i, sX2_recordUnlessError_15, sX2_recordUnlessError_18, sX2_recordUnlessError_19, sX2_recordUnlessError_20, sX2_recordUnlessError_23, sX2_recordUnlessError_26, sX2_recordUnlessError_27, sX2_recordUnlessError_28, sX2_recordUnlessError_31, sX2_recordUnlessError_32, sX2_recordUnlessError_33, sX2_recordUnlessError_34, sX2_recordUnlessError_37, sX2_recordUnlessError_38, sX2_recordUnlessError_41, sX2_recordUnlessError_42, sX2_recordUnlessError_45, sX2_recordUnlessError_46, sX2_recordUnlessError_47, sX2_recordUnlessError_50, sX2_recordUnlessError_51, sX2_recordUnlessError_54, sX2_recordUnlessError_55, hv0, h0, h1, e6, eo, aFld, aFds, aRow, aRowR, aRefs, aLn, if_true, List.getElem?_cons_zero, List.getElem?_cons_succ, List.set_cons_zero, List.set_cons_succ, List.length_cons, List.length_nil, Option.some.injEq, exists_eq_left', aput_same, aclr_none, aclr_int, aclr_ref, aclr_null, aret_some, aret_none, bz, bz0, bz1, true_and, and_true, vpT, nIc, nI_add, pk_mul, nI_sub', Nat.add_zero, Nat.zero_add, upd_same, upd_ne, if_false, not_true_eq_false, not_false_eq_true, ite_z, ite_o, eq_self, Bool.false_eq_true, nI_leT, nI_leF, nI_ltT, nI_ltF, nI_ne, and_self, false_and, and_false, Nat.reduceAdd, Nat.reduceSub, Nat.reduceMul, Nat.reduceLT, Nat.reduceLeDiff, true_and]
      exact this
    · rw [if_neg eo] at fin
      have := fin (o + 1) rfl
      simp (disch := omega) only [sX2_recordUnlessError_0, sX2_recordUnlessError_1, sX2_recordUnlessError_4, sX2_recordUnlessError_5, sX2_recordUnlessError_8, sX2_recordUnlessError_10, sX2_recordUnlessError_13, sX2_recordUnlessError_14, sX2_recordUnlessError_14i, sX2_recordUnlessError_15, sX2_recordUnlessError_18, sX2_recordUnlessError_19, sX2_recordUnlessError_20, sX2_recordUnlessError_23, sX2_recordUnlessError_26, sX2_recordUnlessError_27, sX2_recordUnlessError_28, sX2_recordUnlessError_31, sX2_recordUnlessError_32, sX2_recordUnlessError_33, sX2_recordUnlessError_34, sX2_recordUnlessError_37, sX2_recordUnlessError_38, sX2_recordUnlessError_41, sX2_recordUnlessError_42, sX2_recordUnlessError_45, sX2_recordUnlessError_46, sX2_recordUnlessError_47, sX2_recordUnlessError_50, sX2_recordUnlessError_51, sX2_recordUnlessError_54, sX2_recordUnlessError_55, hv0, h0, h1, e6, aFld, aFds, aRow, aRowR, aRefs, aLn, if_true, List.getElem?_cons_zero, List.getElem?_cons_succ, List.set_cons_zero, List.set_cons_succ, List.length_cons, List.length_nil, Option.some.injEq, exists_eq_left', aput_same, aclr_none, aclr_int, aclr_ref, aclr_null, aret_some, aret_none, bz, bz0, bz1, true_and, and_true, vpT, nIc, nI_add, pk_mul, nI_sub', Nat.add_zero, Nat.zero_add, upd_same, upd_ne, if_false, not_true_eq_false, not_false_eq_true, ite_z, ite_o, eq_self, Bool.false_eq_true, nI_leT, nI_leF, nI_ltT, nI_ltF, nI_ne, and_self, false_and, and_false, Nat.reduceAdd, Nat.reduceSub, Nat.reduceMul, Nat.reduceLT, Nat.reduceLeDiff, true_and]
      exact this
  · unfold mRecN mRecO at fin
    rw [if_neg e6, if_neg e6] at fin
    have := fin o rfl
    simp (disch := omega) only [sX2_recordUnlessError_0, sX2_recordUnlessError_1, sX2_recordUnlessError_4, sX2_recordUnlessError_5, sX2_recordUnlessError_8, sX2_recordUnlessError_10, sX2_recordUnlessError_13, sX2_recordUnlessError_14, sX2_recordUnlessError_14i, sX2_recordUnlessError_15, sX2_recordUnlessError_18, sX2_recordUnlessError_19, sX2_recordUnlessError_20, sX2_recordUnlessError_23, sX2_recordUnlessError_26, sX2_recordUnlessError_27, sX2_recordUnlessError_28, sX2_recordUnlessError_31, sX2_recordUnlessError_32, sX2_recordUnlessError_33, sX2_recordUnlessError_34, sX2_recordUnlessError_37, sX2_recordUnlessError_38, sX2_recordUnlessError_41, sX2_recordUnlessError_42, sX2_recordUnlessError_45, sX2_recordUnlessError_46, sX2_recordUnlessError_47, sX2_recordUnlessError_50, sX2_recordUnlessError_51, sX2_recordUnlessError_54, sX2_recordUnlessError_55, hv0, h0, h1, aFld, aFds, aRow, aRowR, aRefs, aLn, if_true, List.getElem?_cons_zero, List.getElem?_cons_succ, List.set_cons_zero, List.set_cons_succ, List.length_cons, List.length_nil, Option.some.injEq, exists_eq_left', aput_same, aclr_none, aclr_int, aclr_ref, aclr_null, aret_some, aret_none, bz, bz0, bz1, true_and, and_true, vpT, nIc, nI_add, pk_mul, nI_sub', Nat.add_zero, Nat.zero_add, upd_same, upd_ne, if_false, not_true_eq_false, not_false_eq_true, ite_z, ite_o, eq_self, Bool.false_eq_true, nI_leT, nI_leF, nI_ltT, nI_ltF, nI_ne, and_self, false_and, and_false, Nat.reduceAdd, Nat.reduceSub, Nat.reduceMul, Nat.reduceLT, Nat.reduceLeDiff, true_and]
    exact this
end CHI
