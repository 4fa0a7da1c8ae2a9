/-! THE LAW: a turn: clear -/
theorem AlR_move {fal fpa fal' fpa' b : Nat → Int32} {l k : Nat} (hb : bOK b) (h1 : ∀ i, i < 4 → fal' (4 * l + i) = fal (4 * k + i)) (h2 : ∀ i, i < 8 → fpa' (8 * l + i) = fpa (8 * k + i)) (hR : AlR fal fpa k b) : AlR fal' fpa' l b := by
  have h8 := bN_8 hb
  exact ⟨fun i hi => (h1 i hi).trans (hR.1 i hi), fun i hi => (h2 i (by omega)).trans (hR.2 i hi)⟩
section KL
variable {d b L x t c l k : Nat} {xs : Nat → Int32} {Q : aQ} {xx v16 : Int32} {l13 l14 l15 l16 l17 l18 l19 : Option Value} {fq fwo fdr fpt f2 g2 k2 st : Nat → Int32}
theorem k_mv4 {fal fpa : Nat → Int32} (hb : b < x) (hl : l ≤ k) (hk : k < 6) : ∀ (m i : Nat) (g : Nat → Int32) (σ : aS), i + m = 4 → HP σ b L xs x fq fwo fdr fpt g fpa f2 g2 k2 st → (∀ j, j < i → g (4 * l + j) = fal (4 * k + j)) → (∀ q, (q < 4 * l ∨ 4 * l + i ≤ q) → g q = fal q) → (∀ σ' g', HP σ' b L xs x fq fwo fdr fpt g' fpa f2 g2 k2 st → σ'.2 = σ.2 → (∀ j, j < 4 → g' (4 * l + j) = fal (4 * k + j)) → (∀ q, (q < 4 * l ∨ 4 * l + 4 ≤ q) → g' q = fal q) → aX (d + 9) iL_law 831 [some (.ref b), some (.ref x), some (.ref (x + 423)), some (.ref (x + 424)), some (.ref (x + 425)), some (.ref (x + 426)), some (.ref (x + 427)), some (.ref (x + 428)), some (.ref (x + 429)), some (.ref (x + 430)), some (.ref (x + 431)), some (.int (nI t)), some (.int xx), l13, l14, l15, l16, some (.int (nI l)), some (.int (nI k)), some (.int (nI 4))] [] σ' Q) → aX (d + 9) iL_law 799 [some (.ref b), some (.ref x), some (.ref (x + 423)), some (.ref (x + 424)), some (.ref (x + 425)), some (.ref (x + 426)), some (.ref (x + 427)), some (.ref (x + 428)), some (.ref (x + 429)), some (.ref (x + 430)), some (.ref (x + 431)), some (.int (nI t)), some (.int xx), l13, l14, l15, l16, some (.int (nI l)), some (.int (nI k)), some (.int (nI i))] [] σ Q
  | 0, i, g, σ, hi, hP, h1, h2, K => by
    have e : i = 4 := by omega
    subst e
    have hK := K σ g hP rfl h1 h2
    rw [sL_law_799]
    simp (disch := omega) only [sL_law_801, sL_law_802, aFld, aFds, aRow, aRowR, aRefs, aLn, if_true, List.getElem?_cons_zero, List.getElem?_cons_succ, List.set_cons_zero, List.set_cons_succ, List.length_cons, List.length_nil, Option.some.injEq, exists_eq_left', aput_same, aclr_none, aclr_int, aclr_ref, aclr_null, aret_some, aret_none, bz, bz0, bz1, true_and, and_true, vpT, nIc, nI_add, pk_mul, nI_sub', Nat.add_zero, Nat.zero_add, upd_same, upd_ne, if_false, not_true_eq_false, not_false_eq_true, ite_z, ite_o, eq_self, Bool.false_eq_true, nI_leT, nI_leF, nI_ltT, nI_ltF, nI_ne, and_self, false_and, and_false, nI_rem]
    exact hK
  | m + 1, i, g, σ, hi, hP, h1, h2, K => by
    have ral := HP_r4 hP
    have hs : g (4 * k + i) = fal (4 * k + i) := h2 _ (by omega)
    have ih := k_mv4 hb hl hk m (i + 1) (upd g (4 * l + i) (fal (4 * k + i))) (aput σ (x + 427) (eI 24 (upd g (4 * l + i) (fal (4 * k + i))))) (by omega) (HP_w4 hb hP) (fun j hj => by
      by_cases e : j = i
      · subst e; exact upd_same
      · rw [upd_ne (by omega)]; exact h1 j (by omega)) (fun q hq => by rw [upd_ne (by omega)]; exact h2 q (by omega)) K
    rw [sL_law_799]
    simp (disch := omega) only [sL_law_801, sL_law_802, sL_law_805, sL_law_805n, sL_law_807, sL_law_808, sL_law_810, sL_law_811, sL_law_813, sL_law_814, sL_law_814n, sL_law_816, sL_law_817, sL_law_819, sL_law_820, sL_law_822, sL_law_823, sL_law_824, sL_law_825, sL_law_828, ral, hs, aFld, aFds, aRow, aRowR, aRefs, aLn, if_true, List.getElem?_cons_zero, List.getElem?_cons_succ, List.set_cons_zero, List.set_cons_succ, List.length_cons, List.length_nil, Option.some.injEq, exists_eq_left', aput_same, aclr_none, aclr_int, aclr_ref, aclr_null, aret_some, aret_none, bz, bz0, bz1, true_and, and_true, vpT, nIc, nI_add, pk_mul, nI_sub', Nat.add_zero, Nat.zero_add, upd_same, upd_ne, if_false, not_true_eq_false, not_false_eq_true, ite_z, ite_o, eq_self, Bool.false_eq_true, nI_leT, nI_leF, nI_ltT, nI_ltF, nI_ne, and_self, false_and, and_false, nI_rem]
    exact ih
theorem k_mv8 {fal fpa : Nat → Int32} (hb : b < x) (hl : l ≤ k) (hk : k < 6) : ∀ (m i : Nat) (g : Nat → Int32) (σ : aS), i + m = 8 → HP σ b L xs x fq fwo fdr fpt fal g f2 g2 k2 st → (∀ j, j < i → g (8 * l + j) = fpa (8 * k + j)) → (∀ q, (q < 8 * l ∨ 8 * l + i ≤ q) → g q = fpa q) → (∀ σ' g', HP σ' b L xs x fq fwo fdr fpt fal g' f2 g2 k2 st → σ'.2 = σ.2 → (∀ j, j < 8 → g' (8 * l + j) = fpa (8 * k + j)) → (∀ q, (q < 8 * l ∨ 8 * l + 8 ≤ q) → g' q = fpa q) → aX (d + 9) iL_law 869 [some (.ref b), some (.ref x), some (.ref (x + 423)), some (.ref (x + 424)), some (.ref (x + 425)), some (.ref (x + 426)), some (.ref (x + 427)), some (.ref (x + 428)), some (.ref (x + 429)), some (.ref (x + 430)), some (.ref (x + 431)), some (.int (nI t)), some (.int xx), l13, l14, l15, l16, some (.int (nI l)), some (.int (nI k)), some (.int (nI 8))] [] σ' Q) → aX (d + 9) iL_law 834 [some (.ref b), some (.ref x), some (.ref (x + 423)), some (.ref (x + 424)), some (.ref (x + 425)), some (.ref (x + 426)), some (.ref (x + 427)), some (.ref (x + 428)), some (.ref (x + 429)), some (.ref (x + 430)), some (.ref (x + 431)), some (.int (nI t)), some (.int xx), l13, l14, l15, l16, some (.int (nI l)), some (.int (nI k)), some (.int (nI i))] [] σ Q
  | 0, i, g, σ, hi, hP, h1, h2, K => by
    have e : i = 8 := by omega
    subst e
    have hK := K σ g hP rfl h1 h2
    rw [sL_law_834]
    simp (disch := omega) only [sL_law_836, sL_law_838, aFld, aFds, aRow, aRowR, aRefs, aLn, if_true, List.getElem?_cons_zero, List.getElem?_cons_succ, List.set_cons_zero, List.set_cons_succ, List.length_cons, List.length_nil, Option.some.injEq, exists_eq_left', aput_same, aclr_none, aclr_int, aclr_ref, aclr_null, aret_some, aret_none, bz, bz0, bz1, true_and, and_true, vpT, nIc, nI_add, pk_mul, nI_sub', Nat.add_zero, Nat.zero_add, upd_same, upd_ne, if_false, not_true_eq_false, not_false_eq_true, ite_z, ite_o, eq_self, Bool.false_eq_true, nI_leT, nI_leF, nI_ltT, nI_ltF, nI_ne, and_self, false_and, and_false, nI_rem]
    exact hK
  | m + 1, i, g, σ, hi, hP, h1, h2, K => by
    have rpa := HP_r5 hP
    have hs : g (8 * k + i) = fpa (8 * k + i) := h2 _ (by omega)
    have ih := k_mv8 hb hl hk m (i + 1) (upd g (8 * l + i) (fpa (8 * k + i))) (aput σ (x + 428) (eI 48 (upd g (8 * l + i) (fpa (8 * k + i))))) (by omega) (HP_w5 hb hP) (fun j hj => by
      by_cases e : j = i
      · subst e; exact upd_same
      · rw [upd_ne (by omega)]; exact h1 j (by omega)) (fun q hq => by rw [upd_ne (by omega)]; exact h2 q (by omega)) K
    rw [sL_law_834]
    simp (disch := omega) only [sL_law_836, sL_law_838, sL_law_841, sL_law_841n, sL_law_843, sL_law_845, sL_law_847, sL_law_848, sL_law_850, sL_law_851, sL_law_851n, sL_law_853, sL_law_855, sL_law_857, sL_law_858, sL_law_860, sL_law_861, sL_law_862, sL_law_863, sL_law_866, rpa, hs, aFld, aFds, aRow, aRowR, aRefs, aLn, if_true, List.getElem?_cons_zero, List.getElem?_cons_succ, List.set_cons_zero, List.set_cons_succ, List.length_cons, List.length_nil, Option.some.injEq, exists_eq_left', aput_same, aclr_none, aclr_int, aclr_ref, aclr_null, aret_some, aret_none, bz, bz0, bz1, true_and, and_true, vpT, nIc, nI_add, pk_mul, nI_sub', Nat.add_zero, Nat.zero_add, upd_same, upd_ne, if_false, not_true_eq_false, not_false_eq_true, ite_z, ite_o, eq_self, Bool.false_eq_true, nI_leT, nI_leF, nI_ltT, nI_ltF, nI_ne, and_self, false_and, and_false, nI_rem]
    exact ih
theorem k_clears (hb : b < x) (hq1 : fq 1 = nI c) (hok : mOK st) (hc : st 34 = nI c) (h6 : c ≤ 6) : ∀ (m k : Nat) (l19 : Option Value) (fal fpa : Nat → Int32) (σ : aS), k + m = c → HP σ b L xs x fq fwo fdr fpt fal fpa f2 g2 k2 st → (∀ j, j < mGR st k → AlR fal fpa j (bk (mCl st k) j)) → (∀ a, k ≤ a → a < c → AlR fal fpa a (bk st a)) → (∀ σ' l19 fal' fpa', HP σ' b L xs x fq fwo fdr fpt fal' fpa' f2 g2 k2 st → σ'.2 = σ.2 → (∀ j, j < mGR st c → AlR fal' fpa' j (bk (mCl st c) j)) → aX (d + 9) iL_law 878 [some (.ref b), some (.ref x), some (.ref (x + 423)), some (.ref (x + 424)), some (.ref (x + 425)), some (.ref (x + 426)), some (.ref (x + 427)), some (.ref (x + 428)), some (.ref (x + 429)), some (.ref (x + 430)), some (.ref (x + 431)), some (.int (nI t)), some (.int xx), l13, l14, l15, some (.int v16), some (.int (nI (mGR st c))), some (.int (nI c)), l19] [] σ' Q) → aX (d + 9) iL_law 773 [some (.ref b), some (.ref x), some (.ref (x + 423)), some (.ref (x + 424)), some (.ref (x + 425)), some (.ref (x + 426)), some (.ref (x + 427)), some (.ref (x + 428)), some (.ref (x + 429)), some (.ref (x + 430)), some (.ref (x + 431)), some (.int (nI t)), some (.int xx), l13, l14, l15, some (.int v16), some (.int (nI (mGR st k))), some (.int (nI k)), l19] [] σ Q
  | 0, k, l19, fal, fpa, σ, hi, hP, e1, e2, K => by
    have e : k = c := by omega
    subst e
    have hK := K σ l19 fal fpa hP rfl e1
    have rq := HP_r0 hP
    rw [sL_law_773]
    simp (disch := omega) only [sL_law_775, sL_law_775n, sL_law_776, sL_law_777, sL_law_778, rq, hq1, aFld, aFds, aRow, aRowR, aRefs, aLn, if_true, List.getElem?_cons_zero, List.getElem?_cons_succ, List.set_cons_zero, List.set_cons_succ, List.length_cons, List.length_nil, Option.some.injEq, exists_eq_left', aput_same, aclr_none, aclr_int, aclr_ref, aclr_null, aret_some, aret_none, bz, bz0, bz1, true_and, and_true, vpT, nIc, nI_add, pk_mul, nI_sub', Nat.add_zero, Nat.zero_add, upd_same, upd_ne, if_false, not_true_eq_false, not_false_eq_true, ite_z, ite_o, eq_self, Bool.false_eq_true, nI_leT, nI_leF, nI_ltT, nI_ltF, nI_ne, and_self, false_and, and_false, nI_rem]
    exact hK
  | m + 1, k, l19, fal, fpa, σ, hi, hP, e1, e2, K => by
    have rq := HP_r0 hP
    have ral := HP_r4 hP
    have hA := e2 k (Nat.le_refl _) (by omega)
    have hbk := mOK_b hok hc (by omega) (show k < c by omega)
    have hle := mGR_le st k
    have f2' : fal (4 * k + 2) = st (35 + 28 * k + 2) := hA.1 2 (by omega)
    rw [sL_law_773]
    by_cases g : st (35 + 28 * k + 2) = nI 0
    · have eG : mGR st (k + 1) = mGR st k + 1 := by rw [mGR, if_pos g]
      have eC : mCl st (k + 1) = mCp (mCl st k) (mGR st k) k 28 := by rw [mCl, if_pos g]
      simp (disch := omega) only [sL_law_775, sL_law_775n, sL_law_776, sL_law_777, sL_law_778, sL_law_781, sL_law_781n, sL_law_783, sL_law_784, sL_law_786, sL_law_787, sL_law_788, sL_law_789, sL_law_790, sL_law_793, sL_law_796, sL_law_797, rq, hq1, ral, f2', g, aFld, aFds, aRow, aRowR, aRefs, aLn, if_true, List.getElem?_cons_zero, List.getElem?_cons_succ, List.set_cons_zero, List.set_cons_succ, List.length_cons, List.length_nil, Option.some.injEq, exists_eq_left', aput_same, aclr_none, aclr_int, aclr_ref, aclr_null, aret_some, aret_none, bz, bz0, bz1, true_and, and_true, vpT, nIc, nI_add, pk_mul, nI_sub', Nat.add_zero, Nat.zero_add, upd_same, upd_ne, if_false, not_true_eq_false, not_false_eq_true, ite_z, ite_o, eq_self, Bool.false_eq_true, nI_leT, nI_leF, nI_ltT, nI_ltF, nI_ne, and_self, false_and, and_false, nI_rem]
      refine k_mv4 (fal := fal) hb hle (by omega) 4 0 fal σ rfl hP (fun j hj => absurd hj (Nat.not_lt_zero j)) (fun q _ => rfl) (fun σ1 gal hP1 z1 a1 a2 => ?_)
      simp (disch := omega) only [sL_law_831, sL_law_832, aFld, aFds, aRow, aRowR, aRefs, aLn, if_true, List.getElem?_cons_zero, List.getElem?_cons_succ, List.set_cons_zero, List.set_cons_succ, List.length_cons, List.length_nil, Option.some.injEq, exists_eq_left', aput_same, aclr_none, aclr_int, aclr_ref, aclr_null, aret_some, aret_none, bz, bz0, bz1, true_and, and_true, vpT, nIc, nI_add, pk_mul, nI_sub', Nat.add_zero, Nat.zero_add, upd_same, upd_ne, if_false, not_true_eq_false, not_false_eq_true, ite_z, ite_o, eq_self, Bool.false_eq_true, nI_leT, nI_leF, nI_ltT, nI_ltF, nI_ne, and_self, false_and, and_false, nI_rem]
      refine k_mv8 (fpa := fpa) hb hle (by omega) 8 0 fpa σ1 rfl hP1 (fun j hj => absurd hj (Nat.not_lt_zero j)) (fun q _ => rfl) (fun σ2 gpa hP2 z2 b1 b2 => ?_)
      have ih := k_clears hb hq1 hok hc h6 m (k + 1) (some (.int (nI 8))) gal gpa σ2 (by omega) hP2 (fun j hj => ?_) (fun a h1 h2 => AlR_cong (mOK_b hok hc (by omega) h2) (fun i _ => rfl) (fun i hi => a2 _ (by omega)) (fun i hi => b2 _ (by omega)) (e2 a (by omega) h2)) (fun σ3 l19 u v w1 w2 w3 => K σ3 l19 u v w1 (w2.trans (z2.trans z1)) w3)
      · rw [eG] at ih
        simp (disch := omega) only [sL_law_869, sL_law_872, sL_law_875, aFld, aFds, aRow, aRowR, aRefs, aLn, if_true, List.getElem?_cons_zero, List.getElem?_cons_succ, List.set_cons_zero, List.set_cons_succ, List.length_cons, List.length_nil, Option.some.injEq, exists_eq_left', aput_same, aclr_none, aclr_int, aclr_ref, aclr_null, aret_some, aret_none, bz, bz0, bz1, true_and, and_true, vpT, nIc, nI_add, pk_mul, nI_sub', Nat.add_zero, Nat.zero_add, upd_same, upd_ne, if_false, not_true_eq_false, not_false_eq_true, ite_z, ite_o, eq_self, Bool.false_eq_true, nI_leT, nI_leF, nI_ltT, nI_ltF, nI_ne, and_self, false_and, and_false, nI_rem]
        exact ih
      · rw [eG] at hj
        by_cases e : j = mGR st k
        · subst e
          have hb2 : ∀ i, i < 28 → bk (mCl st (k + 1)) (mGR st k) i = bk st k i := fun i hi => by
            unfold bk
            rw [eC, mCp_at _ hle 28 i hi, mCl_hi st k _ (by omega)]
          exact AlR_cong hbk hb2 (fun i _ => rfl) (fun i _ => rfl) (AlR_move hbk a1 b1 hA)
        · have hb2 : ∀ i, i < 28 → bk (mCl st (k + 1)) j i = bk (mCl st k) j i := fun i hi => by
            unfold bk
            rw [eC, mCp_be _ _ _ _ _ (by omega)]
          exact AlR_cong (mCl_b hok hc (by omega) (by omega) (by omega)) hb2 (fun i hi => a2 _ (by omega)) (fun i hi => b2 _ (by omega)) (e1 j (by omega))
    · have eG : mGR st (k + 1) = mGR st k := by rw [mGR, if_neg g, Nat.add_zero]
      have eC : mCl st (k + 1) = mCl st k := by rw [mCl, if_neg g]
      have ih := k_clears hb hq1 hok hc h6 m (k + 1) l19 fal fpa σ (by omega) hP (fun j hj => by rw [eG] at hj; rw [eC]; exact e1 j hj) (fun a h1 h2 => e2 a (by omega) h2) K
      rw [eG] at ih
      simp (disch := omega) only [sL_law_775, sL_law_775n, sL_law_776, sL_law_777, sL_law_778, sL_law_781, sL_law_781n, sL_law_783, sL_law_784, sL_law_786, sL_law_787, sL_law_788, sL_law_789, sL_law_790, sL_law_793, sL_law_872, sL_law_875, rq, hq1, ral, f2', g, aFld, aFds, aRow, aRowR, aRefs, aLn, if_true, List.getElem?_cons_zero, List.getElem?_cons_succ, List.set_cons_zero, List.set_cons_succ, List.length_cons, List.length_nil, Option.some.injEq, exists_eq_left', aput_same, aclr_none, aclr_int, aclr_ref, aclr_null, aret_some, aret_none, bz, bz0, bz1, true_and, and_true, vpT, nIc, nI_add, pk_mul, nI_sub', Nat.add_zero, Nat.zero_add, upd_same, upd_ne, if_false, not_true_eq_false, not_false_eq_true, ite_z, ite_o, eq_self, Bool.false_eq_true, nI_leT, nI_leF, nI_ltT, nI_ltF, nI_ne, and_self, false_and, and_false, nI_rem]
      exact ih
theorem LwR_clr {fal fpa fal' fpa' : Nat → Int32} (hok : mOK st) (hc : st 34 = nI c) (h6 : c ≤ 6) (hR : LwR fq fwo fdr fpt fal fpa st c) (hA : ∀ j, j < mGR st c → AlR fal' fpa' j (bk (mCl st c) j)) : LwR (upd fq 1 (nI (mGR st c))) fwo fdr fpt fal' fpa' (mClear st c) (mGR st c) := by
  obtain ⟨r0, r1, r2, r3, r4, r5, r6⟩ := hR
  have hlo : ∀ k, k < 34 → mClear st c k = st k := fun k hk => by
    unfold mClear
    rw [upd_ne (by omega), mCl_lo _ _ _ (by omega)]
  have hle := mGR_le st c
  refine ⟨by rw [upd_ne (by omega), hlo 16 (by omega)]; exact r0, upd_same, by rw [upd_ne (by omega), hlo 33 (by omega)]; exact r2, fun j hj => by rw [hlo j (by omega)]; exact r3 j hj, fun j hj => by rw [hlo _ (by omega)]; exact r4 j hj, fun j hj => by rw [hlo _ (by omega)]; exact r5 j hj, fun a ha => ?_⟩
  have hbk : ∀ i, i < 28 → bk (mClear st c) a i = bk (mCl st c) a i := fun i hi => by
    unfold bk mClear
    exact upd_ne (by omega)
  exact AlR_cong (mCl_b hok hc (by omega) (Nat.le_refl _) (by omega)) hbk (fun i _ => rfl) (fun i _ => rfl) (hA a ha)
theorem k_clear {fal fpa : Nat → Int32} {σ : aS} (hb : b < x) (hP : HP σ b L xs x fq fwo fdr fpt fal fpa f2 g2 k2 st) (hR : LwR fq fwo fdr fpt fal fpa st c) (hK : mK st) (hc : st 34 = nI c) (h6 : c ≤ 6) (K : ∀ τ l17 l18 l19, LaE τ b L xs x → τ.2 = σ.2 → aX (d + 9) iL_law 993 [some (.ref b), some (.ref x), some (.ref (x + 423)), some (.ref (x + 424)), some (.ref (x + 425)), some (.ref (x + 426)), some (.ref (x + 427)), some (.ref (x + 428)), some (.ref (x + 429)), some (.ref (x + 430)), some (.ref (x + 431)), some (.int (nI t)), some (.int xx), l13, l14, l15, some (.int v16), l17, l18, l19] [] τ Q) : aX (d + 9) iL_law 767 [some (.ref b), some (.ref x), some (.ref (x + 423)), some (.ref (x + 424)), some (.ref (x + 425)), some (.ref (x + 426)), some (.ref (x + 427)), some (.ref (x + 428)), some (.ref (x + 429)), some (.ref (x + 430)), some (.ref (x + 431)), some (.int (nI t)), some (.int xx), l13, l14, l15, some (.int v16), l17, l18, l19] [] σ Q := by
  have hok := hK.1
  have hle := mGR_le st c
  have hq1 := hR.2.1
  simp (disch := omega) only [sL_law_767, sL_law_768, sL_law_770, sL_law_771, aFld, aFds, aRow, aRowR, aRefs, aLn, if_true, List.getElem?_cons_zero, List.getElem?_cons_succ, List.set_cons_zero, List.set_cons_succ, List.length_cons, List.length_nil, Option.some.injEq, exists_eq_left', aput_same, aclr_none, aclr_int, aclr_ref, aclr_null, aret_some, aret_none, bz, bz0, bz1, true_and, and_true, vpT, nIc, nI_add, pk_mul, nI_sub', Nat.add_zero, Nat.zero_add, upd_same, upd_ne, if_false, not_true_eq_false, not_false_eq_true, ite_z, ite_o, eq_self, Bool.false_eq_true, nI_leT, nI_leF, nI_ltT, nI_ltF, nI_ne, and_self, false_and, and_false, nI_rem]
  refine k_clears hb hq1 hok hc h6 c 0 l19 fal fpa σ (by omega) hP (fun j hj => absurd hj (Nat.not_lt_zero j)) (fun a _ ha => hR.2.2.2.2.2.2 a ha) (fun σ2 l19' fal' fpa' hP2 e2 e3 => ?_)
  have hI2 := aIsT hP2.1.1
  simp (disch := omega) only [sL_law_878, sL_law_878n, sL_law_879, hI2, aFld, aFds, aRow, aRowR, aRefs, aLn, if_true, List.getElem?_cons_zero, List.getElem?_cons_succ, List.set_cons_zero, List.set_cons_succ, List.length_cons, List.length_nil, Option.some.injEq, exists_eq_left', aput_same, aclr_none, aclr_int, aclr_ref, aclr_null, aret_some, aret_none, bz, bz0, bz1, true_and, and_true, vpT, nIc, nI_add, pk_mul, nI_sub', Nat.add_zero, Nat.zero_add, upd_same, upd_ne, if_false, not_true_eq_false, not_false_eq_true, ite_z, ite_o, eq_self, Bool.false_eq_true, nI_leT, nI_leF, nI_ltT, nI_ltF, nI_ne, and_self, false_and, and_false, nI_rem]
  refine c_clear hP2.1 hok hc (by omega) (fun σ3 hC3 k3 e5 => ?_)
  have hP3 := HP_cls hb hP2 hC3 k3 e5
  have rq3 := HP_r0 hP3
  have hP4 := HP_w0 (f := upd fq 1 (nI (mGR st c))) hb hP3
  have hKK := K _ (some (.int (nI (mGR st c)))) (some (.int (nI c))) l19' ⟨_, _, _, _, _, _, _, _, _, _, mGR st c, hP4, LwR_clr hok hc h6 hR e3, mClear_K hK hc (by omega), by unfold mClear; exact upd_same, by omega⟩ (e5.trans e2)
  simp (disch := omega) only [sL_law_882, sL_law_882n, sL_law_883, sL_law_884, sL_law_885, sL_law_887, sL_law_888, sL_law_891, sL_law_892, sL_law_893, sL_law_893n, sL_law_894, sL_law_895, sL_law_897, sL_law_898, rq3, hq1, aFld, aFds, aRow, aRowR, aRefs, aLn, if_true, List.getElem?_cons_zero, List.getElem?_cons_succ, List.set_cons_zero, List.set_cons_succ, List.length_cons, List.length_nil, Option.some.injEq, exists_eq_left', aput_same, aclr_none, aclr_int, aclr_ref, aclr_null, aret_some, aret_none, bz, bz0, bz1, true_and, and_true, vpT, nIc, nI_add, pk_mul, nI_sub', Nat.add_zero, Nat.zero_add, upd_same, upd_ne, if_false, not_true_eq_false, not_false_eq_true, ite_z, ite_o, eq_self, Bool.false_eq_true, nI_leT, nI_leF, nI_ltT, nI_ltF, nI_ne, and_self, false_and, and_false, nI_rem]
  exact hKK
end KL
