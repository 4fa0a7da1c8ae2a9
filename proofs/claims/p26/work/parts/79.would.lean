/-! THE LAW: what will be: its copies -/
/-- the cells, with the law's second rows -/
def WoC (σ : aS) (x : Nat) (fq fwo fdr fpt fal fpa st f2 g2 k2 : Nat → Int32) : Prop := LwC σ x fq fwo fdr fpt fal fpa st ∧ (∃ P, FoS σ (x + 42) P) ∧ σ.1 (x + 429) = some (eI 8 f2) ∧ σ.1 (x + 430) = some (eI 24 g2) ∧ σ.1 (x + 431) = some (eI 48 k2)
/-- nothing but the forecast's cells and the second rows has changed -/
def FrW (σ σ' : aS) (x : Nat) : Prop := (∀ q, ¬ (x + 42 ≤ q ∧ q < x + 47) → ¬ (x + 429 ≤ q ∧ q < x + 432) → σ'.1 q = σ.1 q) ∧ σ'.2 = σ.2
theorem FrW_refl (σ : aS) (x : Nat) : FrW σ σ x := ⟨fun _ _ _ => rfl, rfl⟩
theorem FrW_trans {σ σ' τ : aS} {x : Nat} (h : FrW σ σ' x) (h2 : FrW σ' τ x) : FrW σ τ x := ⟨fun q a b => (h2.1 q a b).trans (h.1 q a b), h2.2.trans h.2⟩
theorem FoS_keep {σ σ' : aS} {fc : Nat} {P : Nat → Int32} (h : ∀ q, fc ≤ q → q < fc + 5 → σ'.1 q = σ.1 q) (hF : FoS σ fc P) : FoS σ' fc P := by
  obtain ⟨r, ow, pg, hw, tn, tp, f, g, hFC⟩ := hF
  exact ⟨r, ow, pg, hw, tn, tp, f, g, FoC_keep h hFC⟩
section WC
variable {σ σ' : aS} {x : Nat} {fq fwo fdr fpt fal fpa st f2 g2 k2 f g k : Nat → Int32}
theorem WoC_lA (h : WoC σ x fq fwo fdr fpt fal fpa st f2 g2 k2) : WoC (lA σ (x + 429) (x + 430) (x + 431) f g k) x fq fwo fdr fpt fal fpa st f g k := by
  obtain ⟨h0, ⟨P, h1⟩, h2, h3, h4⟩ := h
  exact ⟨LwC_keep (fun q a b _ => lA_ne (by omega) (by omega) (by omega)) h0, ⟨P, FoS_keep (fun q a b => lA_ne (by omega) (by omega) (by omega)) h1⟩, lA_pt (by omega), lA_al (by omega), lA_pa⟩
theorem WoC_eq (h : WoC σ x fq fwo fdr fpt fal fpa st f2 g2 k2) : lA σ (x + 429) (x + 430) (x + 431) f2 g2 k2 = σ := lA_self h.2.2.1 h.2.2.2.1 h.2.2.2.2
theorem FrW_lA : FrW σ (lA σ (x + 429) (x + 430) (x + 431) f g k) x := ⟨fun q a b => lA_ne (by omega) (by omega) (by omega), rfl⟩
theorem WoC_fo {P : Nat → Int32} (h : WoC σ x fq fwo fdr fpt fal fpa st f2 g2 k2) (hP : FoS σ' (x + 42) P) (hF : Fr σ σ' (x + 42) 5) : WoC σ' x fq fwo fdr fpt fal fpa st f2 g2 k2 := by
  obtain ⟨h0, -, h2, h3, h4⟩ := h
  exact ⟨LwC_keep (fun q a b c => hF.1 q (by omega)) h0, ⟨P, hP⟩, (hF.1 _ (by omega)).trans h2, (hF.1 _ (by omega)).trans h3, (hF.1 _ (by omega)).trans h4⟩
theorem FrW_fo (hF : Fr σ σ' (x + 42) 5) : FrW σ σ' x := ⟨fun q a b => hF.1 q (by omega), hF.2⟩
theorem WoC_w0 (h : WoC σ x fq fwo fdr fpt fal fpa st f2 g2 k2) : WoC (aput σ (x + 429) (eI 8 f)) x fq fwo fdr fpt fal fpa st f g2 k2 := by
  obtain ⟨h0, ⟨P, h1⟩, h2, h3, h4⟩ := h
  exact ⟨LwC_keep (fun q a b _ => aput_ne _ _ (by omega)) h0, ⟨P, FoS_keep (fun q a b => aput_ne _ _ (by omega)) h1⟩, aput_same _ _ _, (aput_ne _ _ (by omega)).trans h3, (aput_ne _ _ (by omega)).trans h4⟩
theorem WoC_w1 (h : WoC σ x fq fwo fdr fpt fal fpa st f2 g2 k2) : WoC (aput σ (x + 430) (eI 24 g)) x fq fwo fdr fpt fal fpa st f2 g k2 := by
  obtain ⟨h0, ⟨P, h1⟩, h2, h3, h4⟩ := h
  exact ⟨LwC_keep (fun q a b _ => aput_ne _ _ (by omega)) h0, ⟨P, FoS_keep (fun q a b => aput_ne _ _ (by omega)) h1⟩, (aput_ne _ _ (by omega)).trans h2, aput_same _ _ _, (aput_ne _ _ (by omega)).trans h4⟩
theorem WoC_w2 (h : WoC σ x fq fwo fdr fpt fal fpa st f2 g2 k2) : WoC (aput σ (x + 431) (eI 48 k)) x fq fwo fdr fpt fal fpa st f2 g2 k := by
  obtain ⟨h0, ⟨P, h1⟩, h2, h3, h4⟩ := h
  exact ⟨LwC_keep (fun q a b _ => aput_ne _ _ (by omega)) h0, ⟨P, FoS_keep (fun q a b => aput_ne _ _ (by omega)) h1⟩, (aput_ne _ _ (by omega)).trans h2, (aput_ne _ _ (by omega)).trans h3, aput_same _ _ _⟩
theorem FrW_put {a : Nat} {e : aE} (h : x + 429 ≤ a ∧ a < x + 432) : FrW σ (aput σ a e) x := ⟨fun q _ _ => aput_ne _ _ (by omega), rfl⟩
end WC
section WL
variable {d x : Nat} {xx : Int32} {Q : aQ} {fq fwo fdr fpt fal fpa st : Nat → Int32}
theorem w_copy0 {l12 l13 l14 l15 l16 l17 : Option Value} {g2 k2 : Nat → Int32} : ∀ (k i : Nat) (f2 : Nat → Int32) (σ : aS), i + k = 8 → WoC σ x fq fwo fdr fpt fal fpa st f2 g2 k2 → (∀ j, j < i → f2 j = fpt j) → (∀ σ' f2', WoC σ' x fq fwo fdr fpt fal fpa st f2' g2 k2 → (∀ j, j < 8 → f2' j = fpt j) → FrW σ σ' x → aX (d + 7) iL_would 26 [some (.ref x), some (.int xx), some (.ref (x + 423)), some (.ref (x + 424)), some (.ref (x + 425)), some (.ref (x + 426)), some (.ref (x + 427)), some (.ref (x + 428)), some (.ref (x + 429)), some (.ref (x + 430)), some (.ref (x + 431)), some (.int (nI 8)), l12, l13, l14, l15, l16, l17] [] σ' Q) → aX (d + 7) iL_would 3 [some (.ref x), some (.int xx), some (.ref (x + 423)), some (.ref (x + 424)), some (.ref (x + 425)), some (.ref (x + 426)), some (.ref (x + 427)), some (.ref (x + 428)), some (.ref (x + 429)), some (.ref (x + 430)), some (.ref (x + 431)), some (.int (nI i)), l12, l13, l14, l15, l16, l17] [] σ Q
  | 0, i, f2, σ, hi, hW, hv, K => by
    have e : i = 8 := by omega
    subst e
    have hK := K σ f2 hW hv (FrW_refl σ x)
    rw [sL_would_3]
    simp (disch := omega) only [sL_would_5, sL_would_7, aFld, aFds, aRow, aRowR, aRefs, aLn, if_true, List.getElem?_cons_zero, List.getElem?_cons_succ, List.set_cons_zero, List.set_cons_succ, List.length_cons, List.length_nil, Option.some.injEq, exists_eq_left', aput_same, aclr_none, aclr_int, aclr_ref, aclr_null, aret_some, aret_none, bz, bz0, bz1, true_and, and_true, vpT, nIc, nI_add, pk_mul, nI_sub', Nat.add_zero, Nat.zero_add, upd_same, upd_ne, if_false, not_true_eq_false, not_false_eq_true, ite_z, ite_o, eq_self, Bool.false_eq_true, nI_leT, nI_leF, nI_ltT, nI_ltF, nI_ne, and_self, false_and, and_false, nI_rem]
    exact hK
  | k + 1, i, f2, σ, hi, hW, hv, K => by
    have h2 := hW.2.2.1
    have hs := hW.1.2.2.2.2.2.1
    have ih := w_copy0 (l12 := l12) (l13 := l13) (l14 := l14) (l15 := l15) (l16 := l16) (l17 := l17) k (i + 1) (upd f2 i (fpt i)) (aput σ (x + 429) (eI 8 (upd f2 i (fpt i)))) (by omega) (WoC_w0 hW) (fun j hj => by
      by_cases e : j = i
      · subst e; exact upd_same
      · rw [upd_ne e]; exact hv j (by omega)) (fun σ' v' a1 a2 a3 => K σ' v' a1 a2 (FrW_trans (FrW_put (by omega)) a3))
    rw [sL_would_3]
    simp (disch := omega) only [sL_would_5, sL_would_7, sL_would_10, sL_would_10n, sL_would_12, sL_would_14, sL_would_14n, sL_would_16, sL_would_18, sL_would_19, sL_would_20, sL_would_23, h2, hs, aFld, aFds, aRow, aRowR, aRefs, aLn, if_true, List.getElem?_cons_zero, List.getElem?_cons_succ, List.set_cons_zero, List.set_cons_succ, List.length_cons, List.length_nil, Option.some.injEq, exists_eq_left', aput_same, aclr_none, aclr_int, aclr_ref, aclr_null, aret_some, aret_none, bz, bz0, bz1, true_and, and_true, vpT, nIc, nI_add, pk_mul, nI_sub', Nat.add_zero, Nat.zero_add, upd_same, upd_ne, if_false, not_true_eq_false, not_false_eq_true, ite_z, ite_o, eq_self, Bool.false_eq_true, nI_leT, nI_leF, nI_ltT, nI_ltF, nI_ne, and_self, false_and, and_false, nI_rem]
    exact ih
theorem w_copy1 {l12 l13 l14 l15 l16 l17 : Option Value} {f2 k2 : Nat → Int32} : ∀ (k i : Nat) (g2 : Nat → Int32) (σ : aS), i + k = 24 → WoC σ x fq fwo fdr fpt fal fpa st f2 g2 k2 → (∀ j, j < i → g2 j = fal j) → (∀ σ' g2', WoC σ' x fq fwo fdr fpt fal fpa st f2 g2' k2 → (∀ j, j < 24 → g2' j = fal j) → FrW σ σ' x → aX (d + 7) iL_would 52 [some (.ref x), some (.int xx), some (.ref (x + 423)), some (.ref (x + 424)), some (.ref (x + 425)), some (.ref (x + 426)), some (.ref (x + 427)), some (.ref (x + 428)), some (.ref (x + 429)), some (.ref (x + 430)), some (.ref (x + 431)), some (.int (nI 24)), l12, l13, l14, l15, l16, l17] [] σ' Q) → aX (d + 7) iL_would 29 [some (.ref x), some (.int xx), some (.ref (x + 423)), some (.ref (x + 424)), some (.ref (x + 425)), some (.ref (x + 426)), some (.ref (x + 427)), some (.ref (x + 428)), some (.ref (x + 429)), some (.ref (x + 430)), some (.ref (x + 431)), some (.int (nI i)), l12, l13, l14, l15, l16, l17] [] σ Q
  | 0, i, g2, σ, hi, hW, hv, K => by
    have e : i = 24 := by omega
    subst e
    have hK := K σ g2 hW hv (FrW_refl σ x)
    rw [sL_would_29]
    simp (disch := omega) only [sL_would_31, sL_would_33, aFld, aFds, aRow, aRowR, aRefs, aLn, if_true, List.getElem?_cons_zero, List.getElem?_cons_succ, List.set_cons_zero, List.set_cons_succ, List.length_cons, List.length_nil, Option.some.injEq, exists_eq_left', aput_same, aclr_none, aclr_int, aclr_ref, aclr_null, aret_some, aret_none, bz, bz0, bz1, true_and, and_true, vpT, nIc, nI_add, pk_mul, nI_sub', Nat.add_zero, Nat.zero_add, upd_same, upd_ne, if_false, not_true_eq_false, not_false_eq_true, ite_z, ite_o, eq_self, Bool.false_eq_true, nI_leT, nI_leF, nI_ltT, nI_ltF, nI_ne, and_self, false_and, and_false, nI_rem]
    exact hK
  | k + 1, i, g2, σ, hi, hW, hv, K => by
    have h2 := hW.2.2.2.1
    have hs := hW.1.2.2.2.2.2.2.1
    have ih := w_copy1 (l12 := l12) (l13 := l13) (l14 := l14) (l15 := l15) (l16 := l16) (l17 := l17) k (i + 1) (upd g2 i (fal i)) (aput σ (x + 430) (eI 24 (upd g2 i (fal i)))) (by omega) (WoC_w1 hW) (fun j hj => by
      by_cases e : j = i
      · subst e; exact upd_same
      · rw [upd_ne e]; exact hv j (by omega)) (fun σ' v' a1 a2 a3 => K σ' v' a1 a2 (FrW_trans (FrW_put (by omega)) a3))
    rw [sL_would_29]
    simp (disch := omega) only [sL_would_31, sL_would_33, sL_would_36, sL_would_36n, sL_would_38, sL_would_40, sL_would_40n, sL_would_42, sL_would_44, sL_would_45, sL_would_46, sL_would_49, h2, hs, aFld, aFds, aRow, aRowR, aRefs, aLn, if_true, List.getElem?_cons_zero, List.getElem?_cons_succ, List.set_cons_zero, List.set_cons_succ, List.length_cons, List.length_nil, Option.some.injEq, exists_eq_left', aput_same, aclr_none, aclr_int, aclr_ref, aclr_null, aret_some, aret_none, bz, bz0, bz1, true_and, and_true, vpT, nIc, nI_add, pk_mul, nI_sub', Nat.add_zero, Nat.zero_add, upd_same, upd_ne, if_false, not_true_eq_false, not_false_eq_true, ite_z, ite_o, eq_self, Bool.false_eq_true, nI_leT, nI_leF, nI_ltT, nI_ltF, nI_ne, and_self, false_and, and_false, nI_rem]
    exact ih
theorem w_copy2 {l12 l13 l14 l15 l16 l17 : Option Value} {f2 g2 : Nat → Int32} : ∀ (k i : Nat) (k2 : Nat → Int32) (σ : aS), i + k = 48 → WoC σ x fq fwo fdr fpt fal fpa st f2 g2 k2 → (∀ j, j < i → k2 j = fpa j) → (∀ σ' k2', WoC σ' x fq fwo fdr fpt fal fpa st f2 g2 k2' → (∀ j, j < 48 → k2' j = fpa j) → FrW σ σ' x → aX (d + 7) iL_would 78 [some (.ref x), some (.int xx), some (.ref (x + 423)), some (.ref (x + 424)), some (.ref (x + 425)), some (.ref (x + 426)), some (.ref (x + 427)), some (.ref (x + 428)), some (.ref (x + 429)), some (.ref (x + 430)), some (.ref (x + 431)), some (.int (nI 48)), l12, l13, l14, l15, l16, l17] [] σ' Q) → aX (d + 7) iL_would 55 [some (.ref x), some (.int xx), some (.ref (x + 423)), some (.ref (x + 424)), some (.ref (x + 425)), some (.ref (x + 426)), some (.ref (x + 427)), some (.ref (x + 428)), some (.ref (x + 429)), some (.ref (x + 430)), some (.ref (x + 431)), some (.int (nI i)), l12, l13, l14, l15, l16, l17] [] σ Q
  | 0, i, k2, σ, hi, hW, hv, K => by
    have e : i = 48 := by omega
    subst e
    have hK := K σ k2 hW hv (FrW_refl σ x)
    rw [sL_would_55]
    simp (disch := omega) only [sL_would_57, sL_would_59, aFld, aFds, aRow, aRowR, aRefs, aLn, if_true, List.getElem?_cons_zero, List.getElem?_cons_succ, List.set_cons_zero, List.set_cons_succ, List.length_cons, List.length_nil, Option.some.injEq, exists_eq_left', aput_same, aclr_none, aclr_int, aclr_ref, aclr_null, aret_some, aret_none, bz, bz0, bz1, true_and, and_true, vpT, nIc, nI_add, pk_mul, nI_sub', Nat.add_zero, Nat.zero_add, upd_same, upd_ne, if_false, not_true_eq_false, not_false_eq_true, ite_z, ite_o, eq_self, Bool.false_eq_true, nI_leT, nI_leF, nI_ltT, nI_ltF, nI_ne, and_self, false_and, and_false, nI_rem]
    exact hK
  | k + 1, i, k2, σ, hi, hW, hv, K => by
    have h2 := hW.2.2.2.2
    have hs := hW.1.2.2.2.2.2.2.2
    have ih := w_copy2 (l12 := l12) (l13 := l13) (l14 := l14) (l15 := l15) (l16 := l16) (l17 := l17) k (i + 1) (upd k2 i (fpa i)) (aput σ (x + 431) (eI 48 (upd k2 i (fpa i)))) (by omega) (WoC_w2 hW) (fun j hj => by
      by_cases e : j = i
      · subst e; exact upd_same
      · rw [upd_ne e]; exact hv j (by omega)) (fun σ' v' a1 a2 a3 => K σ' v' a1 a2 (FrW_trans (FrW_put (by omega)) a3))
    rw [sL_would_55]
    simp (disch := omega) only [sL_would_57, sL_would_59, sL_would_62, sL_would_62n, sL_would_64, sL_would_66, sL_would_66n, sL_would_68, sL_would_70, sL_would_71, sL_would_72, sL_would_75, h2, hs, aFld, aFds, aRow, aRowR, aRefs, aLn, if_true, List.getElem?_cons_zero, List.getElem?_cons_succ, List.set_cons_zero, List.set_cons_succ, List.length_cons, List.length_nil, Option.some.injEq, exists_eq_left', aput_same, aclr_none, aclr_int, aclr_ref, aclr_null, aret_some, aret_none, bz, bz0, bz1, true_and, and_true, vpT, nIc, nI_add, pk_mul, nI_sub', Nat.add_zero, Nat.zero_add, upd_same, upd_ne, if_false, not_true_eq_false, not_false_eq_true, ite_z, ite_o, eq_self, Bool.false_eq_true, nI_leT, nI_leF, nI_ltT, nI_ltF, nI_ne, and_self, false_and, and_false, nI_rem]
    exact ih
end WL
