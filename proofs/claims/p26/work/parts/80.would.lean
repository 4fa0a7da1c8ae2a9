/-! THE LAW: what will be: an album to its end -/
section WA
variable {d x c a : Nat} {xx : Int32} {Q : aQ} {fq fwo fdr fpt fal fpa st : Nat → Int32}
/-- one round on the second rows -/
theorem w_round {a : Nat} {b f2 g2 k2 : Nat → Int32} {σ : aS} (hW : WoC σ x fq fwo fdr fpt fal fpa st f2 g2 k2) (hR : LwR fq fwo fdr fpt fal fpa st c) (hE : eOK st) (ha : a < 6) (hb : bOK b) (hA : AlR g2 k2 a b) (K : ∀ σ' f2' g2' k2', WoC σ' x fq fwo fdr fpt fal fpa st f2' g2' k2' → FrW σ σ' x → (∀ j, j < 8 → f2' j = f2 j + bDl st b j) → AlR g2' k2' a (bStep st b) → (∀ i, (i < 4 * a ∨ 4 * a + 4 ≤ i) → g2' i = g2 i) → (∀ i, (i < 8 * a ∨ 8 * a + 8 ≤ i) → k2' i = k2 i) → Q none σ') : aX (d + 2) iL_round 0 [some (.int (nI a)), some (.ref (x + 423)), some (.ref (x + 424)), some (.ref (x + 425)), some (.ref (x + 429)), some (.ref (x + 430)), some (.ref (x + 431)), none, none, none, none, none] [] σ Q := by
  have hC := hW.1
  have key := l_round (d := d) (q := x + 423) (wo := x + 424) (dr := x + 425) (pt := x + 429) (al := x + 430) (pa := x + 431) (σ := σ) (Q := Q) (fpt := f2) (fal := g2) (fpa := k2) (by omega) hC.2.2.1 hR.1 hC.2.2.2.1 hR.2.2.2.1 hC.2.2.2.2.1 hR.2.2.2.2.1 hE ha hb hA (fun f' g' k' e1 e2 e3 e4 => K _ f' g' k' (WoC_lA hW) FrW_lA e1 e2 e3 e4)
  rw [WoC_eq hW] at key
  exact key
theorem w_while (hR : LwR fq fwo fdr fpt fal fpa st c) (hE : eOK st) (ha : a < 6) {l13 l14 l15 l16 l17 : Option Value} : ∀ (f r : Nat) (b f2 g2 k2 : Nat → Int32) (σ : aS), bOK b → AlR g2 k2 a b → (b 2 = nI 0 → 9 ≤ f + bN b) → WoC σ x fq fwo fdr fpt fal fpa st f2 g2 k2 → (∀ σ' f2' g2' k2', WoC σ' x fq fwo fdr fpt fal fpa st f2' g2' k2' → FrW σ σ' x → (∀ j, j < 8 → f2' j = f2 j + bEndD st f b j) → AlR g2' k2' a (bEnd st f b) → (∀ i, (i < 4 * a ∨ 4 * a + 4 ≤ i) → g2' i = g2 i) → (∀ i, (i < 8 * a ∨ 8 * a + 8 ≤ i) → k2' i = k2 i) → aX (d + 7) iL_would 125 [some (.ref x), some (.int xx), some (.ref (x + 423)), some (.ref (x + 424)), some (.ref (x + 425)), some (.ref (x + 426)), some (.ref (x + 427)), some (.ref (x + 428)), some (.ref (x + 429)), some (.ref (x + 430)), some (.ref (x + 431)), some (.int (nI a)), some (.int (nI (r + bEndN st f b))), l13, l14, l15, l16, l17] [] σ' Q) → aX (d + 7) iL_would 92 [some (.ref x), some (.int xx), some (.ref (x + 423)), some (.ref (x + 424)), some (.ref (x + 425)), some (.ref (x + 426)), some (.ref (x + 427)), some (.ref (x + 428)), some (.ref (x + 429)), some (.ref (x + 430)), some (.ref (x + 431)), some (.int (nI a)), some (.int (nI r)), l13, l14, l15, l16, l17] [] σ Q
  | 0, r, b, f2, g2, k2, σ, hb, hA, hf, hW, K => by
    have g : ¬ b 2 = nI 0 := fun g => by
      have h9 := hf g
      have h8 := bN_8 hb
      omega
    have hal := hW.2.2.2.1
    have g2' : g2 (4 * a + 2) = b 2 := hA.1 2 (by omega)
    have hK := K σ f2 g2 k2 hW (FrW_refl σ x) (fun j hj => by rw [bEndD, nI_0, Int32.add_zero]) hA (fun i _ => rfl) (fun i _ => rfl)
    rw [bEndN, Nat.add_zero] at hK
    rw [sL_would_92]
    simp (disch := omega) only [sL_would_94, sL_would_95, sL_would_97, sL_would_98, sL_would_99, sL_would_100, sL_would_101, hal, g2', g, aFld, aFds, aRow, aRowR, aRefs, aLn, if_true, List.getElem?_cons_zero, List.getElem?_cons_succ, List.set_cons_zero, List.set_cons_succ, List.length_cons, List.length_nil, Option.some.injEq, exists_eq_left', aput_same, aclr_none, aclr_int, aclr_ref, aclr_null, aret_some, aret_none, bz, bz0, bz1, true_and, and_true, vpT, nIc, nI_add, pk_mul, nI_sub', Nat.add_zero, Nat.zero_add, upd_same, upd_ne, if_false, not_true_eq_false, not_false_eq_true, ite_z, ite_o, eq_self, Bool.false_eq_true, nI_leT, nI_leF, nI_ltT, nI_ltF, nI_ne, and_self, false_and, and_false, nI_rem]
    exact hK
  | f + 1, r, b, f2, g2, k2, σ, hb, hA, hf, hW, K => by
    have hal := hW.2.2.2.1
    have g2' : g2 (4 * a + 2) = b 2 := hA.1 2 (by omega)
    rw [sL_would_92]
    by_cases g : b 2 = nI 0
    · have eN : bEndN st (f + 1) b = bEndN st f (bStep st b) + 1 := by rw [bEndN, if_pos g]
      have eB : bEnd st (f + 1) b = bEnd st f (bStep st b) := by rw [bEnd, if_pos g]
      have hp := bStep_pro (st := st) hb g
      have h9 := hf g
      simp (disch := omega) only [sL_would_94, sL_would_95, sL_would_97, sL_would_98, sL_would_99, sL_would_100, sL_would_101, sL_would_104, sL_would_106, sL_would_106n, sL_would_107, sL_would_107n, sL_would_108, sL_would_108n, sL_would_110, sL_would_110n, sL_would_112, sL_would_112n, sL_would_114, sL_would_114n, sL_would_116, hal, g2', g, aFld, aFds, aRow, aRowR, aRefs, aLn, if_true, List.getElem?_cons_zero, List.getElem?_cons_succ, List.set_cons_zero, List.set_cons_succ, List.length_cons, List.length_nil, Option.some.injEq, exists_eq_left', aput_same, aclr_none, aclr_int, aclr_ref, aclr_null, aret_some, aret_none, bz, bz0, bz1, true_and, and_true, vpT, nIc, nI_add, pk_mul, nI_sub', Nat.add_zero, Nat.zero_add, upd_same, upd_ne, if_false, not_true_eq_false, not_false_eq_true, ite_z, ite_o, eq_self, Bool.false_eq_true, nI_leT, nI_leF, nI_ltT, nI_ltF, nI_ne, and_self, false_and, and_false, nI_rem]
      refine w_round hW hR hE ha hb hA (fun σ1 f3 g3 k3 w1 w2 w3 w4 w5 w6 => ?_)
      simp (disch := omega) only [sL_would_119, sL_would_122, aFld, aFds, aRow, aRowR, aRefs, aLn, if_true, List.getElem?_cons_zero, List.getElem?_cons_succ, List.set_cons_zero, List.set_cons_succ, List.length_cons, List.length_nil, Option.some.injEq, exists_eq_left', aput_same, aclr_none, aclr_int, aclr_ref, aclr_null, aret_some, aret_none, bz, bz0, bz1, true_and, and_true, vpT, nIc, nI_add, pk_mul, nI_sub', Nat.add_zero, Nat.zero_add, upd_same, upd_ne, if_false, not_true_eq_false, not_false_eq_true, ite_z, ite_o, eq_self, Bool.false_eq_true, nI_leT, nI_leF, nI_ltT, nI_ltF, nI_ne, and_self, false_and, and_false, nI_rem]
      refine w_while hR hE ha f (r + 1) (bStep st b) f3 g3 k3 σ1 (bStep_ok hE hb) w4 (fun z => by rcases hp with hp | hp; exact absurd z hp; omega) w1 (fun σ2 f4 g4 k4 v1 v2 v3 v4 v5 v6 => ?_)
      have hK := K σ2 f4 g4 k4 v1 (FrW_trans w2 v2) (fun j hj => by rw [v3 j hj, w3 j hj, bEndD_succ, Int32.add_assoc]) (by rw [eB]; exact v4) (fun i hi => (v5 i hi).trans (w5 i hi)) (fun i hi => (v6 i hi).trans (w6 i hi))
      rw [eN, show r + (bEndN st f (bStep st b) + 1) = r + 1 + bEndN st f (bStep st b) by omega] at hK
      exact hK
    · have eN : bEndN st (f + 1) b = 0 := by rw [bEndN, if_neg g]
      have eB : bEnd st (f + 1) b = b := by rw [bEnd, if_neg g]
      have hK := K σ f2 g2 k2 hW (FrW_refl σ x) (fun j hj => by rw [bEndD_done g, nI_0, Int32.add_zero]) (by rw [eB]; exact hA) (fun i _ => rfl) (fun i _ => rfl)
      rw [eN, Nat.add_zero] at hK
      simp (disch := omega) only [sL_would_94, sL_would_95, sL_would_97, sL_would_98, sL_would_99, sL_would_100, sL_would_101, hal, g2', g, aFld, aFds, aRow, aRowR, aRefs, aLn, if_true, List.getElem?_cons_zero, List.getElem?_cons_succ, List.set_cons_zero, List.set_cons_succ, List.length_cons, List.length_nil, Option.some.injEq, exists_eq_left', aput_same, aclr_none, aclr_int, aclr_ref, aclr_null, aret_some, aret_none, bz, bz0, bz1, true_and, and_true, vpT, nIc, nI_add, pk_mul, nI_sub', Nat.add_zero, Nat.zero_add, upd_same, upd_ne, if_false, not_true_eq_false, not_false_eq_true, ite_z, ite_o, eq_self, Bool.false_eq_true, nI_leT, nI_leF, nI_ltT, nI_ltF, nI_ne, and_self, false_and, and_false, nI_rem]
      exact hK
theorem w_while5 (hR : LwR fq fwo fdr fpt fal fpa st c) (hE : eOK st) {l11 l12 l13 l14 l15 l16 l17 : Option Value} : ∀ (f : Nat) (b f2 g2 k2 : Nat → Int32) (σ : aS), bOK b → AlR g2 k2 5 b → (b 2 = nI 0 → 9 ≤ f + bN b) → WoC σ x fq fwo fdr fpt fal fpa st f2 g2 k2 → (∀ σ' f2' g2' k2', WoC σ' x fq fwo fdr fpt fal fpa st f2' g2' k2' → FrW σ σ' x → AlR g2' k2' 5 (bEnd st f b) → aX (d + 7) iL_would 399 [some (.ref x), some (.int xx), some (.ref (x + 423)), some (.ref (x + 424)), some (.ref (x + 425)), some (.ref (x + 426)), some (.ref (x + 427)), some (.ref (x + 428)), some (.ref (x + 429)), some (.ref (x + 430)), some (.ref (x + 431)), l11, l12, l13, l14, l15, l16, l17] [] σ' Q) → aX (d + 7) iL_would 374 [some (.ref x), some (.int xx), some (.ref (x + 423)), some (.ref (x + 424)), some (.ref (x + 425)), some (.ref (x + 426)), some (.ref (x + 427)), some (.ref (x + 428)), some (.ref (x + 429)), some (.ref (x + 430)), some (.ref (x + 431)), l11, l12, l13, l14, l15, l16, l17] [] σ Q
  | 0, b, f2, g2, k2, σ, hb, hA, hf, hW, K => by
    have g : ¬ b 2 = nI 0 := fun g => by
      have h9 := hf g
      have h8 := bN_8 hb
      omega
    have hal := hW.2.2.2.1
    have g2' : g2 22 = b 2 := hA.1 2 (by omega)
    have hK := K σ f2 g2 k2 hW (FrW_refl σ x) hA
    rw [sL_would_374]
    simp (disch := omega) only [sL_would_376, sL_would_378, sL_would_379, hal, g2', g, aFld, aFds, aRow, aRowR, aRefs, aLn, if_true, List.getElem?_cons_zero, List.getElem?_cons_succ, List.set_cons_zero, List.set_cons_succ, List.length_cons, List.length_nil, Option.some.injEq, exists_eq_left', aput_same, aclr_none, aclr_int, aclr_ref, aclr_null, aret_some, aret_none, bz, bz0, bz1, true_and, and_true, vpT, nIc, nI_add, pk_mul, nI_sub', Nat.add_zero, Nat.zero_add, upd_same, upd_ne, if_false, not_true_eq_false, not_false_eq_true, ite_z, ite_o, eq_self, Bool.false_eq_true, nI_leT, nI_leF, nI_ltT, nI_ltF, nI_ne, and_self, false_and, and_false, nI_rem]
    exact hK
  | f + 1, b, f2, g2, k2, σ, hb, hA, hf, hW, K => by
    have hal := hW.2.2.2.1
    have g2' : g2 22 = b 2 := hA.1 2 (by omega)
    rw [sL_would_374]
    by_cases g : b 2 = nI 0
    · have eB : bEnd st (f + 1) b = bEnd st f (bStep st b) := by rw [bEnd, if_pos g]
      have hp := bStep_pro (st := st) hb g
      have h9 := hf g
      simp (disch := omega) only [sL_would_376, sL_would_378, sL_would_379, sL_would_382, sL_would_383, sL_would_383n, sL_would_384, sL_would_384n, sL_would_385, sL_would_385n, sL_would_387, sL_would_387n, sL_would_389, sL_would_389n, sL_would_391, sL_would_391n, sL_would_393, hal, g2', g, aFld, aFds, aRow, aRowR, aRefs, aLn, if_true, List.getElem?_cons_zero, List.getElem?_cons_succ, List.set_cons_zero, List.set_cons_succ, List.length_cons, List.length_nil, Option.some.injEq, exists_eq_left', aput_same, aclr_none, aclr_int, aclr_ref, aclr_null, aret_some, aret_none, bz, bz0, bz1, true_and, and_true, vpT, nIc, nI_add, pk_mul, nI_sub', Nat.add_zero, Nat.zero_add, upd_same, upd_ne, if_false, not_true_eq_false, not_false_eq_true, ite_z, ite_o, eq_self, Bool.false_eq_true, nI_leT, nI_leF, nI_ltT, nI_ltF, nI_ne, and_self, false_and, and_false, nI_rem]
      refine w_round hW hR hE (by omega) hb hA (fun σ1 f3 g3 k3 w1 w2 w3 w4 w5 w6 => ?_)
      simp (disch := omega) only [sL_would_396, aFld, aFds, aRow, aRowR, aRefs, aLn, if_true, List.getElem?_cons_zero, List.getElem?_cons_succ, List.set_cons_zero, List.set_cons_succ, List.length_cons, List.length_nil, Option.some.injEq, exists_eq_left', aput_same, aclr_none, aclr_int, aclr_ref, aclr_null, aret_some, aret_none, bz, bz0, bz1, true_and, and_true, vpT, nIc, nI_add, pk_mul, nI_sub', Nat.add_zero, Nat.zero_add, upd_same, upd_ne, if_false, not_true_eq_false, not_false_eq_true, ite_z, ite_o, eq_self, Bool.false_eq_true, nI_leT, nI_leF, nI_ltT, nI_ltF, nI_ne, and_self, false_and, and_false, nI_rem]
      refine w_while5 hR hE f (bStep st b) f3 g3 k3 σ1 (bStep_ok hE hb) w4 (fun z => by rcases hp with hp | hp; exact absurd z hp; omega) w1 (fun σ2 f4 g4 k4 v1 v2 v3 => ?_)
      exact K σ2 f4 g4 k4 v1 (FrW_trans w2 v2) (by rw [eB]; exact v3)
    · have eB : bEnd st (f + 1) b = b := by rw [bEnd, if_neg g]
      have hK := K σ f2 g2 k2 hW (FrW_refl σ x) (by rw [eB]; exact hA)
      simp (disch := omega) only [sL_would_376, sL_would_378, sL_would_379, hal, g2', g, aFld, aFds, aRow, aRowR, aRefs, aLn, if_true, List.getElem?_cons_zero, List.getElem?_cons_succ, List.set_cons_zero, List.set_cons_succ, List.length_cons, List.length_nil, Option.some.injEq, exists_eq_left', aput_same, aclr_none, aclr_int, aclr_ref, aclr_null, aret_some, aret_none, bz, bz0, bz1, true_and, and_true, vpT, nIc, nI_add, pk_mul, nI_sub', Nat.add_zero, Nat.zero_add, upd_same, upd_ne, if_false, not_true_eq_false, not_false_eq_true, ite_z, ite_o, eq_self, Bool.false_eq_true, nI_leT, nI_leF, nI_ltT, nI_ltF, nI_ne, and_self, false_and, and_false, nI_rem]
      exact hK
end WA
