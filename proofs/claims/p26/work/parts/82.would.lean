/-! THE LAW: what will be: the best word -/
def lBW (st : Nat → Int32) (s i : Nat) : Int32 × Int32 := if i = 0 then (-1, nI 99) else mBW st s i
theorem lBW_s {st : Nat → Int32} (hE : eOK st) {s i : Nat} (hs : s < 8) (hi : i < 16) : lBW st s (i + 1) = if mDif st s i < (lBW st s i).2 then (nI i, mDif st s i) else lBW st s i := by
  by_cases e : i = 0
  · subst e
    have h := mDif_13 hE hs (show 0 < 16 by omega)
    have h2 : mDif st s 0 < nI 99 := Int32.lt_of_lt_of_le h (by decide)
    unfold lBW
    rw [if_neg (by omega), if_pos rfl, mBW, mBW]
    simp only [h, h2, if_true]
  · unfold lBW
    rw [if_neg (by omega), if_neg e, mBW]
theorem pE_b0 (s w : Nat) (hs : s < 8) (hw : w < 16) : pE (b0 s w) 0 = 10000 * s + w := by
  have e0 : b0 s w (4 + 3 * 0) = nI s := rfl
  have e1 : b0 s w (4 + 3 * 0 + 1) = nI w := rfl
  have e2 : b0 s w (4 + 3 * 0 + 2) = nI 0 := rfl
  unfold pE
  rw [e0, e1, e2, nIc (by omega), nIc (by omega), nIc (by omega)]
  omega
theorem AlR_b0 {g2 k2 : Nat → Int32} {s w : Nat} (hs : s < 8) (hw : w < 16) : AlR (upd (upd (upd (upd g2 20 (nI s)) 21 (nI 1)) 22 (nI 0)) 23 (-6)) (upd k2 40 (nI (10000 * s + w))) 5 (b0 s w) := by
  refine ⟨fun i hi => ?_, fun k hk => ?_⟩
  · have h4 : i = 0 ∨ i = 1 ∨ i = 2 ∨ i = 3 := by omega
    rcases h4 with rfl | rfl | rfl | rfl
    · rw [upd_ne (by omega), upd_ne (by omega), upd_ne (by omega)]; exact upd_same
    · rw [upd_ne (by omega), upd_ne (by omega)]; exact upd_same
    · rw [upd_ne (by omega)]; exact upd_same
    · exact upd_same
  · rw [bN_b0] at hk
    have : k = 0 := by omega
    subst this
    rw [pE_b0 s w hs hw]
    exact upd_same
section WB
variable {d x c : Nat} {xx : Int32} {Q : aQ} {fq fwo fdr fpt fal fpa st : Nat → Int32}
theorem w_best (hR : LwR fq fwo fdr fpt fal fpa st c) (hE : eOK st) {s : Nat} (hs : s < 8) {l11 : Option Value} : ∀ (k w : Nat) (l16 l17 : Option Value) (f2 g2 k2 : Nat → Int32) (σ : aS), w + k = 16 → WoC σ x fq fwo fdr fpt fal fpa st f2 g2 k2 → (∀ σ' l16 l17 f2' g2' k2', WoC σ' x fq fwo fdr fpt fal fpa st f2' g2' k2' → FrW σ σ' x → aX (d + 7) iL_would 476 [some (.ref x), some (.int xx), some (.ref (x + 423)), some (.ref (x + 424)), some (.ref (x + 425)), some (.ref (x + 426)), some (.ref (x + 427)), some (.ref (x + 428)), some (.ref (x + 429)), some (.ref (x + 430)), some (.ref (x + 431)), l11, some (.int (nI s)), some (.int (mBW st s 16).1), some (.int (mBW st s 16).2), some (.int (nI 16)), l16, l17] [] σ' Q) → aX (d + 7) iL_would 327 [some (.ref x), some (.int xx), some (.ref (x + 423)), some (.ref (x + 424)), some (.ref (x + 425)), some (.ref (x + 426)), some (.ref (x + 427)), some (.ref (x + 428)), some (.ref (x + 429)), some (.ref (x + 430)), some (.ref (x + 431)), l11, some (.int (nI s)), some (.int (lBW st s w).1), some (.int (lBW st s w).2), some (.int (nI w)), l16, l17] [] σ Q
  | 0, w, l16, l17, f2, g2, k2, σ, hw, hW, K => by
    have e : w = 16 := by omega
    subst e
    have hK := K σ l16 l17 f2 g2 k2 hW (FrW_refl σ x)
    have e16 : lBW st s 16 = mBW st s 16 := by unfold lBW; rw [if_neg (by omega)]
    rw [e16, sL_would_327]
    simp (disch := omega) only [sL_would_329, sL_would_331, aFld, aFds, aRow, aRowR, aRefs, aLn, if_true, List.getElem?_cons_zero, List.getElem?_cons_succ, List.set_cons_zero, List.set_cons_succ, List.length_cons, List.length_nil, Option.some.injEq, exists_eq_left', aput_same, aclr_none, aclr_int, aclr_ref, aclr_null, aret_some, aret_none, bz, bz0, bz1, true_and, and_true, vpT, nIc, nI_add, pk_mul, nI_sub', Nat.add_zero, Nat.zero_add, upd_same, upd_ne, if_false, not_true_eq_false, not_false_eq_true, ite_z, ite_o, eq_self, Bool.false_eq_true, nI_leT, nI_leF, nI_ltT, nI_ltF, nI_ne, and_self, false_and, and_false, nI_rem]
    exact hK
  | k + 1, w, l16, l17, f2, g2, k2, σ, hw, hW, K => by
    have hw16 : w < 16 := by omega
    have hal := hW.2.2.2.1
    have hpa := hW.2.2.2.2
    have rpa : ∀ f : Nat → Int32, (aput σ (x + 430) (eI 24 f)).1 (x + 431) = some (eI 48 k2) := fun f => (aput_ne _ _ (by omega)).trans hpa
    rw [sL_would_327]
    simp (disch := omega) only [sL_would_329, sL_would_331, sL_would_334, sL_would_334n, sL_would_336, sL_would_338, sL_would_340, sL_would_341, sL_would_341n, sL_would_343, sL_would_345, sL_would_346, sL_would_347, sL_would_347n, sL_would_349, sL_would_351, sL_would_352, sL_would_353, sL_would_353n, sL_would_355, sL_would_357, sL_would_359, sL_would_360, sL_would_360n, sL_would_362, sL_would_364, sL_would_367, sL_would_369, sL_would_370, sL_would_372, sL_would_373, hal, rpa, aput_twice, aFld, aFds, aRow, aRowR, aRefs, aLn, if_true, List.getElem?_cons_zero, List.getElem?_cons_succ, List.set_cons_zero, List.set_cons_succ, List.length_cons, List.length_nil, Option.some.injEq, exists_eq_left', aput_same, aclr_none, aclr_int, aclr_ref, aclr_null, aret_some, aret_none, bz, bz0, bz1, true_and, and_true, vpT, nIc, nI_add, pk_mul, nI_sub', Nat.add_zero, Nat.zero_add, upd_same, upd_ne, if_false, not_true_eq_false, not_false_eq_true, ite_z, ite_o, eq_self, Bool.false_eq_true, nI_leT, nI_leF, nI_ltT, nI_ltF, nI_ne, and_self, false_and, and_false, nI_rem]
    have W1 : WoC (aput (aput σ (x + 430) (eI 24 (upd (upd (upd (upd g2 20 (nI s)) 21 (nI 1)) 22 (nI 0)) 23 (-6)))) (x + 431) (eI 48 (upd k2 40 (nI (10000 * s + w))))) x fq fwo fdr fpt fal fpa st f2 _ _ := WoC_w2 (WoC_w1 hW)
    have F1 : FrW σ (aput (aput σ (x + 430) (eI 24 (upd (upd (upd (upd g2 20 (nI s)) 21 (nI 1)) 22 (nI 0)) 23 (-6)))) (x + 431) (eI 48 (upd k2 40 (nI (10000 * s + w))))) x := FrW_trans (FrW_put (by omega)) (FrW_put (by omega))
    refine w_while5 hR hE 9 (b0 s w) _ _ _ _ (b0_ok hs hw16) (AlR_b0 hs hw16) (fun _ => by rw [bN_b0]; omega) W1 (fun σ2 f4 g4 k4 W2 F2 hA => ?_)
    have hb := bEnd_ok hE 9 _ (b0_ok hs hw16)
    have h8 := bN_8 hb
    obtain ⟨n, n1, n2, n3, -⟩ := id hb
    have eN := bOK_N n1 n3
    obtain ⟨y, y1, y2⟩ := bLw_ok hb
    have f1 : g4 21 = nI n := (hA.1 1 (by omega)).trans n1
    have hpar : n - 1 - (n - 1) % 2 = (n - 1) / 2 * 2 := by omega
    have hl : k4 (40 + (n - 1) / 2 * 2) = nI (pE (bEnd st 9 (b0 s w)) ((n - 1) / 2 * 2)) := hA.2 ((n - 1) / 2 * 2) (by omega)
    have hllt := pE_lt hb (show (n - 1) / 2 * 2 < bN (bEnd st 9 (b0 s w)) by omega)
    have hlw := pE_what hb (show (n - 1) / 2 * 2 < bN (bEnd st 9 (b0 s w)) by omega)
    have hy : bEnd st 9 (b0 s w) (4 + 3 * ((n - 1) / 2 * 2) + 1) = nI y := by
      rw [← y1]
      unfold bLw
      rw [eN]
    rw [hy] at hlw
    have hal2 := W2.2.2.2.1
    have hpa2 := W2.2.2.2.2
    have rwo := W2.1.2.2.2.1
    have hww := hR.2.2.2.1 w hw16
    have hwy := hR.2.2.2.1 y y2
    have hxor : ∃ v, st w ^^^ st y = nI v ∧ v < 4096 := by
      obtain ⟨p, hp, hp2⟩ := hE.1 w hw16
      obtain ⟨q, hq, hq2⟩ := hE.1 y y2
      rw [hp, hq]
      exact xor_4096 hp2 hq2
    have bb := fun (Q : aQ) => l_bits (d := d + 6) (σ := σ2) (Q := Q) hxor
    have hD : mBits (st w ^^^ st y) 12 = mDif st s w := by
      unfold mDif
      rw [y1, nIc (by omega), xor_comm32]
    rw [hD] at bb
    have hstep := lBW_s hE hs hw16
    by_cases g : (lBW st s w).2 ≤ mDif st s w
    · have hK := w_best hR hE hs k (w + 1) (some (.int (nI n))) (some (.int (mDif st s w))) f4 g4 k4 σ2 (by omega) W2 (fun σ3 a b f g h u1 u2 => K σ3 a b f g h u1 (FrW_trans F1 (FrW_trans F2 u2)))
      rw [hstep, if_neg (Int32.not_lt.mpr g)] at hK
      simp (disch := omega) only [sL_would_399, sL_would_399n, sL_would_401, sL_would_403, sL_would_404, sL_would_406, sL_would_406n, sL_would_407, sL_would_409, sL_would_410, sL_would_410n, sL_would_411, sL_would_411n, sL_would_413, sL_would_415, sL_would_417, sL_would_418, sL_would_419, sL_would_421, sL_would_422, sL_would_423, sL_would_424, sL_would_425, sL_would_426, sL_would_427, sL_would_428, sL_would_431, sL_would_432, sL_would_433, sL_would_436, sL_would_438, sL_would_440, sL_would_442, sL_would_445, sL_would_447, sL_would_450, sL_would_452, sL_would_454, sL_would_456, sL_would_458, sL_would_461, sL_would_463, sL_would_466, sL_would_468, sL_would_470, sL_would_473, hal2, hpa2, rwo, f1, hpar, hl, l_what, hlw, hww, hwy, bb, g, aFld, aFds, aRow, aRowR, aRefs, aLn, if_true, List.getElem?_cons_zero, List.getElem?_cons_succ, List.set_cons_zero, List.set_cons_succ, List.length_cons, List.length_nil, Option.some.injEq, exists_eq_left', aput_same, aclr_none, aclr_int, aclr_ref, aclr_null, aret_some, aret_none, bz, bz0, bz1, true_and, and_true, vpT, nIc, nI_add, pk_mul, nI_sub', Nat.add_zero, Nat.zero_add, upd_same, upd_ne, if_false, not_true_eq_false, not_false_eq_true, ite_z, ite_o, eq_self, Bool.false_eq_true, nI_leT, nI_leF, nI_ltT, nI_ltF, nI_ne, and_self, false_and, and_false, nI_rem]
      exact hK
    · have hK := w_best hR hE hs k (w + 1) (some (.int (nI n))) (some (.int (mDif st s w))) f4 g4 k4 σ2 (by omega) W2 (fun σ3 a b f g h u1 u2 => K σ3 a b f g h u1 (FrW_trans F1 (FrW_trans F2 u2)))
      rw [hstep, if_pos (Int32.not_le.mp g)] at hK
      simp (disch := omega) only [sL_would_399, sL_would_399n, sL_would_401, sL_would_403, sL_would_404, sL_would_406, sL_would_406n, sL_would_407, sL_would_409, sL_would_410, sL_would_410n, sL_would_411, sL_would_411n, sL_would_413, sL_would_415, sL_would_417, sL_would_418, sL_would_419, sL_would_421, sL_would_422, sL_would_423, sL_would_424, sL_would_425, sL_would_426, sL_would_427, sL_would_428, sL_would_431, sL_would_432, sL_would_433, sL_would_436, sL_would_438, sL_would_440, sL_would_442, sL_would_445, sL_would_447, sL_would_450, sL_would_452, sL_would_454, sL_would_456, sL_would_458, sL_would_461, sL_would_463, sL_would_466, sL_would_468, sL_would_470, sL_would_473, hal2, hpa2, rwo, f1, hpar, hl, l_what, hlw, hww, hwy, bb, g, aFld, aFds, aRow, aRowR, aRefs, aLn, if_true, List.getElem?_cons_zero, List.getElem?_cons_succ, List.set_cons_zero, List.set_cons_succ, List.length_cons, List.length_nil, Option.some.injEq, exists_eq_left', aput_same, aclr_none, aclr_int, aclr_ref, aclr_null, aret_some, aret_none, bz, bz0, bz1, true_and, and_true, vpT, nIc, nI_add, pk_mul, nI_sub', Nat.add_zero, Nat.zero_add, upd_same, upd_ne, if_false, not_true_eq_false, not_false_eq_true, ite_z, ite_o, eq_self, Bool.false_eq_true, nI_leT, nI_leF, nI_ltT, nI_ltF, nI_ne, and_self, false_and, and_false, nI_rem]
      exact hK
end WB
