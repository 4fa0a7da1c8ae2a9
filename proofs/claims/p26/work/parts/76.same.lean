/-! THE LAW: what it compares: an album -/
section SO
variable {d x h c a n : Nat} {σ : aS} {Q : aQ} {fq fwo fdr fpt fal fpa st fh fb fo : Nat → Int32}
theorem s_alb (hC : LwC σ x fq fwo fdr fpt fal fpa st) (hh : x + 429 ≤ h) (hR : LwR fq fwo fdr fpt fal fpa st c) (hok : mOK st) (hc : st 34 = nI c) (h6 : c ≤ 6) (ha : a < c) (hn : bN (bk st a) = n) {v10 : Int32} {l16 : Option Value} (K : ∀ l15, aX (d + 5) iL_same 46 [some (.ref x), some (.ref (x + 423)), some (.ref (x + 424)), some (.ref (x + 425)), some (.ref (x + 426)), some (.ref (x + 427)), some (.ref (x + 428)), some (.ref h), some (.ref (h + 1)), some (.ref (h + 2)), some (.int v10), some (.int (nI (a + 1))), some (.int (nI n)), some (.int (bSe (bk st a) n)), some (.int (nI (mChg st a ((n - 1) / 2)))), l15, l16] [] (nA σ h fh fb fo) Q) : aX (d + 5) iL_same 275 [some (.ref x), some (.ref (x + 423)), some (.ref (x + 424)), some (.ref (x + 425)), some (.ref (x + 426)), some (.ref (x + 427)), some (.ref (x + 428)), some (.ref h), some (.ref (h + 1)), some (.ref (h + 2)), some (.int v10), some (.int (nI a)), some (.int (nI n)), some (.int (bSe (bk st a) n)), some (.int (nI (mChg st a ((n - 1) / 2)))), some (.int (nI n)), l16] [] (nA σ h fh fb fo) Q := by
  have hCn := LwC_nA hC hh
  have hb := mOK_b hok hc (by omega) ha
  have h8 := bN_8 hb
  have hA := hR.2.2.2.2.2.2 a ha
  obtain ⟨m, m1, m2, m3, ho, hhw, hsq, hdi, hw, hf, htl⟩ := id hb
  have em := bOK_N m1 m3
  have hst1 : st (35 + 28 * a + 1) = nI n := by rw [← hn, em]; exact m1
  have n1 : 1 ≤ n := by omega
  have rpa : ∀ f g k, (nA σ h f g k).1 (x + 428) = some (eI 48 fpa) := fun f g k => (hCn f g k).2.2.2.2.2.2.2
  have ral : ∀ f g k, (nA σ h f g k).1 (x + 427) = some (eI 24 fal) := fun f g k => (hCn f g k).2.2.2.2.2.2.1
  have rwo : ∀ f g k, (nA σ h f g k).1 (x + 424) = some (eI 16 fwo) := fun f g k => (hCn f g k).2.2.2.1
  have hI : ∀ f g k, aIs (nA σ h f g k) x 6 = True := fun f g k => aIsT (hCn f g k).1
  have hpar : n - 1 - (n - 1) % 2 = (n - 1) / 2 * 2 := by omega
  have hl := hA.2 ((n - 1) / 2 * 2) (by omega)
  have hllt := pE_lt hb (show (n - 1) / 2 * 2 < bN (bk st a) by omega)
  have hlw := pE_what hb (show (n - 1) / 2 * 2 < bN (bk st a) by omega)
  obtain ⟨y, y1, y2, y3⟩ := hw ((n - 1) / 2 * 2) (by omega)
  have y16 := y3 (by omega)
  rw [y1] at hlw
  have hf0 : fpa (8 * a) = nI (pE (bk st a) 0) := hA.2 0 (by omega)
  have hflt := pE_lt hb (show 0 < bN (bk st a) by omega)
  have hfw := pE_what hb (show 0 < bN (bk st a) by omega)
  obtain ⟨z, z1, z2, z3⟩ := hw 0 (by omega)
  have z16 := z3 rfl
  rw [z1] at hfw
  have hp1 : fpa (8 * a + n - 1) = nI (pE (bk st a) (n - 1)) := by rw [show 8 * a + n - 1 = 8 * a + (n - 1) by omega]; exact hA.2 (n - 1) (by omega)
  have hplt := pE_lt hb (show n - 1 < bN (bk st a) by omega)
  have hpse := pE_seat hb (show n - 1 < bN (bk st a) by omega)
  have f0 : fal (4 * a) = st (35 + 28 * a) := hA.1 0 (by omega)
  have f2 : fal (4 * a + 2) = st (35 + 28 * a + 2) := hA.1 2 (by omega)
  have f3 : fal (4 * a + 3) = st (35 + 28 * a + 3) := hA.1 3 (by omega)
  have hwy := hR.2.2.2.1 y y16
  have hwz := hR.2.2.2.1 z z16
  have hxor : ∃ v, st y ^^^ st z = nI v ∧ v < 4096 := by
    obtain ⟨p, hp, hp2⟩ := hok.1.1 y y16
    obtain ⟨q, hq, hq2⟩ := hok.1.1 z z16
    rw [hp, hq]
    exact xor_4096 hp2 hq2
  have bb := fun (τ : aS) (Q : aQ) => l_bits (d := d + 4) (σ := τ) (Q := Q) hxor
  have hO := fun (f g k : Nat → Int32) (Q : aQ) => cq_of0 (d := d + 1) (Q := Q) (hCn f g k).1 (hCn f g k).2.1 hok hc (by omega) ha
  have hO1 : ∀ (f g k : Nat → Int32) (Q : aQ), aX (d + 4) iX6_of 0 [some (.ref x), some (.int (nI a)), some (.int (nI 1)), none] [] (nA σ h f g k) Q ↔ Q (some (.int (nI n))) (nA σ h f g k) := fun f g k Q => by
    rw [← hst1]
    exact cq_of1 (d := d + 1) (Q := Q) (hCn f g k).1 (hCn f g k).2.1 hok hc (by omega) ha
  have hO2 : ∀ (f g k : Nat → Int32) (Q : aQ), aX (d + 4) iX6_of 0 [some (.ref x), some (.int (nI a)), some (.int (nI 2)), none] [] (nA σ h f g k) Q ↔ Q (some (.int (bk st a (4 + 3 * (n - 1))))) (nA σ h f g k) := fun f g k Q => cq_of2 (d := d + 1) (Q := Q) (hCn f g k).1 (hCn f g k).2.1 hok hc (by omega) ha hst1 (by omega)
  have hO3 := fun (f g k : Nat → Int32) (Q : aQ) => cq_of3 (d := d + 1) (Q := Q) (hCn f g k).1 (hCn f g k).2.1 hok hc (by omega) ha
  have hO4 : ∀ (f g k : Nat → Int32) (Q : aQ), aX (d + 4) iX6_of 0 [some (.ref x), some (.int (nI a)), some (.int (nI 4)), none] [] (nA σ h f g k) Q ↔ Q (some (.int (nI y))) (nA σ h f g k) := fun f g k Q => by
    rw [← y1]
    exact cq_of4 (d := d + 1) (Q := Q) (hCn f g k).1 (hCn f g k).2.1 hok hc (by omega) ha hst1 (by omega)
  have hO5 := fun (f g k : Nat → Int32) (Q : aQ) => cq_of5 (d := d + 1) (Q := Q) (hCn f g k).1 (hCn f g k).2.1 hok hc (by omega) ha hst1 (by omega)
  have hO6 := fun (f g k : Nat → Int32) (Q : aQ) => cq_of6 (d := d + 1) (Q := Q) (hCn f g k).1 (hCn f g k).2.1 hok hc (by omega) ha
  have hO7 : ∀ (f g k : Nat → Int32) (Q : aQ), aX (d + 4) iX6_of 0 [some (.ref x), some (.int (nI a)), some (.int (nI 7)), none] [] (nA σ h f g k) Q ↔ Q (some (.int (bSe (bk st a) n))) (nA σ h f g k) := fun f g k Q => by
    rw [← mSeats_bSe]
    exact cq_of7 (d := d + 1) (Q := Q) (hCn f g k).1 (hCn f g k).2.1 hok hc (by omega) ha hst1 (by omega)
  have hO8 := fun (f g k : Nat → Int32) (Q : aQ) => cq_of8 (d := d + 1) (Q := Q) (hCn f g k).1 (hCn f g k).2.1 hok hc (by omega) ha hst1 (by omega) y1 y16 z1 z16
  have hPN := fun (f g k : Nat → Int32) (Q : aQ) => cq_pageP (d := d + 1) (Q := Q) (p := nI n) (w := nI 0) (hCn f g k).1 (hCn f g k).2.1 hok hc (by omega) ha hst1 (by omega) (eq_false (fun w => by
    have := w.2
    rw [nI_leL (by omega) (by omega)] at this
    omega))
  simp (disch := omega) only [sL_same_275, sL_same_275n, sL_same_277, sL_same_279, sL_same_281, sL_same_282, sL_same_284, sL_same_285, sL_same_286, sL_same_288, sL_same_289, sL_same_290, sL_same_291, sL_same_292, sL_same_293, sL_same_294, sL_same_295, sL_same_298, sL_same_300, sL_same_301, sL_same_303, sL_same_304, sL_same_307, sL_same_307n, sL_same_309, sL_same_310, sL_same_312, sL_same_313, sL_same_314, sL_same_317, sL_same_318, sL_same_320, sL_same_321, sL_same_324, sL_same_326, sL_same_329, sL_same_330, sL_same_332, sL_same_333, sL_same_336, sL_same_336n, sL_same_338, sL_same_340, sL_same_342, sL_same_343, sL_same_345, sL_same_346, sL_same_347, sL_same_348, sL_same_349, sL_same_352, sL_same_355, sL_same_356, sL_same_358, sL_same_359, sL_same_362, sL_same_362n, sL_same_364, sL_same_365, sL_same_367, sL_same_368, sL_same_369, sL_same_370, sL_same_371, sL_same_374, sL_same_375, sL_same_377, sL_same_378, sL_same_381, sL_same_383, sL_same_386, sL_same_387, sL_same_389, sL_same_390, sL_same_393, sL_same_395, sL_same_398, sL_same_399, sL_same_401, sL_same_403, sL_same_406, sL_same_406n, sL_same_408, sL_same_409, sL_same_411, sL_same_412, sL_same_413, sL_same_414, sL_same_415, sL_same_418, sL_same_419, sL_same_421, sL_same_423, sL_same_426, sL_same_428, sL_same_431, sL_same_432, sL_same_434, sL_same_436, sL_same_439, sL_same_439n, sL_same_440, sL_same_442, sL_same_443, sL_same_443n, sL_same_444, sL_same_444n, sL_same_446, sL_same_448, sL_same_450, sL_same_451, sL_same_452, sL_same_455, sL_same_456, sL_same_457, sL_same_460, sL_same_463, sL_same_464, sL_same_466, sL_same_468, sL_same_469, sL_same_472, sL_same_473, sL_same_476, sL_same_477, sL_same_478, sL_same_481, rpa, ral, rwo, hI, hpar, hl, l_what, hlw, l_seat, hf0, hfw, hp1, hpse, f0, f2, f3, hwy, hwz, bb, hO, hO1, hO2, hO3, hO4, hO5, hO6, hO7, hO8, hPN, nA_0, nA_1, nA_2, nA_w0, nA_w1, nA_w2, aFld, aFds, aRow, aRowR, aRefs, aLn, if_true, List.getElem?_cons_zero, List.getElem?_cons_succ, List.set_cons_zero, List.set_cons_succ, List.length_cons, List.length_nil, Option.some.injEq, exists_eq_left', aput_same, aclr_none, aclr_int, aclr_ref, aclr_null, aret_some, aret_none, bz, bz0, bz1, true_and, and_true, vpT, nIc, nI_add, pk_mul, nI_sub', Nat.add_zero, Nat.zero_add, upd_same, upd_ne, if_false, not_true_eq_false, not_false_eq_true, ite_z, ite_o, eq_self, Bool.false_eq_true, nI_leT, nI_leF, nI_ltT, nI_ltF, nI_ne, and_self, false_and, and_false, nI_rem]
  exact K _
end SO
