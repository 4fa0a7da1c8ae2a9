/-! THE LAW: a turn: begin -/
theorem AlR_b0g {g2 k2 : Nat → Int32} {a s w : Nat} (hs : s < 8) (hw : w < 16) : AlR (upd (upd (upd (upd g2 (4 * a) (nI s)) (4 * a + 1) (nI 1)) (4 * a + 2) (nI 0)) (4 * a + 3) (-6)) (upd k2 (8 * a) (nI (10000 * s + w))) a (b0 s w) := by
  refine ⟨fun i hi => ?_, fun k hk => ?_⟩
  · have h4 : i = 0 ∨ i = 1 ∨ i = 2 ∨ i = 3 := by omega
    rcases h4 with rfl | rfl | rfl | rfl
    · rw [upd_ne (by omega), upd_ne (by omega), upd_ne (by omega)]; exact upd_same
    · rw [upd_ne (by omega), upd_ne (by omega)]; exact upd_same
    · rw [upd_ne (by omega)]; exact upd_same
    · exact upd_same
  · rw [bN_b0] at hk
    have : k = 0 := by omega
    subst this
    rw [pE_b0 s w hs hw]
    exact upd_same
theorem LwR_beg {fq fwo fdr fpt fal fpa st : Nat → Int32} {c s w : Nat} (hok : mOK st) (hc : st 34 = nI c) (h6 : c < 6) (hs : s < 8) (hw : w < 16) (hR : LwR fq fwo fdr fpt fal fpa st c) : LwR (upd fq 1 (nI (c + 1))) fwo fdr fpt (upd (upd (upd (upd fal (4 * c) (nI s)) (4 * c + 1) (nI 1)) (4 * c + 2) (nI 0)) (4 * c + 3) (-6)) (upd fpa (8 * c) (nI (10000 * s + w))) (mBeg st c s w) (c + 1) := by
  obtain ⟨r0, r1, r2, r3, r4, r5, r6⟩ := hR
  have hlo : ∀ k, k < 34 → mBeg st c s w k = st k := fun k hk => mBeg_out st c s w (by omega) (by omega)
  refine ⟨by rw [upd_ne (by omega), hlo 16 (by omega)]; exact r0, upd_same, by rw [upd_ne (by omega), hlo 33 (by omega)]; exact r2, fun j hj => by rw [hlo j (by omega)]; exact r3 j hj, fun j hj => by rw [hlo _ (by omega)]; exact r4 j hj, fun j hj => by rw [hlo _ (by omega)]; exact r5 j hj, fun a ha => ?_⟩
  by_cases e : a = c
  · subst e
    exact AlR_cong (b0_ok hs hw) (mBeg_bk st a s w) (fun i _ => rfl) (fun i _ => rfl) (AlR_b0g hs hw)
  · have hbk : ∀ i, i < 28 → bk (mBeg st c s w) a i = bk st a i := fun i hi => mBeg_out st c s w (by omega) (by omega)
    exact AlR_cong (mOK_b hok hc (by omega) (by omega)) hbk (fun i hi => by rw [upd_ne (by omega), upd_ne (by omega), upd_ne (by omega), upd_ne (by omega)]) (fun i hi => by rw [upd_ne (by omega)]) (r6 a (by omega))
section KB
variable {d b L x t c s a : Nat} {xs : Nat → Int32} {Q : aQ} {σ : aS} {xx v13 v15 v16 : Int32} {l13 l14 l15 l16 l17 l18 l19 : Option Value} {fq fwo fdr fpt fal fpa f2 g2 k2 st : Nat → Int32}
theorem k_begin (hb : b < x) (hP : HP σ b L xs x fq fwo fdr fpt fal fpa f2 g2 k2 st) (hR : LwR fq fwo fdr fpt fal fpa st c) (hK : mK st) (hc : st 34 = nI c) (h6 : c ≤ 6) (hs : s < 8) (K : ∀ τ l17 l18 l19, LaE τ b L xs x → τ.2 = σ.2 → aX (d + 9) iL_law 993 [some (.ref b), some (.ref x), some (.ref (x + 423)), some (.ref (x + 424)), some (.ref (x + 425)), some (.ref (x + 426)), some (.ref (x + 427)), some (.ref (x + 428)), some (.ref (x + 429)), some (.ref (x + 430)), some (.ref (x + 431)), some (.int (nI t)), some (.int xx), l13, some (.int (nI s)), some (.int (if bt (st 16) s = true then nI 1 else nI 0)), some (.int v16), l17, l18, l19] [] τ Q) (K2 : aX (d + 9) iL_law 1059 [some (.ref b), some (.ref x), some (.ref (x + 423)), some (.ref (x + 424)), some (.ref (x + 425)), some (.ref (x + 426)), some (.ref (x + 427)), some (.ref (x + 428)), some (.ref (x + 429)), some (.ref (x + 430)), some (.ref (x + 431)), some (.int (nI t)), some (.int xx), l13, some (.int (nI s)), some (.int (if bt (st 16) s = true then nI 1 else nI 0)), some (.int v16), l17, l18, l19] [] σ Q) : aX (d + 9) iL_law 368 [some (.ref b), some (.ref x), some (.ref (x + 423)), some (.ref (x + 424)), some (.ref (x + 425)), some (.ref (x + 426)), some (.ref (x + 427)), some (.ref (x + 428)), some (.ref (x + 429)), some (.ref (x + 430)), some (.ref (x + 431)), some (.int (nI t)), some (.int xx), l13, some (.int (nI s)), some (.int (if bt (st 16) s = true then nI 1 else nI 0)), some (.int v16), l17, l18, l19] [] σ Q := by
  have rq := HP_r0 hP
  have hq1 := hR.2.1
  have hI := aIsT hP.1.1
  by_cases g6 : c = 6
  · have ge : (nI c = nI 6) = True := eq_true (by rw [g6])
    simp (disch := omega) only [sL_law_368, sL_law_368n, sL_law_369, sL_law_370, sL_law_371, sL_law_373, sL_law_376, rq, hq1, ge, aFld, aFds, aRow, aRowR, aRefs, aLn, if_true, List.getElem?_cons_zero, List.getElem?_cons_succ, List.set_cons_zero, List.set_cons_succ, List.length_cons, List.length_nil, Option.some.injEq, exists_eq_left', aput_same, aclr_none, aclr_int, aclr_ref, aclr_null, aret_some, aret_none, bz, bz0, bz1, true_and, and_true, vpT, nIc, nI_add, pk_mul, nI_sub', Nat.add_zero, Nat.zero_add, upd_same, upd_ne, if_false, not_true_eq_false, not_false_eq_true, ite_z, ite_o, eq_self, Bool.false_eq_true, nI_leT, nI_leF, nI_ltT, nI_ltF, nI_ne, and_self, false_and, and_false, nI_rem]
    exact K2
  · have ge : (nI c = nI 6) = False := nI_ne g6 (by omega) (by omega)
    have hw := lwF_lt (xx >>> (nI 9 &&& 31)) (show 0 < 16 by decide)
    have hmt : mTk st (nI s) = bt (st 16) s := mTk_bt st (by omega)
    have hin : inR (nI s) 0 7 ∧ inR (nI (lwF (xx >>> (nI 9 &&& 31)) 16)) 0 15 := ⟨of_eq_true (inR_T (by omega) (by decide)), of_eq_true (inR_T (by omega) (by decide))⟩
    simp (disch := omega) only [sL_law_368, sL_law_368n, sL_law_369, sL_law_370, sL_law_371, sL_law_373, sL_law_376, sL_law_379, sL_law_381, sL_law_383, sL_law_384, sL_law_386, sL_law_389, sL_law_391, sL_law_393, sL_law_395, sL_law_396, rq, hq1, ge, l_low, aFld, aFds, aRow, aRowR, aRefs, aLn, if_true, List.getElem?_cons_zero, List.getElem?_cons_succ, List.set_cons_zero, List.set_cons_succ, List.length_cons, List.length_nil, Option.some.injEq, exists_eq_left', aput_same, aclr_none, aclr_int, aclr_ref, aclr_null, aret_some, aret_none, bz, bz0, bz1, true_and, and_true, vpT, nIc, nI_add, pk_mul, nI_sub', Nat.add_zero, Nat.zero_add, upd_same, upd_ne, if_false, not_true_eq_false, not_false_eq_true, ite_z, ite_o, eq_self, Bool.false_eq_true, nI_leT, nI_leF, nI_ltT, nI_ltF, nI_ne, and_self, false_and, and_false, nI_rem]
    refine k_can hP hR hK.1 hc h6 hs c 0 (bt (st 16) s = true) (by omega) ⟨fun z => ⟨z, rfl⟩, fun z => z.1⟩ ?_
    by_cases g : bt (st 16) s = true ∧ mAlbOf st (nI s) c = -6
    · have hv : mWBeg st (nI s) (nI (lwF (xx >>> (nI 9 &&& 31)) 16)) c = nI 0 := by
        unfold mWBeg
        rw [if_pos hin, if_neg (by omega), if_pos ⟨by rw [hmt]; exact g.1, g.2⟩]
      rw [if_pos g]
      simp (disch := omega) only [sL_law_448, sL_law_448n, sL_law_449, sL_law_451, sL_law_453, hI, aFld, aFds, aRow, aRowR, aRefs, aLn, if_true, List.getElem?_cons_zero, List.getElem?_cons_succ, List.set_cons_zero, List.set_cons_succ, List.length_cons, List.length_nil, Option.some.injEq, exists_eq_left', aput_same, aclr_none, aclr_int, aclr_ref, aclr_null, aret_some, aret_none, bz, bz0, bz1, true_and, and_true, vpT, nIc, nI_add, pk_mul, nI_sub', Nat.add_zero, Nat.zero_add, upd_same, upd_ne, if_false, not_true_eq_false, not_false_eq_true, ite_z, ite_o, eq_self, Bool.false_eq_true, nI_leT, nI_leF, nI_ltT, nI_ltF, nI_ne, and_self, false_and, and_false, nI_rem]
      refine c_begin hP.1 hK hc (by omega) (by omega) (by omega) hv (fun σ2 hC2 k2' e2 => ?_)
      have hP2 := HP_cls hb hP hC2 k2' e2
      have rq2 := HP_r0 hP2
      have ral2 := HP_r4 hP2
      have rpa2 := HP_r5 hP2
      have hP3 := HP_w5 (f := upd fpa (8 * c) (nI (10000 * s + lwF (xx >>> (nI 9 &&& 31)) 16))) hb (HP_w0 (f := upd fq 1 (nI (c + 1))) hb (HP_w4 (f := upd (upd (upd (upd fal (4 * c) (nI s)) (4 * c + 1) (nI 1)) (4 * c + 2) (nI 0)) (4 * c + 3) (-6)) hb hP2))
      have hKK := K _ (some (.int (nI (lwF (xx >>> (nI 9 &&& 31)) 16)))) (some (.int (nI 1))) (some (.int (nI (4 * c)))) ⟨_, _, _, _, _, _, _, _, _, _, c + 1, hP3, LwR_beg hK.1 hc (by omega) hs hw hR, mBeg_K hK hc (by omega) (by omega) (by omega) hv, mBeg_34 st c s _, by omega⟩ e2
      simp (disch := omega) only [sL_law_456, sL_law_458, sL_law_461, sL_law_461n, sL_law_462, sL_law_463, sL_law_464, sL_law_467, sL_law_469, sL_law_472, sL_law_473, sL_law_474, sL_law_476, sL_law_479, sL_law_480, sL_law_480n, sL_law_481, sL_law_482, sL_law_483, sL_law_484, sL_law_486, sL_law_486n, sL_law_488, sL_law_490, sL_law_492, sL_law_493, sL_law_493n, sL_law_495, sL_law_497, sL_law_498, sL_law_499, sL_law_500, sL_law_501, sL_law_501n, sL_law_503, sL_law_505, sL_law_506, sL_law_507, sL_law_508, sL_law_509, sL_law_509n, sL_law_511, sL_law_513, sL_law_514, sL_law_515, sL_law_517, sL_law_518, sL_law_518n, sL_law_520, sL_law_522, sL_law_522n, sL_law_523, sL_law_524, sL_law_525, sL_law_526, sL_law_527, sL_law_528, sL_law_529, sL_law_530, sL_law_531, sL_law_534, sL_law_536, sL_law_537, sL_law_539, sL_law_540, sL_law_541, rq2, ral2, rpa2, hq1, aput_ne, aput_twice, aFld, aFds, aRow, aRowR, aRefs, aLn, if_true, List.getElem?_cons_zero, List.getElem?_cons_succ, List.set_cons_zero, List.set_cons_succ, List.length_cons, List.length_nil, Option.some.injEq, exists_eq_left', aput_same, aclr_none, aclr_int, aclr_ref, aclr_null, aret_some, aret_none, bz, bz0, bz1, true_and, and_true, vpT, nIc, nI_add, pk_mul, nI_sub', Nat.add_zero, Nat.zero_add, upd_same, upd_ne, if_false, not_true_eq_false, not_false_eq_true, ite_z, ite_o, eq_self, Bool.false_eq_true, nI_leT, nI_leF, nI_ltT, nI_ltF, nI_ne, and_self, false_and, and_false, nI_rem]
      exact hKK
    · have hv : mWBeg st (nI s) (nI (lwF (xx >>> (nI 9 &&& 31)) 16)) c = -5 := by
        unfold mWBeg
        rw [if_pos hin, if_neg (by omega), if_neg (fun z => g ⟨by rw [← hmt]; exact z.1, z.2⟩)]
      rw [if_neg g]
      simp (disch := omega) only [sL_law_448, sL_law_448n, sL_law_449, sL_law_451, sL_law_453, hI, aFld, aFds, aRow, aRowR, aRefs, aLn, if_true, List.getElem?_cons_zero, List.getElem?_cons_succ, List.set_cons_zero, List.set_cons_succ, List.length_cons, List.length_nil, Option.some.injEq, exists_eq_left', aput_same, aclr_none, aclr_int, aclr_ref, aclr_null, aret_some, aret_none, bz, bz0, bz1, true_and, and_true, vpT, nIc, nI_add, pk_mul, nI_sub', Nat.add_zero, Nat.zero_add, upd_same, upd_ne, if_false, not_true_eq_false, not_false_eq_true, ite_z, ite_o, eq_self, Bool.false_eq_true, nI_leT, nI_leF, nI_ltT, nI_ltF, nI_ne, and_self, false_and, and_false, nI_rem]
      refine c_beginE hP.1 hK hc (by omega) hv (fun σ2 hC2 k2' e2 => ?_)
      have hP2 := HP_cls hb hP hC2 k2' e2
      have hKK := K σ2 (some (.int (nI (lwF (xx >>> (nI 9 &&& 31)) 16)))) (some (.int (nI 0))) (some (.int (nI c))) ⟨_, _, _, _, _, _, _, _, _, _, c, hP2, hR, hK, hc, h6⟩ e2
      simp (disch := omega) only [sL_law_456, sL_law_458, sL_law_461, sL_law_461n, sL_law_462, sL_law_463, sL_law_464, sL_law_467, sL_law_469, sL_law_472, sL_law_473, sL_law_474, sL_law_476, sL_law_479, sL_law_480, sL_law_480n, sL_law_481, sL_law_482, sL_law_483, sL_law_484, sL_law_486, sL_law_486n, sL_law_488, sL_law_490, sL_law_492, sL_law_493, sL_law_493n, sL_law_495, sL_law_497, sL_law_498, sL_law_499, sL_law_500, sL_law_501, sL_law_501n, sL_law_503, sL_law_505, sL_law_506, sL_law_507, sL_law_508, sL_law_509, sL_law_509n, sL_law_511, sL_law_513, sL_law_514, sL_law_515, sL_law_517, sL_law_518, sL_law_518n, sL_law_520, sL_law_522, sL_law_522n, sL_law_523, sL_law_524, sL_law_525, sL_law_526, sL_law_527, sL_law_528, sL_law_529, sL_law_530, sL_law_531, sL_law_534, sL_law_536, sL_law_537, sL_law_539, sL_law_540, sL_law_541, aFld, aFds, aRow, aRowR, aRefs, aLn, if_true, List.getElem?_cons_zero, List.getElem?_cons_succ, List.set_cons_zero, List.set_cons_succ, List.length_cons, List.length_nil, Option.some.injEq, exists_eq_left', aput_same, aclr_none, aclr_int, aclr_ref, aclr_null, aret_some, aret_none, bz, bz0, bz1, true_and, and_true, vpT, nIc, nI_add, pk_mul, nI_sub', Nat.add_zero, Nat.zero_add, upd_same, upd_ne, if_false, not_true_eq_false, not_false_eq_true, ite_z, ite_o, eq_self, Bool.false_eq_true, nI_leT, nI_leF, nI_ltT, nI_ltF, nI_ne, and_self, false_and, and_false, nI_rem]
      exact hKK
end KB
