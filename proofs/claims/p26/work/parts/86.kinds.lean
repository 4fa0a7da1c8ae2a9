/-! THE LAW: a turn: sit, leave, teach, tell -/
theorem LwR_env {fq fwo fdr fpt fal fpa st fq' fwo' fdr' st' : Nat → Int32} {c : Nat} (hok : mOK st) (hc : st 34 = nI c) (h6 : c ≤ 6) (hR : LwR fq fwo fdr fpt fal fpa st c) (h0 : fq' 0 = st' 16) (h1 : fq' 1 = fq 1) (h2 : fq' 2 = fq 2) (hw : ∀ w, w < 16 → fwo' w = st' w) (hd : ∀ s, s < 8 → fdr' s = st' (17 + s)) (hh : ∀ k, 25 ≤ k → st' k = st k) : LwR fq' fwo' fdr' fpt fal fpa st' c := by
  obtain ⟨r0, r1, r2, r3, r4, r5, r6⟩ := hR
  refine ⟨h0, h1.trans r1, by rw [h2, hh 33 (by omega)]; exact r2, hw, hd, fun s hs => by rw [hh _ (by omega)]; exact r5 s hs, fun a ha => ?_⟩
  exact AlR_cong (mOK_b hok hc (by omega) ha) (fun i hi => hh _ (by omega)) (fun i hi => rfl) (fun i hi => rfl) (r6 a ha)
theorem xor_an : ∀ x, x < 256 → ∀ s, s < 8 → bt (nI x) s = true → nI x ^^^ nI 1 <<< (nI s &&& 31) = nI x &&& (nI 1 <<< (nI s &&& 31) ^^^ -1) := by decide +kernel
section KI
variable {d b L x t c s : Nat} {xs : Nat → Int32} {Q : aQ} {σ : aS} {xx v13 v15 v16 : Int32} {l13 l14 l15 l16 l17 l18 l19 : Option Value} {fq fwo fdr fpt fal fpa f2 g2 k2 st : Nat → Int32}
theorem k_sit (hb : b < x) (hP : HP σ b L xs x fq fwo fdr fpt fal fpa f2 g2 k2 st) (hR : LwR fq fwo fdr fpt fal fpa st c) (hK : mK st) (hc : st 34 = nI c) (h6 : c ≤ 6) (hs : s < 8) (K : ∀ τ l17, LaE τ b L xs x → τ.2 = σ.2 → aX (d + 9) iL_law 993 [some (.ref b), some (.ref x), some (.ref (x + 423)), some (.ref (x + 424)), some (.ref (x + 425)), some (.ref (x + 426)), some (.ref (x + 427)), some (.ref (x + 428)), some (.ref (x + 429)), some (.ref (x + 430)), some (.ref (x + 431)), some (.int (nI t)), some (.int xx), l13, some (.int (nI s)), l15, some (.int v16), l17, l18, l19] [] τ Q) : aX (d + 9) iL_law 219 [some (.ref b), some (.ref x), some (.ref (x + 423)), some (.ref (x + 424)), some (.ref (x + 425)), some (.ref (x + 426)), some (.ref (x + 427)), some (.ref (x + 428)), some (.ref (x + 429)), some (.ref (x + 430)), some (.ref (x + 431)), some (.int (nI t)), some (.int xx), l13, some (.int (nI s)), l15, some (.int v16), l17, l18, l19] [] σ Q := by
  have rq := HP_r0 hP
  have rdr := HP_r2 hP
  obtain ⟨z, hz, hz2⟩ := hK.1.1.2.1
  obtain ⟨y, hy, hy2⟩ := or_256 z hz2 s hs
  have hq0 := hR.1
  have hbits : ∃ v, st 16 ||| nI 1 <<< (nI s &&& 31) = nI v ∧ v < 4096 := ⟨y, by rw [hz]; exact hy, by omega⟩
  have bb := fun (τ : aS) (Q : aQ) => l_bits (d := d + 8) (σ := τ) (Q := Q) hbits
  have main : ∀ (f : Int32), mWSat (nI s) f = nI 0 → ∀ (g : Nat → Int32), g = upd fdr s (if f = -6 then fdr s else f) → aX (d + 9) iL_law 279 [some (.ref b), some (.ref x), some (.ref (x + 423)), some (.ref (x + 424)), some (.ref (x + 425)), some (.ref (x + 426)), some (.ref (x + 427)), some (.ref (x + 428)), some (.ref (x + 429)), some (.ref (x + 430)), some (.ref (x + 431)), some (.int (nI t)), some (.int xx), l13, some (.int (nI s)), l15, some (.int v16), some (.int f), l18, l19] [] (aput (aput σ (x + 423) (eI 3 (upd fq 0 (st 16 ||| nI 1 <<< (nI s &&& 31))))) (x + 425) (eI 8 g)) Q := by
    intro f hf g hg
    have hP1 : HP (aput (aput σ (x + 423) (eI 3 (upd fq 0 (st 16 ||| nI 1 <<< (nI s &&& 31))))) (x + 425) (eI 8 g)) b L xs x (upd fq 0 (st 16 ||| nI 1 <<< (nI s &&& 31))) fwo g fpt fal fpa f2 g2 k2 st := HP_w2 hb (HP_w0 hb hP)
    have hI := aIsT hP1.1.1
    simp (disch := omega) only [sL_law_279, sL_law_279n, sL_law_280, sL_law_282, sL_law_284, hI, aFld, aFds, aRow, aRowR, aRefs, aLn, if_true, List.getElem?_cons_zero, List.getElem?_cons_succ, List.set_cons_zero, List.set_cons_succ, List.length_cons, List.length_nil, Option.some.injEq, exists_eq_left', aput_same, aclr_none, aclr_int, aclr_ref, aclr_null, aret_some, aret_none, bz, bz0, bz1, true_and, and_true, vpT, nIc, nI_add, pk_mul, nI_sub', Nat.add_zero, Nat.zero_add, upd_same, upd_ne, if_false, not_true_eq_false, not_false_eq_true, ite_z, ite_o, eq_self, Bool.false_eq_true, nI_leT, nI_leF, nI_ltT, nI_ltF, nI_ne, and_self, false_and, and_false, nI_rem]
    refine c_sit hP1.1 hK.1 (by omega) hf (fun σ2 hC2 k2' e2 => ?_)
    have hP2 := HP_cls hb hP1 hC2 k2' e2
    have rq2 := HP_r0 hP2
    have hR2 : LwR (upd fq 0 (st 16 ||| nI 1 <<< (nI s &&& 31))) fwo g fpt fal fpa (mSat st s f) c := by
      refine LwR_env hK.1 hc h6 hR ?_ (upd_ne (by omega)) (upd_ne (by omega)) (fun w hw => ?_) (fun j hj => ?_) (fun k hk => mSat_hi (by omega) hk)
      · unfold mSat
        rw [upd_same, upd_ne (by omega), upd_same]
      · unfold mSat
        rw [upd_ne (by omega), upd_ne (by omega)]
        exact hR.2.2.2.1 w hw
      · subst hg
        unfold mSat
        by_cases e : j = s
        · subst e
          rw [upd_same, upd_same, hR.2.2.2.2.1 j hj]
        · rw [upd_ne e, upd_ne (by omega), upd_ne (by omega)]
          exact hR.2.2.2.2.1 j hj
    have hKK := K σ2 (some (.int f)) ⟨_, _, _, _, _, _, _, _, _, _, c, hP2, hR2, mSat_K hK (by omega) hf, by rw [mSat_hi (by omega) (by omega)]; exact hc, h6⟩ e2
    simp (disch := omega) only [sL_law_287, sL_law_287n, sL_law_288, sL_law_289, sL_law_290, sL_law_293, sL_law_296, sL_law_297, sL_law_298, rq2, bb, aFld, aFds, aRow, aRowR, aRefs, aLn, if_true, List.getElem?_cons_zero, List.getElem?_cons_succ, List.set_cons_zero, List.set_cons_succ, List.length_cons, List.length_nil, Option.some.injEq, exists_eq_left', aput_same, aclr_none, aclr_int, aclr_ref, aclr_null, aret_some, aret_none, bz, bz0, bz1, true_and, and_true, vpT, nIc, nI_add, pk_mul, nI_sub', Nat.add_zero, Nat.zero_add, upd_same, upd_ne, if_false, not_true_eq_false, not_false_eq_true, ite_z, ite_o, eq_self, Bool.false_eq_true, nI_leT, nI_leF, nI_ltT, nI_ltF, nI_ne, and_self, false_and, and_false, nI_rem]
    exact hKK
  by_cases g : nI (lwF (xx >>> (nI 8 &&& 31)) 3) = nI 0
  · have hv := lwF_lt (xx >>> (nI 9 &&& 31)) (show 0 < 4096 by decide)
    have hM := main (nI (lwF (xx >>> (nI 9 &&& 31)) 4096)) (by
      unfold mWSat
      rw [if_pos (of_eq_true (inR_T (show s ≤ 7 by omega) (by decide))), if_neg (by rw [nI_neg6 (by omega)]; exact id), if_pos (of_eq_true (inR_T (show lwF (xx >>> (nI 9 &&& 31)) 4096 ≤ 4095 by omega) (by decide)))]) _ rfl
    rw [if_neg (by rw [nI_neg6 (by omega)]; exact id)] at hM
    simp (disch := omega) only [sL_law_219, sL_law_221, sL_law_223, sL_law_224, sL_law_225, sL_law_228, sL_law_231, sL_law_233, sL_law_235, sL_law_236, sL_law_239, sL_law_242, sL_law_245, sL_law_247, sL_law_249, sL_law_249n, sL_law_250, sL_law_251, sL_law_252, sL_law_253, sL_law_254, sL_law_256, sL_law_257, sL_law_258, sL_law_259, sL_law_259n, sL_law_261, sL_law_263, sL_law_265, sL_law_268, sL_law_268n, sL_law_270, sL_law_272, sL_law_273, sL_law_276, sL_law_278, rq, rdr, hq0, l_low, g, aput_ne, aFld, aFds, aRow, aRowR, aRefs, aLn, if_true, List.getElem?_cons_zero, List.getElem?_cons_succ, List.set_cons_zero, List.set_cons_succ, List.length_cons, List.length_nil, Option.some.injEq, exists_eq_left', aput_same, aclr_none, aclr_int, aclr_ref, aclr_null, aret_some, aret_none, bz, bz0, bz1, true_and, and_true, vpT, nIc, nI_add, pk_mul, nI_sub', Nat.add_zero, Nat.zero_add, upd_same, upd_ne, if_false, not_true_eq_false, not_false_eq_true, ite_z, ite_o, eq_self, Bool.false_eq_true, nI_leT, nI_leF, nI_ltT, nI_ltF, nI_ne, and_self, false_and, and_false, nI_rem]
    exact hM
  · have h6' : (nI 0 ≤ (-6 : Int32)) = False := eq_false (by decide)
    have hM := main (-6) (by
      unfold mWSat
      rw [if_pos (of_eq_true (inR_T (show s ≤ 7 by omega) (by decide))), if_pos rfl]) _ rfl
    rw [if_pos rfl] at hM
    simp (disch := omega) only [sL_law_219, sL_law_221, sL_law_223, sL_law_224, sL_law_225, sL_law_228, sL_law_231, sL_law_233, sL_law_235, sL_law_236, sL_law_239, sL_law_242, sL_law_245, sL_law_247, sL_law_249, sL_law_249n, sL_law_250, sL_law_251, sL_law_252, sL_law_253, sL_law_254, sL_law_256, sL_law_257, sL_law_258, sL_law_259, sL_law_259n, sL_law_261, sL_law_263, sL_law_265, sL_law_268, sL_law_268n, sL_law_270, sL_law_272, sL_law_273, sL_law_276, sL_law_278, rq, rdr, hq0, l_low, g, h6', aput_ne, aFld, aFds, aRow, aRowR, aRefs, aLn, if_true, List.getElem?_cons_zero, List.getElem?_cons_succ, List.set_cons_zero, List.set_cons_succ, List.length_cons, List.length_nil, Option.some.injEq, exists_eq_left', aput_same, aclr_none, aclr_int, aclr_ref, aclr_null, aret_some, aret_none, bz, bz0, bz1, true_and, and_true, vpT, nIc, nI_add, pk_mul, nI_sub', Nat.add_zero, Nat.zero_add, upd_same, upd_ne, if_false, not_true_eq_false, not_false_eq_true, ite_z, ite_o, eq_self, Bool.false_eq_true, nI_leT, nI_leF, nI_ltT, nI_ltF, nI_ne, and_self, false_and, and_false, nI_rem]
    exact hM
theorem k_leave (hb : b < x) (hP : HP σ b L xs x fq fwo fdr fpt fal fpa f2 g2 k2 st) (hR : LwR fq fwo fdr fpt fal fpa st c) (hK : mK st) (hc : st 34 = nI c) (h6 : c ≤ 6) (hs : s < 8) (K : ∀ τ, LaE τ b L xs x → τ.2 = σ.2 → aX (d + 9) iL_law 993 [some (.ref b), some (.ref x), some (.ref (x + 423)), some (.ref (x + 424)), some (.ref (x + 425)), some (.ref (x + 426)), some (.ref (x + 427)), some (.ref (x + 428)), some (.ref (x + 429)), some (.ref (x + 430)), some (.ref (x + 431)), some (.int (nI t)), some (.int xx), l13, some (.int (nI s)), some (.int (if bt (st 16) s = true then nI 1 else nI 0)), l16, l17, l18, l19] [] τ Q) : aX (d + 9) iL_law 319 [some (.ref b), some (.ref x), some (.ref (x + 423)), some (.ref (x + 424)), some (.ref (x + 425)), some (.ref (x + 426)), some (.ref (x + 427)), some (.ref (x + 428)), some (.ref (x + 429)), some (.ref (x + 430)), some (.ref (x + 431)), some (.int (nI t)), some (.int xx), l13, some (.int (nI s)), some (.int (if bt (st 16) s = true then nI 1 else nI 0)), l16, l17, l18, l19] [] σ Q := by
  have rq := HP_r0 hP
  have hq0 := hR.1
  have hI := aIsT hP.1.1
  by_cases g : bt (st 16) s = true
  · rw [if_pos g] at K ⊢
    obtain ⟨z, hz, hz2⟩ := hK.1.1.2.1
    obtain ⟨y, hy, hy2⟩ := an_256 z hz2 s hs
    have hx := xor_an z hz2 s hs (by rw [← hz]; exact g)
    rw [← hz] at hx hy
    have bb := fun (τ : aS) (Q : aQ) => l_bits (d := d + 8) (σ := τ) (Q := Q) ⟨y, hy, by omega⟩
    have ht : mTk st (nI s) = true := by rw [mTk_bt st (by omega)]; exact g
    have hP1 : HP (aput σ (x + 423) (eI 3 (upd fq 0 (st 16 &&& (nI 1 <<< (nI s &&& 31) ^^^ -1))))) b L xs x (upd fq 0 (st 16 &&& (nI 1 <<< (nI s &&& 31) ^^^ -1))) fwo fdr fpt fal fpa f2 g2 k2 st := HP_w0 hb hP
    have hI1 := aIsT hP1.1.1
    simp (disch := omega) only [sL_law_319, sL_law_321, sL_law_324, sL_law_324n, sL_law_325, sL_law_326, sL_law_327, sL_law_328, sL_law_329, sL_law_331, sL_law_332, sL_law_333, sL_law_334, sL_law_334n, sL_law_335, sL_law_337, rq, hq0, hx, hI1, aFld, aFds, aRow, aRowR, aRefs, aLn, if_true, List.getElem?_cons_zero, List.getElem?_cons_succ, List.set_cons_zero, List.set_cons_succ, List.length_cons, List.length_nil, Option.some.injEq, exists_eq_left', aput_same, aclr_none, aclr_int, aclr_ref, aclr_null, aret_some, aret_none, bz, bz0, bz1, true_and, and_true, vpT, nIc, nI_add, pk_mul, nI_sub', Nat.add_zero, Nat.zero_add, upd_same, upd_ne, if_false, not_true_eq_false, not_false_eq_true, ite_z, ite_o, eq_self, Bool.false_eq_true, nI_leT, nI_leF, nI_ltT, nI_ltF, nI_ne, and_self, false_and, and_false, nI_rem]
    refine c_leave hP1.1 hK.1 (by omega) ht (fun σ2 hC2 k2' e2 => ?_)
    have hP2 := HP_cls hb hP1 hC2 k2' e2
    have rq2 := HP_r0 hP2
    have hR2 : LwR (upd fq 0 (st 16 &&& (nI 1 <<< (nI s &&& 31) ^^^ -1))) fwo fdr fpt fal fpa (mLeft st s) c := by
      refine LwR_env hK.1 hc h6 hR ?_ (upd_ne (by omega)) (upd_ne (by omega)) (fun w hw => ?_) (fun j hj => ?_) (fun k hk => mLeft_hi hk)
      · unfold mLeft
        rw [upd_same, upd_same]
      · unfold mLeft
        rw [upd_ne (by omega)]
        exact hR.2.2.2.1 w hw
      · unfold mLeft
        rw [upd_ne (by omega)]
        exact hR.2.2.2.2.1 j hj
    have hKK := K σ2 ⟨_, _, _, _, _, _, _, _, _, _, c, hP2, hR2, mLeft_K hK (by omega), by rw [mLeft_hi (by omega)]; exact hc, h6⟩ e2
    simp (disch := omega) only [sL_law_340, sL_law_342, sL_law_345, sL_law_345n, sL_law_346, sL_law_347, sL_law_348, sL_law_351, sL_law_354, sL_law_356, rq2, bb, aFld, aFds, aRow, aRowR, aRefs, aLn, if_true, List.getElem?_cons_zero, List.getElem?_cons_succ, List.set_cons_zero, List.set_cons_succ, List.length_cons, List.length_nil, Option.some.injEq, exists_eq_left', aput_same, aclr_none, aclr_int, aclr_ref, aclr_null, aret_some, aret_none, bz, bz0, bz1, true_and, and_true, vpT, nIc, nI_add, pk_mul, nI_sub', Nat.add_zero, Nat.zero_add, upd_same, upd_ne, if_false, not_true_eq_false, not_false_eq_true, ite_z, ite_o, eq_self, Bool.false_eq_true, nI_leT, nI_leF, nI_ltT, nI_ltF, nI_ne, and_self, false_and, and_false, nI_rem]
    exact hKK
  · rw [if_neg g] at K ⊢
    have ht : mTk st (nI s) = false := by rw [mTk_bt st (by omega)]; exact Bool.eq_false_iff.mpr g
    simp (disch := omega) only [sL_law_319, sL_law_321, sL_law_324, sL_law_324n, sL_law_325, sL_law_326, sL_law_327, sL_law_328, sL_law_329, sL_law_331, sL_law_332, sL_law_333, sL_law_334, sL_law_334n, sL_law_335, sL_law_337, hI, aFld, aFds, aRow, aRowR, aRefs, aLn, if_true, List.getElem?_cons_zero, List.getElem?_cons_succ, List.set_cons_zero, List.set_cons_succ, List.length_cons, List.length_nil, Option.some.injEq, exists_eq_left', aput_same, aclr_none, aclr_int, aclr_ref, aclr_null, aret_some, aret_none, bz, bz0, bz1, true_and, and_true, vpT, nIc, nI_add, pk_mul, nI_sub', Nat.add_zero, Nat.zero_add, upd_same, upd_ne, if_false, not_true_eq_false, not_false_eq_true, ite_z, ite_o, eq_self, Bool.false_eq_true, nI_leT, nI_leF, nI_ltT, nI_ltF, nI_ne, and_self, false_and, and_false, nI_rem]
    refine c_leaveE hP.1 hK.1 (by omega) ht (fun σ2 hC2 k2' e2 => ?_)
    have hP2 := HP_cls hb hP hC2 k2' e2
    have hKK := K σ2 ⟨_, _, _, _, _, _, _, _, _, _, c, hP2, hR, hK, hc, h6⟩ e2
    simp (disch := omega) only [sL_law_340, sL_law_342, sL_law_345, sL_law_345n, sL_law_346, sL_law_347, sL_law_348, sL_law_351, sL_law_354, sL_law_356, aFld, aFds, aRow, aRowR, aRefs, aLn, if_true, List.getElem?_cons_zero, List.getElem?_cons_succ, List.set_cons_zero, List.set_cons_succ, List.length_cons, List.length_nil, Option.some.injEq, exists_eq_left', aput_same, aclr_none, aclr_int, aclr_ref, aclr_null, aret_some, aret_none, bz, bz0, bz1, true_and, and_true, vpT, nIc, nI_add, pk_mul, nI_sub', Nat.add_zero, Nat.zero_add, upd_same, upd_ne, if_false, not_true_eq_false, not_false_eq_true, ite_z, ite_o, eq_self, Bool.false_eq_true, nI_leT, nI_leF, nI_ltT, nI_ltF, nI_ne, and_self, false_and, and_false, nI_rem]
    exact hKK
theorem k_teach (hb : b < x) (hP : HP σ b L xs x fq fwo fdr fpt fal fpa f2 g2 k2 st) (hR : LwR fq fwo fdr fpt fal fpa st c) (hK : mK st) (hc : st 34 = nI c) (h6 : c ≤ 6) (K : ∀ τ l17 l18, LaE τ b L xs x → τ.2 = σ.2 → aX (d + 9) iL_law 993 [some (.ref b), some (.ref x), some (.ref (x + 423)), some (.ref (x + 424)), some (.ref (x + 425)), some (.ref (x + 426)), some (.ref (x + 427)), some (.ref (x + 428)), some (.ref (x + 429)), some (.ref (x + 430)), some (.ref (x + 431)), some (.int (nI t)), some (.int xx), l13, l14, l15, some (.int v16), l17, l18, l19] [] τ Q) : aX (d + 9) iL_law 698 [some (.ref b), some (.ref x), some (.ref (x + 423)), some (.ref (x + 424)), some (.ref (x + 425)), some (.ref (x + 426)), some (.ref (x + 427)), some (.ref (x + 428)), some (.ref (x + 429)), some (.ref (x + 430)), some (.ref (x + 431)), some (.int (nI t)), some (.int xx), l13, l14, l15, some (.int v16), l17, l18, l19] [] σ Q := by
  have hI := aIsT hP.1.1
  have hw := lwF_lt (xx >>> (nI 4 &&& 31)) (show 0 < 16 by decide)
  have hv := lwF_lt (xx >>> (nI 8 &&& 31)) (show 0 < 4096 by decide)
  simp (disch := omega) only [sL_law_698, sL_law_700, sL_law_701, sL_law_702, sL_law_704, sL_law_707, sL_law_709, sL_law_711, sL_law_713, sL_law_714, sL_law_717, sL_law_720, sL_law_722, sL_law_722n, sL_law_723, sL_law_725, sL_law_727, hI, l_low, aFld, aFds, aRow, aRowR, aRefs, aLn, if_true, List.getElem?_cons_zero, List.getElem?_cons_succ, List.set_cons_zero, List.set_cons_succ, List.length_cons, List.length_nil, Option.some.injEq, exists_eq_left', aput_same, aclr_none, aclr_int, aclr_ref, aclr_null, aret_some, aret_none, bz, bz0, bz1, true_and, and_true, vpT, nIc, nI_add, pk_mul, nI_sub', Nat.add_zero, Nat.zero_add, upd_same, upd_ne, if_false, not_true_eq_false, not_false_eq_true, ite_z, ite_o, eq_self, Bool.false_eq_true, nI_leT, nI_leF, nI_ltT, nI_ltF, nI_ne, and_self, false_and, and_false, nI_rem]
  refine c_teach hP.1 hK.1 (by omega) (by omega) (fun σ2 hC2 k2' e2 => ?_)
  have hP2 := HP_cls hb hP hC2 k2' e2
  have rwo := HP_r1 hP2
  have hww := hR.2.2.2.1 _ hw
  have hP3 := HP_w1 (f := upd fwo (lwF (xx >>> (nI 4 &&& 31)) 16) (nI (lwF (xx >>> (nI 8 &&& 31)) 4096))) hb hP2
  have hR2 : LwR fq (upd fwo (lwF (xx >>> (nI 4 &&& 31)) 16) (nI (lwF (xx >>> (nI 8 &&& 31)) 4096))) fdr fpt fal fpa (upd st (lwF (xx >>> (nI 4 &&& 31)) 16) (nI (lwF (xx >>> (nI 8 &&& 31)) 4096))) c := by
    refine LwR_env hK.1 hc h6 hR ?_ rfl rfl (fun w hw' => ?_) (fun j hj => ?_) (fun k hk => upd_ne (by omega))
    · rw [upd_ne (by omega)]; exact hR.1
    · by_cases e : w = lwF (xx >>> (nI 4 &&& 31)) 16
      · subst e; rw [upd_same, upd_same]
      · rw [upd_ne e, upd_ne e]; exact hR.2.2.2.1 w hw'
    · rw [upd_ne (by omega)]; exact hR.2.2.2.2.1 j hj
  have hKK := K _ (some (.int (nI (lwF (xx >>> (nI 4 &&& 31)) 16)))) (some (.int (nI (lwF (xx >>> (nI 8 &&& 31)) 4096)))) ⟨_, _, _, _, _, _, _, _, _, _, c, hP3, hR2, mTeach_K hK (by omega) (by omega), by rw [upd_ne (by omega)]; exact hc, h6⟩ e2
  simp (disch := omega) only [sL_law_730, sL_law_730n, sL_law_731, sL_law_733, sL_law_734, sL_law_737, sL_law_738, sL_law_739, sL_law_739n, sL_law_740, sL_law_742, sL_law_744, sL_law_745, rwo, hww, aFld, aFds, aRow, aRowR, aRefs, aLn, if_true, List.getElem?_cons_zero, List.getElem?_cons_succ, List.set_cons_zero, List.set_cons_succ, List.length_cons, List.length_nil, Option.some.injEq, exists_eq_left', aput_same, aclr_none, aclr_int, aclr_ref, aclr_null, aret_some, aret_none, bz, bz0, bz1, true_and, and_true, vpT, nIc, nI_add, pk_mul, nI_sub', Nat.add_zero, Nat.zero_add, upd_same, upd_ne, if_false, not_true_eq_false, not_false_eq_true, ite_z, ite_o, eq_self, Bool.false_eq_true, nI_leT, nI_leF, nI_ltT, nI_ltF, nI_ne, and_self, false_and, and_false, nI_rem]
  exact hKK
end KI
