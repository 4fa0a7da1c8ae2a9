/-! THE LAW: what will be: all albums, the points then -/
theorem fore_at {st : Nat → Int32} {a c n : Nat} (hok : mOK st) (hc : st 34 = nI c) (h12 : c ≤ 12) (ha : a < c) (hn : bN (bEnd st 9 (bk st a)) = n) : mForeA st a c 0 = bEnd st 9 (bk st a) (4 + 3 * ((n - 1) / 2 * 2) + 1) ∧ mForeA st a c 1 = nI n ∧ mForeA st a c 2 = nI (bEndN st 9 (bk st a)) ∧ mForeA st a c 3 = bEnd st 9 (bk st a) 2 := by
  obtain ⟨m1, m2⟩ := mFo_bk h12 ha 9 st hok hc
  have hbE := bEnd_ok hok.1 9 _ (mOK_b hok hc h12 ha)
  obtain ⟨m, n1, n2, n3, -⟩ := id hbE
  have em := bOK_N n1 n3
  have mN : bN (bk (mFo a c 9 st) a) = n := by rw [bN_cong m1]; exact hn
  refine ⟨?_, ?_, ?_, ?_⟩
  · rw [← m1 _ (by omega)]
    unfold mForeA
    simp only []
    rw [mN]
    rfl
  · rw [← hn, em, ← n1, ← m1 1 (by omega)]
    rfl
  · rw [← m2]
    rfl
  · rw [← m1 2 (by omega)]
    rfl
section WF
variable {d x c : Nat} {xx : Int32} {Q : aQ} {fq fwo fdr fpt fal fpa st : Nat → Int32}
theorem w_alb (hR : LwR fq fwo fdr fpt fal fpa st c) (hok : mOK st) (hc : st 34 = nI c) (h6 : c ≤ 6) {a : Nat} (ha : a < c) {f2 g2 k2 : Nat → Int32} {l13 l14 l15 l16 l17 : Option Value} {σ : aS} (hW : WoC σ x fq fwo fdr fpt fal fpa st f2 g2 k2) (hA : AlR g2 k2 a (bEnd st 9 (bk st a))) (K : ∀ σ' l13', WoC σ' x fq fwo fdr fpt fal fpa st f2 g2 k2 → FrW σ σ' x → aX (d + 7) iL_would 81 [some (.ref x), some (.int xx), some (.ref (x + 423)), some (.ref (x + 424)), some (.ref (x + 425)), some (.ref (x + 426)), some (.ref (x + 427)), some (.ref (x + 428)), some (.ref (x + 429)), some (.ref (x + 430)), some (.ref (x + 431)), some (.int (nI (a + 1))), some (.int (nI (bEndN st 9 (bk st a)))), l13', l14, l15, l16, l17] [] σ' Q) : aX (d + 7) iL_would 125 [some (.ref x), some (.int xx), some (.ref (x + 423)), some (.ref (x + 424)), some (.ref (x + 425)), some (.ref (x + 426)), some (.ref (x + 427)), some (.ref (x + 428)), some (.ref (x + 429)), some (.ref (x + 430)), some (.ref (x + 431)), some (.int (nI a)), some (.int (nI (bEndN st 9 (bk st a)))), l13, l14, l15, l16, l17] [] σ Q := by
  have hb := bEnd_ok hok.1 9 _ (mOK_b hok hc (by omega) ha)
  have h8 := bN_8 hb
  obtain ⟨n, n1, n2, n3, -⟩ := id hb
  have eN := bOK_N n1 n3
  obtain ⟨e0, e1, e2, e3⟩ := fore_at hok hc (by omega) ha eN
  have f1 : g2 (4 * a + 1) = nI n := (hA.1 1 (by omega)).trans n1
  have f2' : g2 (4 * a + 2) = bEnd st 9 (bk st a) 2 := hA.1 2 (by omega)
  have hpar : n - 1 - (n - 1) % 2 = (n - 1) / 2 * 2 := by omega
  have hl := hA.2 ((n - 1) / 2 * 2) (by omega)
  have hllt := pE_lt hb (show (n - 1) / 2 * 2 < bN (bEnd st 9 (bk st a)) by omega)
  have hlw := pE_what hb (show (n - 1) / 2 * 2 < bN (bEnd st 9 (bk st a)) by omega)
  have hal := hW.2.2.2.1
  have hI := aIsT hW.1.1
  obtain ⟨P, hP⟩ := hW.2.1
  simp (disch := omega) only [sL_would_125, sL_would_125n, sL_would_127, sL_would_128, sL_would_130, sL_would_131, sL_would_132, sL_would_133, sL_would_134, sL_would_136, sL_would_137, sL_would_139, sL_would_140, hal, f1, hI, aFld, aFds, aRow, aRowR, aRefs, aLn, if_true, List.getElem?_cons_zero, List.getElem?_cons_succ, List.set_cons_zero, List.set_cons_succ, List.length_cons, List.length_nil, Option.some.injEq, exists_eq_left', aput_same, aclr_none, aclr_int, aclr_ref, aclr_null, aret_some, aret_none, bz, bz0, bz1, true_and, and_true, vpT, nIc, nI_add, pk_mul, nI_sub', Nat.add_zero, Nat.zero_add, upd_same, upd_ne, if_false, not_true_eq_false, not_false_eq_true, ite_z, ite_o, eq_self, Bool.false_eq_true, nI_leT, nI_leF, nI_ltT, nI_ltF, nI_ne, and_self, false_and, and_false, nI_rem]
  refine cq_fore (d := d) hW.1.1 hW.1.2.1 hP hok hc (by omega) ha (show 0 ≤ 3 by omega) (fun σ1 P1 p1 q1 => ?_)
  have W1 := WoC_fo hW p1 q1
  have hpa1 := W1.2.2.2.2
  have hI1 := aIsT W1.1.1
  simp (disch := omega) only [sL_would_143, sL_would_143n, sL_would_145, sL_would_147, sL_would_149, sL_would_150, sL_would_152, sL_would_153, sL_would_154, sL_would_156, sL_would_157, sL_would_158, sL_would_159, sL_would_160, sL_would_161, sL_would_162, sL_would_163, sL_would_166, sL_would_169, sL_would_170, sL_would_172, sL_would_173, hpa1, hpar, hl, l_what, hlw, e0, hI1, aFld, aFds, aRow, aRowR, aRefs, aLn, if_true, List.getElem?_cons_zero, List.getElem?_cons_succ, List.set_cons_zero, List.set_cons_succ, List.length_cons, List.length_nil, Option.some.injEq, exists_eq_left', aput_same, aclr_none, aclr_int, aclr_ref, aclr_null, aret_some, aret_none, bz, bz0, bz1, true_and, and_true, vpT, nIc, nI_add, pk_mul, nI_sub', Nat.add_zero, Nat.zero_add, upd_same, upd_ne, if_false, not_true_eq_false, not_false_eq_true, ite_z, ite_o, eq_self, Bool.false_eq_true, nI_leT, nI_leF, nI_ltT, nI_ltF, nI_ne, and_self, false_and, and_false, nI_rem]
  refine cq_fore (d := d) W1.1.1 W1.1.2.1 p1 hok hc (by omega) ha (show 1 ≤ 3 by omega) (fun σ2 P2 p2 q2 => ?_)
  have W2 := WoC_fo W1 p2 q2
  have hI2 := aIsT W2.1.1
  simp (disch := omega) only [sL_would_176, sL_would_178, sL_would_181, sL_would_182, sL_would_184, sL_would_185, e1, hI2, aFld, aFds, aRow, aRowR, aRefs, aLn, if_true, List.getElem?_cons_zero, List.getElem?_cons_succ, List.set_cons_zero, List.set_cons_succ, List.length_cons, List.length_nil, Option.some.injEq, exists_eq_left', aput_same, aclr_none, aclr_int, aclr_ref, aclr_null, aret_some, aret_none, bz, bz0, bz1, true_and, and_true, vpT, nIc, nI_add, pk_mul, nI_sub', Nat.add_zero, Nat.zero_add, upd_same, upd_ne, if_false, not_true_eq_false, not_false_eq_true, ite_z, ite_o, eq_self, Bool.false_eq_true, nI_leT, nI_leF, nI_ltT, nI_ltF, nI_ne, and_self, false_and, and_false, nI_rem]
  refine cq_fore (d := d) W2.1.1 W2.1.2.1 p2 hok hc (by omega) ha (show 2 ≤ 3 by omega) (fun σ3 P3 p3 q3 => ?_)
  have W3 := WoC_fo W2 p3 q3
  have hI3 := aIsT W3.1.1
  simp (disch := omega) only [sL_would_188, sL_would_190, sL_would_193, sL_would_194, sL_would_196, sL_would_197, e2, hI3, aFld, aFds, aRow, aRowR, aRefs, aLn, if_true, List.getElem?_cons_zero, List.getElem?_cons_succ, List.set_cons_zero, List.set_cons_succ, List.length_cons, List.length_nil, Option.some.injEq, exists_eq_left', aput_same, aclr_none, aclr_int, aclr_ref, aclr_null, aret_some, aret_none, bz, bz0, bz1, true_and, and_true, vpT, nIc, nI_add, pk_mul, nI_sub', Nat.add_zero, Nat.zero_add, upd_same, upd_ne, if_false, not_true_eq_false, not_false_eq_true, ite_z, ite_o, eq_self, Bool.false_eq_true, nI_leT, nI_leF, nI_ltT, nI_ltF, nI_ne, and_self, false_and, and_false, nI_rem]
  refine cq_fore (d := d) W3.1.1 W3.1.2.1 p3 hok hc (by omega) ha (show 3 ≤ 3 by omega) (fun σ4 P4 p4 q4 => ?_)
  have W4 := WoC_fo W3 p4 q4
  have hal4 := W4.2.2.2.1
  simp (disch := omega) only [sL_would_200, sL_would_200n, sL_would_202, sL_would_203, sL_would_205, sL_would_206, sL_would_207, sL_would_208, sL_would_209, sL_would_212, sL_would_213, sL_would_214, sL_would_217, hal4, f2', e3, aFld, aFds, aRow, aRowR, aRefs, aLn, if_true, List.getElem?_cons_zero, List.getElem?_cons_succ, List.set_cons_zero, List.set_cons_succ, List.length_cons, List.length_nil, Option.some.injEq, exists_eq_left', aput_same, aclr_none, aclr_int, aclr_ref, aclr_null, aret_some, aret_none, bz, bz0, bz1, true_and, and_true, vpT, nIc, nI_add, pk_mul, nI_sub', Nat.add_zero, Nat.zero_add, upd_same, upd_ne, if_false, not_true_eq_false, not_false_eq_true, ite_z, ite_o, eq_self, Bool.false_eq_true, nI_leT, nI_leF, nI_ltT, nI_ltF, nI_ne, and_self, false_and, and_false, nI_rem]
  exact K σ4 _ W4 (FrW_trans (FrW_fo q1) (FrW_trans (FrW_fo q2) (FrW_trans (FrW_fo q3) (FrW_fo q4))))
theorem w_albs (hR : LwR fq fwo fdr fpt fal fpa st c) (hok : mOK st) (hc : st 34 = nI c) (h6 : c ≤ 6) {l14 l15 l16 l17 : Option Value} : ∀ (k a : Nat) (l12 l13 : Option Value) (f2 g2 k2 : Nat → Int32) (σ : aS), a + k = c → WoC σ x fq fwo fdr fpt fal fpa st f2 g2 k2 → (∀ j, j < 8 → f2 j = st (25 + j) + mPtF st 9 j a) → (∀ a', a ≤ a' → a' < c → AlR g2 k2 a' (bk st a')) → (∀ σ' l12 l13 f2' g2' k2', WoC σ' x fq fwo fdr fpt fal fpa st f2' g2' k2' → FrW σ σ' x → (∀ j, j < 8 → f2' j = st (25 + j) + mPtF st 9 j c) → aX (d + 7) iL_would 220 [some (.ref x), some (.int xx), some (.ref (x + 423)), some (.ref (x + 424)), some (.ref (x + 425)), some (.ref (x + 426)), some (.ref (x + 427)), some (.ref (x + 428)), some (.ref (x + 429)), some (.ref (x + 430)), some (.ref (x + 431)), some (.int (nI c)), l12, l13, l14, l15, l16, l17] [] σ' Q) → aX (d + 7) iL_would 81 [some (.ref x), some (.int xx), some (.ref (x + 423)), some (.ref (x + 424)), some (.ref (x + 425)), some (.ref (x + 426)), some (.ref (x + 427)), some (.ref (x + 428)), some (.ref (x + 429)), some (.ref (x + 430)), some (.ref (x + 431)), some (.int (nI a)), l12, l13, l14, l15, l16, l17] [] σ Q
  | 0, a, l12, l13, f2, g2, k2, σ, hi, hW, hf, hA, K => by
    have e : a = c := by omega
    subst e
    have hK := K σ l12 l13 f2 g2 k2 hW (FrW_refl σ x) hf
    have rq := hW.1.2.2.1
    have hq1 := hR.2.1
    rw [sL_would_81]
    simp (disch := omega) only [sL_would_83, sL_would_83n, sL_would_84, sL_would_85, sL_would_86, rq, hq1, aFld, aFds, aRow, aRowR, aRefs, aLn, if_true, List.getElem?_cons_zero, List.getElem?_cons_succ, List.set_cons_zero, List.set_cons_succ, List.length_cons, List.length_nil, Option.some.injEq, exists_eq_left', aput_same, aclr_none, aclr_int, aclr_ref, aclr_null, aret_some, aret_none, bz, bz0, bz1, true_and, and_true, vpT, nIc, nI_add, pk_mul, nI_sub', Nat.add_zero, Nat.zero_add, upd_same, upd_ne, if_false, not_true_eq_false, not_false_eq_true, ite_z, ite_o, eq_self, Bool.false_eq_true, nI_leT, nI_leF, nI_ltT, nI_ltF, nI_ne, and_self, false_and, and_false, nI_rem]
    exact hK
  | k + 1, a, l12, l13, f2, g2, k2, σ, hi, hW, hf, hA, K => by
    have ha : a < c := by omega
    have rq := hW.1.2.2.1
    have hq1 := hR.2.1
    have hb := mOK_b hok hc (by omega) ha
    have hb1 : 1 ≤ bN (bk st a) := by
      obtain ⟨n, n1, n2, n3, -⟩ := id hb
      rw [bOK_N n1 n3]
      exact n2
    rw [sL_would_81]
    simp (disch := omega) only [sL_would_83, sL_would_83n, sL_would_84, sL_would_85, sL_would_86, sL_would_89, sL_would_90, rq, hq1, aFld, aFds, aRow, aRowR, aRefs, aLn, if_true, List.getElem?_cons_zero, List.getElem?_cons_succ, List.set_cons_zero, List.set_cons_succ, List.length_cons, List.length_nil, Option.some.injEq, exists_eq_left', aput_same, aclr_none, aclr_int, aclr_ref, aclr_null, aret_some, aret_none, bz, bz0, bz1, true_and, and_true, vpT, nIc, nI_add, pk_mul, nI_sub', Nat.add_zero, Nat.zero_add, upd_same, upd_ne, if_false, not_true_eq_false, not_false_eq_true, ite_z, ite_o, eq_self, Bool.false_eq_true, nI_leT, nI_leF, nI_ltT, nI_ltF, nI_ne, and_self, false_and, and_false, nI_rem]
    refine w_while hR hok.1 (by omega) 9 0 (bk st a) f2 g2 k2 σ hb (hA a (Nat.le_refl _) ha) (fun _ => by omega) hW (fun σ1 f3 g3 k3 w1 w2 w3 w4 w5 w6 => ?_)
    rw [Nat.zero_add]
    refine w_alb hR hok hc h6 ha w1 w4 (fun σ2 l13' v1 v2 => ?_)
    refine w_albs hR hok hc h6 k (a + 1) _ l13' f3 g3 k3 σ2 (by omega) v1 (fun j hj => ?_) (fun a' h1 h2 => ?_) (fun σ3 l12 l13 f4 g4 k4 u1 u2 u3 => K σ3 l12 l13 f4 g4 k4 u1 (FrW_trans w2 (FrW_trans v2 u2)) u3)
    · rw [w3 j hj, hf j hj, mPtF, Int32.add_assoc]
    · exact AlR_cong (mOK_b hok hc (by omega) h2) (fun i _ => rfl) (fun i hi => w5 _ (by omega)) (fun i hi => w6 _ (by omega)) (hA a' (by omega) h2)
theorem w_pts (hok : mOK st) (hc : st 34 = nI c) (h6 : c ≤ 6) {l12 l13 l14 l15 l16 l17 : Option Value} {f2 g2 k2 : Nat → Int32} (hf : ∀ j, j < 8 → f2 j = st (25 + j) + mPtF st 9 j c) : ∀ (k s : Nat) (σ : aS), s + k = 8 → WoC σ x fq fwo fdr fpt fal fpa st f2 g2 k2 → (∀ σ', WoC σ' x fq fwo fdr fpt fal fpa st f2 g2 k2 → FrW σ σ' x → aX (d + 7) iL_would 252 [some (.ref x), some (.int xx), some (.ref (x + 423)), some (.ref (x + 424)), some (.ref (x + 425)), some (.ref (x + 426)), some (.ref (x + 427)), some (.ref (x + 428)), some (.ref (x + 429)), some (.ref (x + 430)), some (.ref (x + 431)), some (.int (nI 8)), l12, l13, l14, l15, l16, l17] [] σ' Q) → aX (d + 7) iL_would 223 [some (.ref x), some (.int xx), some (.ref (x + 423)), some (.ref (x + 424)), some (.ref (x + 425)), some (.ref (x + 426)), some (.ref (x + 427)), some (.ref (x + 428)), some (.ref (x + 429)), some (.ref (x + 430)), some (.ref (x + 431)), some (.int (nI s)), l12, l13, l14, l15, l16, l17] [] σ Q
  | 0, s, σ, hs, hW, K => by
    have e : s = 8 := by omega
    subst e
    have hK := K σ hW (FrW_refl σ x)
    rw [sL_would_223]
    simp (disch := omega) only [sL_would_225, sL_would_227, aFld, aFds, aRow, aRowR, aRefs, aLn, if_true, List.getElem?_cons_zero, List.getElem?_cons_succ, List.set_cons_zero, List.set_cons_succ, List.length_cons, List.length_nil, Option.some.injEq, exists_eq_left', aput_same, aclr_none, aclr_int, aclr_ref, aclr_null, aret_some, aret_none, bz, bz0, bz1, true_and, and_true, vpT, nIc, nI_add, pk_mul, nI_sub', Nat.add_zero, Nat.zero_add, upd_same, upd_ne, if_false, not_true_eq_false, not_false_eq_true, ite_z, ite_o, eq_self, Bool.false_eq_true, nI_leT, nI_leF, nI_ltT, nI_ltF, nI_ne, and_self, false_and, and_false, nI_rem]
    exact hK
  | k + 1, s, σ, hs, hW, K => by
    have hI := aIsT hW.1.1
    obtain ⟨P, hP⟩ := hW.2.1
    have e := mPt_pts (c := c) (j := s) (by omega) (by omega) 9 st hok hc
    rw [← hf s (by omega)] at e
    rw [sL_would_223]
    simp (disch := omega) only [sL_would_225, sL_would_227, sL_would_230, sL_would_231, sL_would_233, hI, aFld, aFds, aRow, aRowR, aRefs, aLn, if_true, List.getElem?_cons_zero, List.getElem?_cons_succ, List.set_cons_zero, List.set_cons_succ, List.length_cons, List.length_nil, Option.some.injEq, exists_eq_left', aput_same, aclr_none, aclr_int, aclr_ref, aclr_null, aret_some, aret_none, bz, bz0, bz1, true_and, and_true, vpT, nIc, nI_add, pk_mul, nI_sub', Nat.add_zero, Nat.zero_add, upd_same, upd_ne, if_false, not_true_eq_false, not_false_eq_true, ite_z, ite_o, eq_self, Bool.false_eq_true, nI_leT, nI_leF, nI_ltT, nI_ltF, nI_ne, and_self, false_and, and_false, nI_rem]
    refine cq_pts (d := d) hW.1.1 hW.1.2.1 hP hok hc (by omega) (show s ≤ 7 by omega) (fun σ1 P1 p1 q1 => ?_)
    have W1 := WoC_fo hW p1 q1
    have h2 := W1.2.2.1
    simp (disch := omega) only [sL_would_236, sL_would_236n, sL_would_238, sL_would_240, sL_would_241, sL_would_244, sL_would_245, sL_would_246, sL_would_249, h2, e, aFld, aFds, aRow, aRowR, aRefs, aLn, if_true, List.getElem?_cons_zero, List.getElem?_cons_succ, List.set_cons_zero, List.set_cons_succ, List.length_cons, List.length_nil, Option.some.injEq, exists_eq_left', aput_same, aclr_none, aclr_int, aclr_ref, aclr_null, aret_some, aret_none, bz, bz0, bz1, true_and, and_true, vpT, nIc, nI_add, pk_mul, nI_sub', Nat.add_zero, Nat.zero_add, upd_same, upd_ne, if_false, not_true_eq_false, not_false_eq_true, ite_z, ite_o, eq_self, Bool.false_eq_true, nI_leT, nI_leF, nI_ltT, nI_ltF, nI_ne, and_self, false_and, and_false, nI_rem]
    exact w_pts hok hc h6 hf k (s + 1) σ1 (by omega) W1 (fun σ2 u1 u2 => K σ2 u1 (FrW_trans (FrW_fo q1) u2))
end WF
