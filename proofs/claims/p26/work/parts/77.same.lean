/-! THE LAW: what it compares: all albums -/
theorem mPb_s {st : Nat → Int32} {a s : Nat} (hs : s < 32) : mPb st s (a + 1) = mPb st s a + (if bt (bSe (bk st a) (bN (bk st a))) s = true then nI 1 else nI 0) := by
  rw [mPb, mSeats_bSe, b_shr1 _ hs]
section SA
variable {d x h c : Nat} {σ : aS} {Q : aQ} {fq fwo fdr fpt fal fpa st : Nat → Int32}
theorem s_albs (hC : LwC σ x fq fwo fdr fpt fal fpa st) (hh : x + 429 ≤ h) (hR : LwR fq fwo fdr fpt fal fpa st c) (hok : mOK st) (hc : st 34 = nI c) (h6 : c ≤ 6) {v10 : Int32} : ∀ (k a : Nat) (l12 l13 l14 l15 l16 : Option Value) (fh fb fo : Nat → Int32), a + k = c → (∀ s, s < 3 → fh s = nI (mHow st (nI s) a)) → (∀ s, s < 8 → fb s = mPb st s a) → (∀ s, s < 8 → fo s = mAlbOf st (nI s) a) → (∀ l12 l13 l14 l15 l16 fh fb fo, (∀ s, s < 3 → fh s = nI (mHow st (nI s) c)) → (∀ s, s < 8 → fb s = mPb st s c) → (∀ s, s < 8 → fo s = mAlbOf st (nI s) c) → aX (d + 5) iL_same 484 [some (.ref x), some (.ref (x + 423)), some (.ref (x + 424)), some (.ref (x + 425)), some (.ref (x + 426)), some (.ref (x + 427)), some (.ref (x + 428)), some (.ref h), some (.ref (h + 1)), some (.ref (h + 2)), some (.int v10), some (.int (nI c)), l12, l13, l14, l15, l16] [] (nA σ h fh fb fo) Q) → aX (d + 5) iL_same 46 [some (.ref x), some (.ref (x + 423)), some (.ref (x + 424)), some (.ref (x + 425)), some (.ref (x + 426)), some (.ref (x + 427)), some (.ref (x + 428)), some (.ref h), some (.ref (h + 1)), some (.ref (h + 2)), some (.int v10), some (.int (nI a)), l12, l13, l14, l15, l16] [] (nA σ h fh fb fo) Q
  | 0, a, l12, l13, l14, l15, l16, fh, fb, fo, hi, h1, h2, h3, K => by
    have e : a = c := by omega
    subst e
    have hCn := LwC_nA hC hh
    have rq : ∀ f g k, (nA σ h f g k).1 (x + 423) = some (eI 3 fq) := fun f g k => (hCn f g k).2.2.1
    have hq1 := hR.2.1
    have hK := K l12 l13 l14 l15 l16 fh fb fo h1 h2 h3
    rw [sL_same_46]
    simp (disch := omega) only [sL_same_48, sL_same_48n, sL_same_49, sL_same_50, sL_same_51, rq, hq1, nA_0, nA_1, nA_2, nA_w0, nA_w1, nA_w2, aFld, aFds, aRow, aRowR, aRefs, aLn, if_true, List.getElem?_cons_zero, List.getElem?_cons_succ, List.set_cons_zero, List.set_cons_succ, List.length_cons, List.length_nil, Option.some.injEq, exists_eq_left', aput_same, aclr_none, aclr_int, aclr_ref, aclr_null, aret_some, aret_none, bz, bz0, bz1, true_and, and_true, vpT, nIc, nI_add, pk_mul, nI_sub', Nat.add_zero, Nat.zero_add, upd_same, upd_ne, if_false, not_true_eq_false, not_false_eq_true, ite_z, ite_o, eq_self, Bool.false_eq_true, nI_leT, nI_leF, nI_ltT, nI_ltF, nI_ne, and_self, false_and, and_false, nI_rem]
    exact hK
  | k + 1, a, l12, l13, l14, l15, l16, fh, fb, fo, hi, h1, h2, h3, K => by
    have hCn := LwC_nA hC hh
    have ha : a < c := by omega
    have rq : ∀ f g k, (nA σ h f g k).1 (x + 423) = some (eI 3 fq) := fun f g k => (hCn f g k).2.2.1
    have ral : ∀ f g k, (nA σ h f g k).1 (x + 427) = some (eI 24 fal) := fun f g k => (hCn f g k).2.2.2.2.2.2.1
    have hq1 := hR.2.1
    have hb := mOK_b hok hc (by omega) ha
    have h8 := bN_8 hb
    have hA := hR.2.2.2.2.2.2 a ha
    obtain ⟨n, m1, m2, m3, ⟨o, o1, o2⟩, hhw, -⟩ := id hb
    have em := bOK_N m1 m3
    have f0 : fal (4 * a) = nI o := (hA.1 0 (by omega)).trans o1
    have f1 : fal (4 * a + 1) = nI n := (hA.1 1 (by omega)).trans m1
    have f2 : fal (4 * a + 2) = bk st a 2 := hA.1 2 (by omega)
    obtain ⟨e, e1, e2⟩ : ∃ e, bk st a 2 = nI e ∧ e < 3 := by
      rcases hhw with g | g | g
      · exact ⟨0, g, by omega⟩
      · exact ⟨1, g, by omega⟩
      · exact ⟨2, g, by omega⟩
    have e1' : st (35 + 28 * a + 2) = nI e := e1
    have o1' : st (35 + 28 * a + 0) = nI o := o1
    rw [e1] at f2
    have g1 : ∀ s, s < 3 → upd fh e (fh e + nI 1) s = nI (mHow st (nI s) (a + 1)) := fun s hs => by
      rw [mHow, e1']
      by_cases g : s = e
      · subst g
        rw [upd_same, h1 s hs, if_pos rfl, nI_add]
      · rw [upd_ne g, h1 s hs, if_neg (fun z => g ((nI_eq (by omega) (by omega)).mp z).symm), Nat.add_zero]
    have fin : ∀ fo', (∀ s, s < 8 → fo' s = mAlbOf st (nI s) (a + 1)) → aX (d + 5) iL_same 114 [some (.ref x), some (.ref (x + 423)), some (.ref (x + 424)), some (.ref (x + 425)), some (.ref (x + 426)), some (.ref (x + 427)), some (.ref (x + 428)), some (.ref h), some (.ref (h + 1)), some (.ref (h + 2)), some (.int v10), some (.int (nI a)), some (.int (nI n)), some (.int (nI 0)), some (.int (nI 0)), some (.int (nI 0)), l16] [] (nA σ h (upd fh e (fh e + nI 1)) fb fo') Q := by
      intro fo' g3
      refine s_in_loop (fb0 := fb) hC hh hR hok hc h6 ha em n 0 l16 fb (by omega) (fun s hs => ?_) (fun fb' l16' hfb => ?_)
      · rw [bSe, b_nz, if_neg (by decide), nI_0, Int32.add_zero]
      · refine s_alb hC hh hR hok hc h6 ha em (fun l15 => ?_)
        refine s_albs hC hh hR hok hc h6 k (a + 1) _ _ _ _ _ _ _ _ (by omega) g1 (fun s hs => ?_) g3 K
        rw [hfb s hs, mPb_s (by omega), em, h2 s hs]
    rw [sL_same_46]
    by_cases g : e = 0
    · subst g
      have hF := fin (upd fo o (nI a)) (fun s hs => by
        rw [mAlbOf, e1', o1']
        by_cases g : s = o
        · subst g
          rw [upd_same, if_pos ⟨rfl, rfl⟩]
        · rw [upd_ne g, h3 s hs, if_neg (fun z => g ((nI_eq (by omega) (by omega)).mp z.1).symm)])
      simp (disch := omega) only [sL_same_48, sL_same_48n, sL_same_49, sL_same_50, sL_same_51, sL_same_54, sL_same_54n, sL_same_56, sL_same_57, sL_same_59, sL_same_60, sL_same_61, sL_same_62, sL_same_63, sL_same_65, sL_same_66, sL_same_68, sL_same_69, sL_same_71, sL_same_71n, sL_same_73, sL_same_73n, sL_same_75, sL_same_76, sL_same_78, sL_same_79, sL_same_80, sL_same_81, sL_same_82, sL_same_83, sL_same_84, sL_same_85, sL_same_86, sL_same_87, sL_same_87n, sL_same_89, sL_same_90, sL_same_92, sL_same_93, sL_same_94, sL_same_95, sL_same_96, sL_same_99, sL_same_99n, sL_same_101, sL_same_101n, sL_same_103, sL_same_104, sL_same_106, sL_same_107, sL_same_108, sL_same_110, sL_same_111, sL_same_112, rq, hq1, ral, f0, f1, f2, nA_0, nA_1, nA_2, nA_w0, nA_w1, nA_w2, aFld, aFds, aRow, aRowR, aRefs, aLn, if_true, List.getElem?_cons_zero, List.getElem?_cons_succ, List.set_cons_zero, List.set_cons_succ, List.length_cons, List.length_nil, Option.some.injEq, exists_eq_left', aput_same, aclr_none, aclr_int, aclr_ref, aclr_null, aret_some, aret_none, bz, bz0, bz1, true_and, and_true, vpT, nIc, nI_add, pk_mul, nI_sub', Nat.add_zero, Nat.zero_add, upd_same, upd_ne, if_false, not_true_eq_false, not_false_eq_true, ite_z, ite_o, eq_self, Bool.false_eq_true, nI_leT, nI_leF, nI_ltT, nI_ltF, nI_ne, and_self, false_and, and_false, nI_rem]
      exact hF
    · have hF := fin fo (fun s hs => by
        rw [mAlbOf, e1', h3 s hs, if_neg (fun z => g ((nI_eq (by omega) (by omega)).mp z.2))])
      simp (disch := omega) only [sL_same_48, sL_same_48n, sL_same_49, sL_same_50, sL_same_51, sL_same_54, sL_same_54n, sL_same_56, sL_same_57, sL_same_59, sL_same_60, sL_same_61, sL_same_62, sL_same_63, sL_same_65, sL_same_66, sL_same_68, sL_same_69, sL_same_71, sL_same_71n, sL_same_73, sL_same_73n, sL_same_75, sL_same_76, sL_same_78, sL_same_79, sL_same_80, sL_same_81, sL_same_82, sL_same_83, sL_same_84, sL_same_85, sL_same_86, sL_same_87, sL_same_87n, sL_same_89, sL_same_90, sL_same_92, sL_same_93, sL_same_94, sL_same_95, sL_same_96, sL_same_99, sL_same_99n, sL_same_101, sL_same_101n, sL_same_103, sL_same_104, sL_same_106, sL_same_107, sL_same_108, sL_same_110, sL_same_111, sL_same_112, rq, hq1, ral, f0, f1, f2, nA_0, nA_1, nA_2, nA_w0, nA_w1, nA_w2, aFld, aFds, aRow, aRowR, aRefs, aLn, if_true, List.getElem?_cons_zero, List.getElem?_cons_succ, List.set_cons_zero, List.set_cons_succ, List.length_cons, List.length_nil, Option.some.injEq, exists_eq_left', aput_same, aclr_none, aclr_int, aclr_ref, aclr_null, aret_some, aret_none, bz, bz0, bz1, true_and, and_true, vpT, nIc, nI_add, pk_mul, nI_sub', Nat.add_zero, Nat.zero_add, upd_same, upd_ne, if_false, not_true_eq_false, not_false_eq_true, ite_z, ite_o, eq_self, Bool.false_eq_true, nI_leT, nI_leF, nI_ltT, nI_ltF, nI_ne, and_self, false_and, and_false, nI_rem]
      exact hF
theorem s_seats (hC : LwC σ x fq fwo fdr fpt fal fpa st) (hh : x + 429 ≤ h) (hR : LwR fq fwo fdr fpt fal fpa st c) (hok : mOK st) (hu : mUn st c) (hc : st 34 = nI c) (h6 : c ≤ 6) {l12 l13 l14 l15 l16 : Option Value} {fh fb fo : Nat → Int32} (h2 : ∀ s, s < 8 → fb s = mPb st s c) (h3 : ∀ s, s < 8 → fo s = mAlbOf st (nI s) c) : ∀ (k s : Nat), s + k = 8 → aX (d + 5) iL_same 589 [some (.ref x), some (.ref (x + 423)), some (.ref (x + 424)), some (.ref (x + 425)), some (.ref (x + 426)), some (.ref (x + 427)), some (.ref (x + 428)), some (.ref h), some (.ref (h + 1)), some (.ref (h + 2)), some (.int (mSum st 8)), some (.int (nI 8)), l12, l13, l14, l15, l16] [] (nA σ h fh fb fo) Q → aX (d + 5) iL_same 487 [some (.ref x), some (.ref (x + 423)), some (.ref (x + 424)), some (.ref (x + 425)), some (.ref (x + 426)), some (.ref (x + 427)), some (.ref (x + 428)), some (.ref h), some (.ref (h + 1)), some (.ref (h + 2)), some (.int (mSum st s)), some (.int (nI s)), l12, l13, l14, l15, l16] [] (nA σ h fh fb fo) Q
  | 0, s, hs, K => by
    have e : s = 8 := by omega
    subst e
    rw [sL_same_487]
    simp (disch := omega) only [sL_same_489, sL_same_491, aFld, aFds, aRow, aRowR, aRefs, aLn, if_true, List.getElem?_cons_zero, List.getElem?_cons_succ, List.set_cons_zero, List.set_cons_succ, List.length_cons, List.length_nil, Option.some.injEq, exists_eq_left', aput_same, aclr_none, aclr_int, aclr_ref, aclr_null, aret_some, aret_none, bz, bz0, bz1, true_and, and_true, vpT, nIc, nI_add, pk_mul, nI_sub', Nat.add_zero, Nat.zero_add, upd_same, upd_ne, if_false, not_true_eq_false, not_false_eq_true, ite_z, ite_o, eq_self, Bool.false_eq_true, nI_leT, nI_leF, nI_ltT, nI_ltF, nI_ne, and_self, false_and, and_false, nI_rem]
    exact K
  | k + 1, s, hs, K => by
    have hCn := LwC_nA hC hh fh fb fo
    have ih := s_seats hC hh hR hok hu hc h6 h2 h3 k (s + 1) (by omega) K
    have hI : aIs (nA σ h fh fb fo) x 6 = True := aIsT hCn.1
    have rq := hCn.2.2.1
    have rdr := hCn.2.2.2.2.1
    have rpt := hCn.2.2.2.2.2.1
    have hq0 := hR.1
    have hdr := hR.2.2.2.2.1 s (by omega)
    have hpt := hR.2.2.2.2.2.1 s (by omega)
    have hfb := h2 s (by omega)
    have hfo := h3 s (by omega)
    have q0 : ∀ Q : aQ, aX (d + 4) iX6_seat 0 [some (.ref x), some (.int (nI s)), some (.int (nI 0))] [] (nA σ h fh fb fo) Q ↔ Q (some (.int (st 16 >>> (nI s &&& 31) &&& nI 1))) (nA σ h fh fb fo) := fun Q => by
      rw [b_shr1 _ (by omega), ← mTk_bt st (by omega)]
      exact cq_seat0 hCn.1 hCn.2.1 (by omega)
    have q1 := fun (Q : aQ) => cq_seat1 (d := d) (Q := Q) hCn.1 hCn.2.1 (show s ≤ 7 by omega)
    have q2 := fun (Q : aQ) => cq_seat2 (d := d) (Q := Q) hCn.1 hCn.2.1 (show s ≤ 7 by omega)
    have q3 := fun (Q : aQ) => cq_seat3 (d := d) (Q := Q) hCn.1 hCn.2.1 hc (by omega) hu (show s ≤ 7 by omega)
    have q4 := fun (Q : aQ) => cq_seat4 (d := d) (Q := Q) hCn.1 hCn.2.1 hok hc (by omega) (show s ≤ 7 by omega)
    rw [mSum] at ih
    rw [sL_same_487]
    simp (disch := omega) only [sL_same_489, sL_same_491, sL_same_494, sL_same_496, sL_same_496n, sL_same_498, sL_same_500, sL_same_501, sL_same_502, sL_same_504, sL_same_505, sL_same_507, sL_same_508, sL_same_511, sL_same_511n, sL_same_512, sL_same_513, sL_same_514, sL_same_516, sL_same_517, sL_same_518, sL_same_519, sL_same_522, sL_same_523, sL_same_525, sL_same_526, sL_same_529, sL_same_529n, sL_same_530, sL_same_532, sL_same_533, sL_same_536, sL_same_537, sL_same_539, sL_same_540, sL_same_543, sL_same_543n, sL_same_545, sL_same_547, sL_same_548, sL_same_551, sL_same_552, sL_same_554, sL_same_555, sL_same_558, sL_same_558n, sL_same_560, sL_same_562, sL_same_563, sL_same_566, sL_same_567, sL_same_569, sL_same_570, sL_same_573, sL_same_573n, sL_same_575, sL_same_577, sL_same_578, sL_same_581, sL_same_582, sL_same_583, sL_same_586, hI, rq, rdr, rpt, hq0, hdr, hpt, hfb, hfo, q0, q1, q2, q3, q4, nA_0, nA_1, nA_2, nA_w0, nA_w1, nA_w2, aFld, aFds, aRow, aRowR, aRefs, aLn, if_true, List.getElem?_cons_zero, List.getElem?_cons_succ, List.set_cons_zero, List.set_cons_succ, List.length_cons, List.length_nil, Option.some.injEq, exists_eq_left', aput_same, aclr_none, aclr_int, aclr_ref, aclr_null, aret_some, aret_none, bz, bz0, bz1, true_and, and_true, vpT, nIc, nI_add, pk_mul, nI_sub', Nat.add_zero, Nat.zero_add, upd_same, upd_ne, if_false, not_true_eq_false, not_false_eq_true, ite_z, ite_o, eq_self, Bool.false_eq_true, nI_leT, nI_leF, nI_ltT, nI_ltF, nI_ne, and_self, false_and, and_false, nI_rem]
    exact ih
theorem s_words (hC : LwC σ x fq fwo fdr fpt fal fpa st) (hh : x + 429 ≤ h) (hR : LwR fq fwo fdr fpt fal fpa st c) {v10 : Int32} {l12 l13 l14 l15 l16 : Option Value} {fh fb fo : Nat → Int32} : ∀ (k w : Nat), w + k = 16 → aX (d + 5) iL_same 620 [some (.ref x), some (.ref (x + 423)), some (.ref (x + 424)), some (.ref (x + 425)), some (.ref (x + 426)), some (.ref (x + 427)), some (.ref (x + 428)), some (.ref h), some (.ref (h + 1)), some (.ref (h + 2)), some (.int v10), some (.int (nI 16)), l12, l13, l14, l15, l16] [] (nA σ h fh fb fo) Q → aX (d + 5) iL_same 592 [some (.ref x), some (.ref (x + 423)), some (.ref (x + 424)), some (.ref (x + 425)), some (.ref (x + 426)), some (.ref (x + 427)), some (.ref (x + 428)), some (.ref h), some (.ref (h + 1)), some (.ref (h + 2)), some (.int v10), some (.int (nI w)), l12, l13, l14, l15, l16] [] (nA σ h fh fb fo) Q
  | 0, w, hw, K => by
    have e : w = 16 := by omega
    subst e
    rw [sL_same_592]
    simp (disch := omega) only [sL_same_594, sL_same_596, aFld, aFds, aRow, aRowR, aRefs, aLn, if_true, List.getElem?_cons_zero, List.getElem?_cons_succ, List.set_cons_zero, List.set_cons_succ, List.length_cons, List.length_nil, Option.some.injEq, exists_eq_left', aput_same, aclr_none, aclr_int, aclr_ref, aclr_null, aret_some, aret_none, bz, bz0, bz1, true_and, and_true, vpT, nIc, nI_add, pk_mul, nI_sub', Nat.add_zero, Nat.zero_add, upd_same, upd_ne, if_false, not_true_eq_false, not_false_eq_true, ite_z, ite_o, eq_self, Bool.false_eq_true, nI_leT, nI_leF, nI_ltT, nI_ltF, nI_ne, and_self, false_and, and_false, nI_rem]
    exact K
  | k + 1, w, hw, K => by
    have hCn := LwC_nA hC hh fh fb fo
    have ih := s_words hC hh hR k (w + 1) (by omega) K
    have hI : aIs (nA σ h fh fb fo) x 6 = True := aIsT hCn.1
    have rwo := hCn.2.2.2.1
    have hwo := hR.2.2.2.1 w (by omega)
    have q := fun (Q : aQ) => cq_word (d := d + 2) (Q := Q) hCn.1 hCn.2.1 (show w ≤ 15 by omega)
    rw [sL_same_592]
    simp (disch := omega) only [sL_same_594, sL_same_596, sL_same_599, sL_same_600, sL_same_602, sL_same_605, sL_same_605n, sL_same_606, sL_same_608, sL_same_609, sL_same_612, sL_same_613, sL_same_614, sL_same_617, hI, rwo, hwo, q, nA_0, nA_1, nA_2, nA_w0, nA_w1, nA_w2, aFld, aFds, aRow, aRowR, aRefs, aLn, if_true, List.getElem?_cons_zero, List.getElem?_cons_succ, List.set_cons_zero, List.set_cons_succ, List.length_cons, List.length_nil, Option.some.injEq, exists_eq_left', aput_same, aclr_none, aclr_int, aclr_ref, aclr_null, aret_some, aret_none, bz, bz0, bz1, true_and, and_true, vpT, nIc, nI_add, pk_mul, nI_sub', Nat.add_zero, Nat.zero_add, upd_same, upd_ne, if_false, not_true_eq_false, not_false_eq_true, ite_z, ite_o, eq_self, Bool.false_eq_true, nI_leT, nI_leF, nI_ltT, nI_ltF, nI_ne, and_self, false_and, and_false, nI_rem]
    exact ih
theorem s_end (hC : LwC σ x fq fwo fdr fpt fal fpa st) (hh : x + 429 ≤ h) (hR : LwR fq fwo fdr fpt fal fpa st c) (hc : st 34 = nI c) (h6 : c ≤ 6) {l11 l12 l13 l14 l15 l16 : Option Value} {fh fb fo : Nat → Int32} (h1 : ∀ s, s < 3 → fh s = nI (mHow st (nI s) c)) (K : Q (some (.int (nI 1))) (nA σ h fh fb fo)) : aX (d + 5) iL_same 620 [some (.ref x), some (.ref (x + 423)), some (.ref (x + 424)), some (.ref (x + 425)), some (.ref (x + 426)), some (.ref (x + 427)), some (.ref (x + 428)), some (.ref h), some (.ref (h + 1)), some (.ref (h + 2)), some (.int (mSum st 8)), l11, l12, l13, l14, l15, l16] [] (nA σ h fh fb fo) Q := by
  have hCn := LwC_nA hC hh fh fb fo
  have hI : aIs (nA σ h fh fb fo) x 6 = True := aIsT hCn.1
  have rq := hCn.2.2.1
  have hq0 := hR.1
  have hq1 := hR.2.1
  have hq2 := hR.2.2.1
  have a0 := h1 0 (by omega)
  have a1 := h1 1 (by omega)
  have a2 := h1 2 (by omega)
  have q0 := fun (Q : aQ) => cq_count0 (d := d) (Q := Q) hCn.1 hCn.2.1
  have q1 := fun (Q : aQ) => cq_count1 (d := d) (Q := Q) hCn.1 hCn.2.1
  have q2 := fun (Q : aQ) => cq_count2 (d := d) (Q := Q) hCn.1 hCn.2.1 hc (by omega)
  have q3 := fun (Q : aQ) => cq_count3 (d := d) (Q := Q) hCn.1 hCn.2.1 hc (by omega)
  have q4 := fun (Q : aQ) => cq_count4 (d := d) (Q := Q) hCn.1 hCn.2.1 hc (by omega)
  have q5 := fun (Q : aQ) => cq_count5 (d := d) (Q := Q) hCn.1 hCn.2.1
  have q6 := fun (Q : aQ) => cq_count6 (d := d) (Q := Q) hCn.1 hCn.2.1
  simp (disch := omega) only [sL_same_620, sL_same_621, sL_same_622, sL_same_625, sL_same_625n, sL_same_626, sL_same_627, sL_same_628, sL_same_631, sL_same_632, sL_same_633, sL_same_636, sL_same_636n, sL_same_637, sL_same_638, sL_same_639, sL_same_642, sL_same_643, sL_same_644, sL_same_647, sL_same_647n, sL_same_649, sL_same_650, sL_same_651, sL_same_654, sL_same_655, sL_same_656, sL_same_659, sL_same_659n, sL_same_661, sL_same_662, sL_same_663, sL_same_666, sL_same_667, sL_same_668, sL_same_671, sL_same_671n, sL_same_673, sL_same_674, sL_same_675, sL_same_678, sL_same_679, sL_same_680, sL_same_683, sL_same_683n, sL_same_684, sL_same_685, sL_same_686, sL_same_689, sL_same_690, sL_same_692, sL_same_695, sL_same_697, sL_same_700, sL_same_701, sL_same_704, sL_same_705, hI, rq, hq0, hq1, hq2, a0, a1, a2, q0, q1, q2, q3, q4, q5, q6, hc, nA_0, nA_1, nA_2, nA_w0, nA_w1, nA_w2, aFld, aFds, aRow, aRowR, aRefs, aLn, if_true, List.getElem?_cons_zero, List.getElem?_cons_succ, List.set_cons_zero, List.set_cons_succ, List.length_cons, List.length_nil, Option.some.injEq, exists_eq_left', aput_same, aclr_none, aclr_int, aclr_ref, aclr_null, aret_some, aret_none, bz, bz0, bz1, true_and, and_true, vpT, nIc, nI_add, pk_mul, nI_sub', Nat.add_zero, Nat.zero_add, upd_same, upd_ne, if_false, not_true_eq_false, not_false_eq_true, ite_z, ite_o, eq_self, Bool.false_eq_true, nI_leT, nI_leF, nI_ltT, nI_ltF, nI_ne, and_self, false_and, and_false, nI_rem]
  exact K
end SA
