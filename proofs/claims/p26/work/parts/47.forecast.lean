/-! THE CLASS: the forecast -/
/-- the points that an album brings a seat on its way to its end -/
def bEndD (st : Nat → Int32) : Nat → (Nat → Int32) → Nat → Int32
  | 0, _, _ => nI 0
  | f + 1, b, j => if b 2 = nI 0 then bDl st b j + bEndD st f (bStep st b) j else nI 0
section CFO
variable {d : Nat} {σ : aS} {Q : aQ} {t c fc : Nat} {st b : Nat → Int32}
theorem cv_pass {a p : Nat} {ow pg hw tn tp : Int32} {f g P : Nat → Int32} (hT : TabR σ t st) (hE : eOK st) (hd : t + 2 < a ∧ t + 2 < p ∧ (p < a ∨ a + 2 < p)) (hAl : AlbC σ a ow pg hw tn tp f g) (hP : σ.1 p = some (eI 8 P)) (hb : bOK b) (hgo : b 2 = nI 0) (hR : albR b ow pg hw tn tp f g) (K : ∀ σ' P' ow pg hw tn tp f g, (∀ j, j < 8 → P' j = P j + bDl st b j) → albR (bStep st b) ow pg hw tn tp f g → AlbC σ' a ow pg hw tn tp f g → σ'.1 p = some (eI 8 P') → (∀ q, q ≠ p → (q < a ∨ a + 2 < q) → σ'.1 q = σ.1 q) → σ'.2 = σ.2 → Q none σ') : aX (d + 3) iX5_passOn 0 [some (.ref t), some (.ref a), some (.ref p), none] [] σ Q := by
  obtain ⟨h0, ⟨ft, h1, h1'⟩, ⟨dr, h2, h2'⟩, -⟩ := hT
  have h := cc_passOn (d := d) (σ := σ) (Q := Q) (t := t) (a := a) (p := p) (P := P) (st := st) h0 h1 h2 hd h1' h2' rfl hE hb hgo hR (fun P' ow' pg' hw' tn' tp' f' g' e1 e2 => K _ P' ow' pg' hw' tn' tp' f' g' e1 e2 cA_alb (by rw [cA_ne (by omega), aput_same]) (fun q g1 g2 => by rw [cA_ne g2, aput_ne _ _ g1]) rfl)
  rw [aput_self hP, cA_self hAl] at h
  exact h
/-- the forecast's cells: its numbers, its row of points, its album -/
def FoC (σ : aS) (fc : Nat) (r : Int32) (P : Nat → Int32) (ow pg hw tn tp : Int32) (f g : Nat → Int32) : Prop := σ.1 fc = some (eO 1 [.ref (fc + 1), .ref (fc + 4), .int r]) ∧ σ.1 (fc + 4) = some (eI 8 P) ∧ AlbC σ (fc + 1) ow pg hw tn tp f g
theorem FoC_keep {σ' : aS} {r : Int32} {P : Nat → Int32} {ow pg hw tn tp : Int32} {f g : Nat → Int32} (h : ∀ q, fc ≤ q → q < fc + 5 → σ'.1 q = σ.1 q) (hF : FoC σ fc r P ow pg hw tn tp f g) : FoC σ' fc r P ow pg hw tn tp f g :=
  ⟨(h _ (by omega) (by omega)).trans hF.1, (h _ (by omega) (by omega)).trans hF.2.1, (h _ (by omega) (by omega)).trans hF.2.2.1, (h _ (by omega) (by omega)).trans hF.2.2.2.1, (h _ (by omega) (by omega)).trans hF.2.2.2.2⟩
theorem FoC_w {r r' : Int32} {P : Nat → Int32} {ow pg hw tn tp : Int32} {f g : Nat → Int32} (hF : FoC σ fc r P ow pg hw tn tp f g) : FoC (aput σ fc (eO 1 [.ref (fc + 1), .ref (fc + 4), .int r'])) fc r' P ow pg hw tn tp f g :=
  ⟨aput_same _ _ _, (aput_ne _ _ (by omega)).trans hF.2.1, (aput_ne _ _ (by omega)).trans hF.2.2.1, (aput_ne _ _ (by omega)).trans hF.2.2.2.1, (aput_ne _ _ (by omega)).trans hF.2.2.2.2⟩
theorem cf_play_loop (ht : t + 41 ≤ fc) (hE : eOK st) : ∀ (k r : Nat) (b : Nat → Int32) (P : Nat → Int32) (ow pg hw tn tp : Int32) (f g : Nat → Int32) (σ : aS), r + k = 9 → TabR σ t st → FoC σ fc (nI r) P ow pg hw tn tp f g → bOK b → albR b ow pg hw tn tp f g → (∀ σ' P' ow pg hw tn tp f g, (∀ j, j < 8 → P' j = P j + bEndD st k b j) → albR (bEnd st k b) ow pg hw tn tp f g → FoC σ' fc (nI (r + bEndN st k b)) P' ow pg hw tn tp f g → Fr σ σ' fc 5 → Q none σ') → aX (d + 4) iX1_playToEnd 5 [some (.ref fc), some (.ref t)] [] σ Q
  | 0, r, b, P, ow, pg, hw, tn, tp, f, g, σ, h, hT, hF, hb, hR, K => by
    have e : r = 9 := by omega
    subst e
    have h0 := hF.1
    have := K σ P ow pg hw tn tp f g (fun j hj => by rw [bEndD, nI_0, Int32.add_zero]) hR hF (Fr_refl _ _ _)
    rw [sX1_playToEnd_5]
    simp (disch := omega) only [sX1_playToEnd_6, sX1_playToEnd_9, sX1_playToEnd_11, sX1_playToEnd_14, sX1_playToEnd_15, sX1_playToEnd_18, sX1_playToEnd_21, sX1_playToEnd_24, sX1_playToEnd_24n, sX1_playToEnd_25, sX1_playToEnd_26, sX1_playToEnd_29, sX1_playToEnd_30, sX1_playToEnd_33, sX1_playToEnd_36, sX1_playToEnd_37, sX1_playToEnd_37i, sX1_playToEnd_38, sX1_playToEnd_41, sX1_playToEnd_42, sX1_playToEnd_43, sX1_playToEnd_46, sX1_playToEnd_49, h0, nI_ltT, tF_l, tF_g0, tF_g1, tF_g2, tF_g3, tF_g4, tF_g5, tF_s3, tF_s4, tF_s5, aFld, aFds, aRow, aRowR, aRefs, aLn, if_true, List.getElem?_cons_zero, List.getElem?_cons_succ, List.set_cons_zero, List.set_cons_succ, List.length_cons, List.length_nil, Option.some.injEq, exists_eq_left', aput_same, aclr_none, aclr_int, aclr_ref, aclr_null, aret_some, aret_none, bz, bz0, bz1, true_and, and_true, vpT, nIc, nI_add, pk_mul, nI_sub', Nat.add_zero, Nat.zero_add, upd_same, upd_ne, if_false, not_true_eq_false, not_false_eq_true, ite_z, ite_o, eq_self, Bool.false_eq_true, nI_leT, nI_leF, nI_ltT, nI_ltF, nI_ne, and_self, false_and, and_false, Nat.reduceAdd, Nat.reduceSub, Nat.reduceMul, Nat.reduceLT, Nat.reduceLeDiff, true_and]
    exact this
  | k + 1, r, b, P, ow, pg, hw, tn, tp, f, g, σ, h, hT, hF, hb, hR, K => by
    have h0 := hF.1
    have hAl := hF.2.2
    have hhw : hw = b 2 := hR.2.2.1
    rw [sX1_playToEnd_5]
    by_cases gg : b 2 = nI 0
    · have hhw0 : hw = nI 0 := hhw.trans gg
      have ih := cf_play_loop ht hE k (r + 1) (bStep st b)
      simp (disch := omega) only [sX1_playToEnd_6, sX1_playToEnd_9, sX1_playToEnd_11, sX1_playToEnd_14, sX1_playToEnd_15, sX1_playToEnd_18, sX1_playToEnd_21, sX1_playToEnd_24, sX1_playToEnd_24n, sX1_playToEnd_25, sX1_playToEnd_26, sX1_playToEnd_29, sX1_playToEnd_30, sX1_playToEnd_33, h0, cv_goes hAl, aIsT h0, aIsT hT.1, aIsT hAl.1, hhw0, tF_l, tF_g0, tF_g1, tF_g2, tF_g3, tF_g4, tF_g5, tF_s3, tF_s4, tF_s5, aFld, aFds, aRow, aRowR, aRefs, aLn, if_true, List.getElem?_cons_zero, List.getElem?_cons_succ, List.set_cons_zero, List.set_cons_succ, List.length_cons, List.length_nil, Option.some.injEq, exists_eq_left', aput_same, aclr_none, aclr_int, aclr_ref, aclr_null, aret_some, aret_none, bz, bz0, bz1, true_and, and_true, vpT, nIc, nI_add, pk_mul, nI_sub', Nat.add_zero, Nat.zero_add, upd_same, upd_ne, if_false, not_true_eq_false, not_false_eq_true, ite_z, ite_o, eq_self, Bool.false_eq_true, nI_leT, nI_leF, nI_ltT, nI_ltF, nI_ne, and_self, false_and, and_false, Nat.reduceAdd, Nat.reduceSub, Nat.reduceMul, Nat.reduceLT, Nat.reduceLeDiff, true_and]
      refine cv_pass hT hE (by omega) hAl hF.2.1 hb gg hR (fun σ' P' ow' pg' hw' tn' tp' f' g' e1 e2 e3 e4 e5 e6 => ?_)
      have h0' : σ'.1 fc = some (eO 1 [.ref (fc + 1), .ref (fc + 4), .int (nI r)]) := (e5 _ (by omega) (by omega)).trans h0
      have hF' : FoC σ' fc (nI r) P' ow' pg' hw' tn' tp' f' g' := ⟨h0', e4, e3⟩
      have hFr : Fr σ σ' fc 5 := ⟨fun q hq => e5 q (by omega) (by omega), e6⟩
      simp (disch := omega) only [sX1_playToEnd_36, sX1_playToEnd_37, sX1_playToEnd_37i, sX1_playToEnd_38, sX1_playToEnd_41, sX1_playToEnd_42, sX1_playToEnd_43, sX1_playToEnd_46, h0', tF_l, tF_g0, tF_g1, tF_g2, tF_g3, tF_g4, tF_g5, tF_s3, tF_s4, tF_s5, aFld, aFds, aRow, aRowR, aRefs, aLn, if_true, List.getElem?_cons_zero, List.getElem?_cons_succ, List.set_cons_zero, List.set_cons_succ, List.length_cons, List.length_nil, Option.some.injEq, exists_eq_left', aput_same, aclr_none, aclr_int, aclr_ref, aclr_null, aret_some, aret_none, bz, bz0, bz1, true_and, and_true, vpT, nIc, nI_add, pk_mul, nI_sub', Nat.add_zero, Nat.zero_add, upd_same, upd_ne, if_false, not_true_eq_false, not_false_eq_true, ite_z, ite_o, eq_self, Bool.false_eq_true, nI_leT, nI_leF, nI_ltT, nI_ltF, nI_ne, and_self, false_and, and_false, Nat.reduceAdd, Nat.reduceSub, Nat.reduceMul, Nat.reduceLT, Nat.reduceLeDiff, true_and]
      refine ih P' ow' pg' hw' tn' tp' f' g' _ (by omega) (TabR_keep (fun q g1 g2 => (aput_ne _ _ (by omega)).trans (e5 q (by omega) (by omega))) hT) (FoC_w hF') (bStep_ok hE hb) e2 (fun σ2 P2 ow2 pg2 hw2 tn2 tp2 f2 g2 z1 z2 z3 z4 => ?_)
      refine K σ2 P2 ow2 pg2 hw2 tn2 tp2 f2 g2 (fun j hj => ?_) ?_ ?_ (Fr_trans (Fr_trans hFr (Fr_put (by omega) (by omega))) z4)
      · rw [bEndD, if_pos gg, z1 j hj, e1 j hj, Int32.add_assoc]
      · rw [bEnd, if_pos gg]; exact z2
      · rw [bEndN, if_pos gg, show r + (bEndN st k (bStep st b) + 1) = r + 1 + bEndN st k (bStep st b) by omega]; exact z3
    · have hhw0 : ¬ hw = nI 0 := fun z => gg (hhw.symm.trans z)
      have := K σ P ow pg hw tn tp f g (fun j hj => by rw [bEndD, if_neg gg, nI_0, Int32.add_zero]) (by rw [bEnd, if_neg gg]; exact hR) (by rw [bEndN, if_neg gg]; exact hF) (Fr_refl _ _ _)
      simp (disch := omega) only [sX1_playToEnd_6, sX1_playToEnd_9, sX1_playToEnd_11, sX1_playToEnd_14, sX1_playToEnd_15, sX1_playToEnd_18, sX1_playToEnd_21, sX1_playToEnd_24, sX1_playToEnd_24n, sX1_playToEnd_25, sX1_playToEnd_26, sX1_playToEnd_29, sX1_playToEnd_30, sX1_playToEnd_33, sX1_playToEnd_36, sX1_playToEnd_37, sX1_playToEnd_37i, sX1_playToEnd_38, sX1_playToEnd_41, sX1_playToEnd_42, sX1_playToEnd_43, sX1_playToEnd_46, sX1_playToEnd_49, h0, cv_goes hAl, aIsT h0, aIsT hT.1, aIsT hAl.1, hhw0, tF_l, tF_g0, tF_g1, tF_g2, tF_g3, tF_g4, tF_g5, tF_s3, tF_s4, tF_s5, aFld, aFds, aRow, aRowR, aRefs, aLn, if_true, List.getElem?_cons_zero, List.getElem?_cons_succ, List.set_cons_zero, List.set_cons_succ, List.length_cons, List.length_nil, Option.some.injEq, exists_eq_left', aput_same, aclr_none, aclr_int, aclr_ref, aclr_null, aret_some, aret_none, bz, bz0, bz1, true_and, and_true, vpT, nIc, nI_add, pk_mul, nI_sub', Nat.add_zero, Nat.zero_add, upd_same, upd_ne, if_false, not_true_eq_false, not_false_eq_true, ite_z, ite_o, eq_self, Bool.false_eq_true, nI_leT, nI_leF, nI_ltT, nI_ltF, nI_ne, and_self, false_and, and_false, Nat.reduceAdd, Nat.reduceSub, Nat.reduceMul, Nat.reduceLT, Nat.reduceLeDiff, true_and]
      exact this
theorem cf_play {r : Int32} {P : Nat → Int32} {ow pg hw tn tp : Int32} {f g : Nat → Int32} (ht : t + 41 ≤ fc) (hE : eOK st) (hT : TabR σ t st) (hF : FoC σ fc r P ow pg hw tn tp f g) (hb : bOK b) (hR : albR b ow pg hw tn tp f g) (K : ∀ σ' P' ow pg hw tn tp f g, (∀ j, j < 8 → P' j = P j + bEndD st 9 b j) → albR (bEnd st 9 b) ow pg hw tn tp f g → FoC σ' fc (nI (bEndN st 9 b)) P' ow pg hw tn tp f g → Fr σ σ' fc 5 → Q none σ') : aX (d + 4) iX1_playToEnd 0 [some (.ref fc), some (.ref t)] [] σ Q := by
  have h0 := hF.1
  simp (disch := omega) only [sX1_playToEnd_0, sX1_playToEnd_1, sX1_playToEnd_2, h0, tF_l, tF_g0, tF_g1, tF_g2, tF_g3, tF_g4, tF_g5, tF_s3, tF_s4, tF_s5, aFld, aFds, aRow, aRowR, aRefs, aLn, if_true, List.getElem?_cons_zero, List.getElem?_cons_succ, List.set_cons_zero, List.set_cons_succ, List.length_cons, List.length_nil, Option.some.injEq, exists_eq_left', aput_same, aclr_none, aclr_int, aclr_ref, aclr_null, aret_some, aret_none, bz, bz0, bz1, true_and, and_true, vpT, nIc, nI_add, pk_mul, nI_sub', Nat.add_zero, Nat.zero_add, upd_same, upd_ne, if_false, not_true_eq_false, not_false_eq_true, ite_z, ite_o, eq_self, Bool.false_eq_true, nI_leT, nI_leF, nI_ltT, nI_ltF, nI_ne, and_self, false_and, and_false, Nat.reduceAdd, Nat.reduceSub, Nat.reduceMul, Nat.reduceLT, Nat.reduceLeDiff, true_and]
  refine cf_play_loop ht hE 9 0 b P ow pg hw tn tp f g _ (by omega) (TabR_keep (fun q g1 g2 => aput_ne _ _ (by omega)) hT) (FoC_w hF) hb hR (fun σ' P' ow' pg' hw' tn' tp' f' g' z1 z2 z3 z4 => K σ' P' ow' pg' hw' tn' tp' f' g' z1 z2 ?_ (Fr_trans (Fr_put (by omega) (by omega)) z4))
  rw [Nat.zero_add] at z3
  exact z3
theorem FoC_alb {r : Int32} {P : Nat → Int32} {ow pg hw tn tp ow' pg' hw' tn' tp' : Int32} {f g f' g' : Nat → Int32} (hF : FoC σ fc r P ow pg hw tn tp f g) : FoC (cA σ (fc + 1) (cF (fc + 1) ow' pg' hw' tn' tp') f' g') fc r P ow' pg' hw' tn' tp' f' g' :=
  ⟨(cA_ne (by omega)).trans hF.1, (cA_ne (by omega)).trans hF.2.1, cA_alb⟩
theorem cf_follow {r : Int32} {P : Nat → Int32} {ow pg hw tn tp ow' pg' hw' tn' tp' : Int32} {f g f' g' : Nat → Int32} {a : Nat} (ht : t + 41 ≤ fc) (hE : eOK st) (hT : TabR σ t st) (hF : FoC σ fc r P ow pg hw tn tp f g) (hb : bOK b) (ha : a + 2 < fc) (hA : AlbC σ a ow' pg' hw' tn' tp' f' g') (hR : albR b ow' pg' hw' tn' tp' f' g') (K : ∀ σ' P' ow pg hw tn tp f g, albR (bEnd st 9 b) ow pg hw tn tp f g → FoC σ' fc (nI (bEndN st 9 b)) P' ow pg hw tn tp f g → Fr σ σ' fc 5 → Q none σ') : aX (d + 5) iX1_follow 0 [some (.ref fc), some (.ref t), some (.ref a)] [] σ Q := by
  have h0 := hF.1
  have r0 : ∀ {fs : List Value} {f g : Nat → Int32}, (cA σ (fc + 1) fs f g).1 fc = some (eO 1 [.ref (fc + 1), .ref (fc + 4), .int r]) := fun {_ _ _} => (cA_ne (by omega)).trans h0
  simp (disch := omega) only [sX1_follow_0, sX1_follow_1, sX1_follow_4, sX1_follow_4n, sX1_follow_5, sX1_follow_8, sX1_follow_9, sX1_follow_9n, sX1_follow_10, h0, r0, cv_copyAlb hF.2.2 hA (Or.inl (by omega)), aIsT r0, aIsT hF.2.2.1, tF_l, tF_g0, tF_g1, tF_g2, tF_g3, tF_g4, tF_g5, tF_s3, tF_s4, tF_s5, aFld, aFds, aRow, aRowR, aRefs, aLn, if_true, List.getElem?_cons_zero, List.getElem?_cons_succ, List.set_cons_zero, List.set_cons_succ, List.length_cons, List.length_nil, Option.some.injEq, exists_eq_left', aput_same, aclr_none, aclr_int, aclr_ref, aclr_null, aret_some, aret_none, bz, bz0, bz1, true_and, and_true, vpT, nIc, nI_add, pk_mul, nI_sub', Nat.add_zero, Nat.zero_add, upd_same, upd_ne, if_false, not_true_eq_false, not_false_eq_true, ite_z, ite_o, eq_self, Bool.false_eq_true, nI_leT, nI_leF, nI_ltT, nI_ltF, nI_ne, and_self, false_and, and_false, Nat.reduceAdd, Nat.reduceSub, Nat.reduceMul, Nat.reduceLT, Nat.reduceLeDiff, true_and]
  refine cf_play ht hE (TabR_keep (fun q g1 g2 => cA_ne (by omega)) hT) (FoC_alb hF) hb (albR_cpy (bN_8 hb) hR) (fun σ' P' ow pg hw tn tp f g z1 z2 z3 z4 => ?_)
  simp only [sX1_follow_13, tF_l, tF_g0, tF_g1, tF_g2, tF_g3, tF_g4, tF_g5, tF_s3, tF_s4, tF_s5, aFld, aFds, aRow, aRowR, aRefs, aLn, if_true, List.getElem?_cons_zero, List.getElem?_cons_succ, List.set_cons_zero, List.set_cons_succ, List.length_cons, List.length_nil, Option.some.injEq, exists_eq_left', aput_same, aclr_none, aclr_int, aclr_ref, aclr_null, aret_some, aret_none, bz, bz0, bz1, true_and, and_true, vpT, nIc, nI_add, pk_mul, nI_sub', Nat.add_zero, Nat.zero_add, upd_same, upd_ne, if_false, not_true_eq_false, not_false_eq_true, ite_z, ite_o, eq_self, Bool.false_eq_true, nI_leT, nI_leF, nI_ltT, nI_ltF, nI_ne, and_self, false_and, and_false, Nat.reduceAdd, Nat.reduceSub, Nat.reduceMul, Nat.reduceLT, Nat.reduceLeDiff, true_and]
  exact K σ' P' ow pg hw tn tp f g z2 z3 (Fr_trans ⟨fun q hq => cA_ne (by omega), rfl⟩ z4)
/-- the points of the first albums, played to their ends -/
def mPtD (st : Nat → Int32) (j : Nat) : Nat → Int32
  | 0 => nI 0
  | a + 1 => mPtD st j a + bEndD st 9 (bk st a) j
def FoS (σ : aS) (fc : Nat) (P : Nat → Int32) : Prop := ∃ r ow pg hw tn tp f g, FoC σ fc r P ow pg hw tn tp f g
theorem cf_all_loop {P0 : Nat → Int32} (ht : t + 41 ≤ fc) (hok : mOK st) (hc : st 34 = nI c) (h12 : c ≤ 12) : ∀ (k i : Nat) (P : Nat → Int32) (l3 : Option Value) (σ : aS), i + k = c → TabR σ t st → FoS σ fc P → (∀ j, j < 8 → P j = P0 j + mPtD st j i) → (∀ σ' P', FoS σ' fc P' → (∀ j, j < 8 → P' j = P0 j + mPtD st j c) → Fr σ σ' fc 5 → Q none σ') → aX (d + 5) iX1_followAll 13 [some (.ref fc), some (.ref t), some (.int (nI i)), l3] [] σ Q
  | 0, i, P, l3, σ, h, hT, hF, hP, K => by
    have e : i = c := by omega
    subst e
    have h0 := hT.1
    rw [hc] at h0
    have := K σ P hF hP (Fr_refl _ _ _)
    rw [sX1_followAll_13]
    simp (disch := omega) only [sX1_followAll_14, sX1_followAll_14n, sX1_followAll_15, sX1_followAll_18, sX1_followAll_50, h0, tF_l, tF_g0, tF_g1, tF_g2, tF_g3, tF_g4, tF_g5, tF_s3, tF_s4, tF_s5, aFld, aFds, aRow, aRowR, aRefs, aLn, if_true, List.getElem?_cons_zero, List.getElem?_cons_succ, List.set_cons_zero, List.set_cons_succ, List.length_cons, List.length_nil, Option.some.injEq, exists_eq_left', aput_same, aclr_none, aclr_int, aclr_ref, aclr_null, aret_some, aret_none, bz, bz0, bz1, true_and, and_true, vpT, nIc, nI_add, pk_mul, nI_sub', Nat.add_zero, Nat.zero_add, upd_same, upd_ne, if_false, not_true_eq_false, not_false_eq_true, ite_z, ite_o, eq_self, Bool.false_eq_true, nI_leT, nI_leF, nI_ltT, nI_ltF, nI_ne, and_self, false_and, and_false, Nat.reduceAdd, Nat.reduceSub, Nat.reduceMul, Nat.reduceLT, Nat.reduceLeDiff, true_and]
    exact this
  | k + 1, i, P, l3, σ, h, hT, hF, hP, K => by
    have ih := cf_all_loop (P0 := P0) ht hok hc h12 k (i + 1)
    have h0 := hT.1
    rw [hc] at h0
    obtain ⟨ow, pg, hw, tn, tp, f, g, hAl, hR⟩ := hT.2.2.2.2.2 i (by omega)
    have hR2 := hR (by rw [hc, nIc (by omega)]; omega)
    obtain ⟨r, ow2, pg2, hw2, tn2, tp2, f2, g2, hFC⟩ := hF
    have hf0 := hFC.1
    have r0 : ∀ {fs : List Value} {f g : Nat → Int32}, (cA σ (fc + 1) fs f g).1 fc = some (eO 1 [.ref (fc + 1), .ref (fc + 4), .int r]) := fun {_ _ _} => (cA_ne (by omega)).trans hf0
    have hb := mOK_b hok hc h12 (show i < c by omega)
    rw [sX1_followAll_13]
    simp (disch := omega) only [sX1_followAll_14, sX1_followAll_14n, sX1_followAll_15, sX1_followAll_18, sX1_followAll_21, sX1_followAll_21n, sX1_followAll_22, sX1_followAll_23, sX1_followAll_26, sX1_followAll_26n, sX1_followAll_27, sX1_followAll_27n, sX1_followAll_28, sX1_followAll_28n, sX1_followAll_31, sX1_followAll_32, sX1_followAll_35, sX1_followAll_35n, sX1_followAll_36, sX1_followAll_39, sX1_followAll_40, sX1_followAll_40n, sX1_followAll_41, h0, hf0, r0, cv_albumAt hT hc h12, cv_copyAlb hFC.2.2 hAl (Or.inl (by omega)), aIsT r0, aIsT h0, aIsT hFC.2.2.1, tF_l, tF_g0, tF_g1, tF_g2, tF_g3, tF_g4, tF_g5, tF_s3, tF_s4, tF_s5, aFld, aFds, aRow, aRowR, aRefs, aLn, if_true, List.getElem?_cons_zero, List.getElem?_cons_succ, List.set_cons_zero, List.set_cons_succ, List.length_cons, List.length_nil, Option.some.injEq, exists_eq_left', aput_same, aclr_none, aclr_int, aclr_ref, aclr_null, aret_some, aret_none, bz, bz0, bz1, true_and, and_true, vpT, nIc, nI_add, pk_mul, nI_sub', Nat.add_zero, Nat.zero_add, upd_same, upd_ne, if_false, not_true_eq_false, not_false_eq_true, ite_z, ite_o, eq_self, Bool.false_eq_true, nI_leT, nI_leF, nI_ltT, nI_ltF, nI_ne, and_self, false_and, and_false, Nat.reduceAdd, Nat.reduceSub, Nat.reduceMul, Nat.reduceLT, Nat.reduceLeDiff, true_and]
    refine cf_play ht hok.1 (TabR_keep (fun q g1 g2 => cA_ne (by omega)) hT) (FoC_alb hFC) hb (albR_cpy (bN_8 hb) hR2) (fun σ' P' ow pg hw tn tp f g z1 z2 z3 z4 => ?_)
    simp (disch := omega) only [sX1_followAll_44, sX1_followAll_47, tF_l, tF_g0, tF_g1, tF_g2, tF_g3, tF_g4, tF_g5, tF_s3, tF_s4, tF_s5, aFld, aFds, aRow, aRowR, aRefs, aLn, if_true, List.getElem?_cons_zero, List.getElem?_cons_succ, List.set_cons_zero, List.set_cons_succ, List.length_cons, List.length_nil, Option.some.injEq, exists_eq_left', aput_same, aclr_none, aclr_int, aclr_ref, aclr_null, aret_some, aret_none, bz, bz0, bz1, true_and, and_true, vpT, nIc, nI_add, pk_mul, nI_sub', Nat.add_zero, Nat.zero_add, upd_same, upd_ne, if_false, not_true_eq_false, not_false_eq_true, ite_z, ite_o, eq_self, Bool.false_eq_true, nI_leT, nI_leF, nI_ltT, nI_ltF, nI_ne, and_self, false_and, and_false, Nat.reduceAdd, Nat.reduceSub, Nat.reduceMul, Nat.reduceLT, Nat.reduceLeDiff, true_and]
    have hFr : Fr σ σ' fc 5 := Fr_trans ⟨fun q hq => cA_ne (by omega), rfl⟩ z4
    refine ih P' _ σ' (by omega) (TabR_keep (fun q g1 g2 => hFr.1 q (by omega)) hT) ⟨_, _, _, _, _, _, _, _, z3⟩ (fun j hj => ?_) (fun σ2 P2 y1 y2 y3 => K σ2 P2 y1 y2 (Fr_trans hFr y3))
    rw [z1 j hj, hP j hj, mPtD, Int32.add_assoc]
theorem cf_all {P : Nat → Int32} (ht : t + 41 ≤ fc) (hok : mOK st) (hc : st 34 = nI c) (h12 : c ≤ 12) (hT : TabR σ t st) (hF : FoS σ fc P) (K : ∀ σ' P', FoS σ' fc P' → (∀ j, j < 8 → P' j = st (25 + j) + mPtD st j c) → Fr σ σ' fc 5 → Q none σ') : aX (d + 5) iX1_followAll 0 [some (.ref fc), some (.ref t), none, none] [] σ Q := by
  have hT2 := hT
  obtain ⟨h0, -, -, ⟨Pt, h3, h3'⟩, -⟩ := hT
  obtain ⟨r, ow2, pg2, hw2, tn2, tp2, f2, g2, hFC⟩ := hF
  have hf0 := hFC.1
  simp (disch := omega) only [sX1_followAll_0, sX1_followAll_0n, sX1_followAll_1, sX1_followAll_4, sX1_followAll_5, sX1_followAll_8, sX1_followAll_11, sX1_followAll_12, h0, hf0, ch_copyRow h3 hFC.2.1, tF_l, tF_g0, tF_g1, tF_g2, tF_g3, tF_g4, tF_g5, tF_s3, tF_s4, tF_s5, aFld, aFds, aRow, aRowR, aRefs, aLn, if_true, List.getElem?_cons_zero, List.getElem?_cons_succ, List.set_cons_zero, List.set_cons_succ, List.length_cons, List.length_nil, Option.some.injEq, exists_eq_left', aput_same, aclr_none, aclr_int, aclr_ref, aclr_null, aret_some, aret_none, bz, bz0, bz1, true_and, and_true, vpT, nIc, nI_add, pk_mul, nI_sub', Nat.add_zero, Nat.zero_add, upd_same, upd_ne, if_false, not_true_eq_false, not_false_eq_true, ite_z, ite_o, eq_self, Bool.false_eq_true, nI_leT, nI_leF, nI_ltT, nI_ltF, nI_ne, and_self, false_and, and_false, Nat.reduceAdd, Nat.reduceSub, Nat.reduceMul, Nat.reduceLT, Nat.reduceLeDiff, true_and]
  refine cf_all_loop (P0 := fun j => st (25 + j)) ht hok hc h12 c 0 _ none _ (by omega) (TabR_keep (fun q g1 g2 => aput_ne _ _ (by omega)) hT2) ⟨r, ow2, pg2, hw2, tn2, tp2, f2, g2, (aput_ne _ _ (by omega)).trans hf0, aput_same _ _ _, (aput_ne _ _ (by omega)).trans hFC.2.2.1, (aput_ne _ _ (by omega)).trans hFC.2.2.2.1, (aput_ne _ _ (by omega)).trans hFC.2.2.2.2⟩ (fun j hj => ?_) (fun σ' P' y1 y2 y3 => K σ' P' y1 y2 (Fr_trans (Fr_put (by omega) (by omega)) y3))
  rw [va_cpy_in hj, h3' j hj, mPtD, nI_0, Int32.add_zero]
theorem xor_comm32 (x y : Int32) : x ^^^ y = y ^^^ x := by
  apply b_ext
  intro i hi
  rw [b_xor, b_xor, Bool.xor_comm]
theorem cv_first {a n : Nat} {ow hw tn tp : Int32} {f g : Nat → Int32} (hAl : AlbC σ a ow (nI n) hw tn tp f g) : aX (d + 1) iX0_firstWord 0 [some (.ref a)] [] σ Q ↔ Q (some (.int (g 0))) σ := by
  have h := ca_firstWord (d := d) (σ := σ) (Q := Q) (a := a) (n := n) (ow := ow) (hw := hw) (tn := tn) (tp := tp) (f := f) (g := g)
  rw [cA_self hAl] at h
  exact h
theorem cv_last {a n : Nat} {ow hw tn tp : Int32} {f g : Nat → Int32} (hAl : AlbC σ a ow (nI n) hw tn tp f g) (h1 : 1 ≤ n) (h8 : n ≤ 8) : aX (d + 1) iX0_lastWord 0 [some (.ref a)] [] σ Q ↔ Q (some (.int (g ((n - 1) / 2 * 2)))) σ := by
  have h := ca_lastWord (d := d) (σ := σ) (Q := Q) (a := a) (n := n) (ow := ow) (hw := hw) (tn := tn) (tp := tp) (f := f) (g := g) h1 h8
  rw [cA_self hAl] at h
  exact h
theorem bEnd_5 (hE : eOK st) : ∀ (k : Nat) (b : Nat → Int32), bOK b → bEnd st k b 5 = b 5
  | 0, _, _ => rfl
  | k + 1, b, hb => by
    rw [bEnd]
    by_cases gg : b 2 = nI 0
    · rw [if_pos gg, bEnd_5 hE k _ (bStep_ok hE hb)]
      obtain ⟨n, n1, n2, n3, -⟩ := id hb
      have eN := bOK_N n1 n3
      unfold bStep bGo
      rw [if_pos gg, eN]
      split
      · exact upd_ne (by omega)
      · simp (disch := omega) only [upd_ne]
    · rw [if_neg gg]
theorem cf_diff {s w : Nat} (ht : t + 41 ≤ fc) (hE : eOK st) (hT : TabR σ t st) {P : Nat → Int32} (hF : FoS σ fc P) (hs : s < 8) (hw : w < 16) (K : ∀ σ' P', FoS σ' fc P' → Fr σ σ' fc 5 → Q (some (.int (mDif st s w))) σ') : aX (d + 5) iX1_differenceAtHome 0 [some (.ref fc), some (.ref t), some (.int (nI s)), some (.int (nI w))] [] σ Q := by
  obtain ⟨r, ow2, pg2, hw2, tn2, tp2, f2, g2, hFC⟩ := hF
  have hf0 := hFC.1
  have hT2 := hT
  obtain ⟨h0, ⟨ft, h1, h1'⟩, -⟩ := hT
  have r0 : ∀ {fs : List Value} {f g : Nat → Int32}, (cA σ (fc + 1) fs f g).1 fc = some (eO 1 [.ref (fc + 1), .ref (fc + 4), .int r]) := fun {_ _ _} => (cA_ne (by omega)).trans hf0
  have hb0 := b0_ok hs hw
  simp (disch := omega) only [sX1_differenceAtHome_0, sX1_differenceAtHome_1, sX1_differenceAtHome_4, sX1_differenceAtHome_5, sX1_differenceAtHome_6, sX1_differenceAtHome_9, sX1_differenceAtHome_10, sX1_differenceAtHome_10n, sX1_differenceAtHome_11, hf0, r0, cv_start hFC.2.2, aIsT r0, aIsT hFC.2.2.1, tF_l, tF_g0, tF_g1, tF_g2, tF_g3, tF_g4, tF_g5, tF_s3, tF_s4, tF_s5, aFld, aFds, aRow, aRowR, aRefs, aLn, if_true, List.getElem?_cons_zero, List.getElem?_cons_succ, List.set_cons_zero, List.set_cons_succ, List.length_cons, List.length_nil, Option.some.injEq, exists_eq_left', aput_same, aclr_none, aclr_int, aclr_ref, aclr_null, aret_some, aret_none, bz, bz0, bz1, true_and, and_true, vpT, nIc, nI_add, pk_mul, nI_sub', Nat.add_zero, Nat.zero_add, upd_same, upd_ne, if_false, not_true_eq_false, not_false_eq_true, ite_z, ite_o, eq_self, Bool.false_eq_true, nI_leT, nI_leF, nI_ltT, nI_ltF, nI_ne, and_self, false_and, and_false, Nat.reduceAdd, Nat.reduceSub, Nat.reduceMul, Nat.reduceLT, Nat.reduceLeDiff, true_and]
  refine cf_play ht hE (TabR_keep (fun q g1 g2 => cA_ne (by omega)) hT2) (FoC_alb hFC) hb0 albR_b0 (fun σ' P' ow pg hw' tn tp f g z1 z2 z3 z4 => ?_)
  have hFr : Fr σ σ' fc 5 := Fr_trans ⟨fun q hq => cA_ne (by omega), rfl⟩ z4
  have hbE := bEnd_ok hE 9 _ hb0
  obtain ⟨n, n1, n2, n3, -⟩ := id hbE
  have eN := bOK_N n1 n3
  have hpg : pg = nI n := z2.2.1.trans n1
  subst hpg
  obtain ⟨x, hx, hx16⟩ := bLw_ok hbE
  have hg0 : g 0 = nI w := by
    rw [(z2.2.2.2.2.1 0 (by omega)).2]
    exact bEnd_5 hE 9 _ hb0
  have hgl : g ((n - 1) / 2 * 2) = nI x := by
    rw [(z2.2.2.2.2.1 _ (by omega)).2, ← hx]
    unfold bLw
    rw [eN]
  have h0' : σ'.1 t = some (eO 5 (.ref (t + 1) :: tF t (st 16) (st 34) (st 33))) := (hFr.1 _ (by omega)).trans h0
  have h1c : σ'.1 (t + 1) = some (eI 16 ft) := (hFr.1 _ (by omega)).trans h1
  have hf0' := z3.1
  simp (disch := omega) only [sX1_differenceAtHome_14, sX1_differenceAtHome_14n, sX1_differenceAtHome_15, sX1_differenceAtHome_16, sX1_differenceAtHome_19, sX1_differenceAtHome_22, sX1_differenceAtHome_23, sX1_differenceAtHome_26, sX1_differenceAtHome_29, sX1_differenceAtHome_32, h0', hf0', cv_first z3.2.2, cv_last z3.2.2 n2 n3, hg0, hgl, ct_difference h0' h1c, aIsT h0', aIsT z3.2.2.1, tF_l, tF_g0, tF_g1, tF_g2, tF_g3, tF_g4, tF_g5, tF_s3, tF_s4, tF_s5, aFld, aFds, aRow, aRowR, aRefs, aLn, if_true, List.getElem?_cons_zero, List.getElem?_cons_succ, List.set_cons_zero, List.set_cons_succ, List.length_cons, List.length_nil, Option.some.injEq, exists_eq_left', aput_same, aclr_none, aclr_int, aclr_ref, aclr_null, aret_some, aret_none, bz, bz0, bz1, true_and, and_true, vpT, nIc, nI_add, pk_mul, nI_sub', Nat.add_zero, Nat.zero_add, upd_same, upd_ne, if_false, not_true_eq_false, not_false_eq_true, ite_z, ite_o, eq_self, Bool.false_eq_true, nI_leT, nI_leF, nI_ltT, nI_ltF, nI_ne, and_self, false_and, and_false, Nat.reduceAdd, Nat.reduceSub, Nat.reduceMul, Nat.reduceLT, Nat.reduceLeDiff, true_and]
  have hres : jBc (ft w ^^^ ft x) = mDif st s w := by
    unfold mDif
    rw [hx, nIc (by omega), h1' w hw, h1' x hx16]
    obtain ⟨y, hy, hy2⟩ := hE.1 w hw
    obtain ⟨z, hz, hz2⟩ := hE.1 x hx16
    rw [hy, hz, xor_comm32]
    obtain ⟨q, hq, hq2⟩ := xor_4096 hz2 hy2
    rw [hq, jBc_eq hq2]
  rw [hres]
  exact K σ' P' ⟨_, _, _, _, _, _, _, _, z3⟩ hFr
end CFO
