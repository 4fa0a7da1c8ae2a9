/-! THE CLASS: a table: begin, tell, copies, clear, pages -/
section CZ
variable {d : Nat} {σ : aS} {Q : aQ} {t c : Nat} {st : Nat → Int32}
theorem cv_start {a : Nat} {ow pg hw tn tp s v : Int32} {f g : Nat → Int32} (hAl : AlbC σ a ow pg hw tn tp f g) : aX (d + 2) iX0_start 0 [some (.ref a), some (.int s), some (.int v)] [] σ Q ↔ Q none (cA σ a (cF a s (nI 1) (nI 0) (-6) (nI 0)) (upd f 0 s) (upd g 0 v)) := by
  have h := ca_start (d := d) (σ := σ) (Q := Q) (a := a) (ow := ow) (pg := pg) (hw := hw) (tn := tn) (tp := tp) (f := f) (g := g) (s := s) (v := v)
  rw [cA_self hAl] at h
  exact h
theorem cv_ends {a n : Nat} {ow hw tn tp : Int32} {f g : Nat → Int32} (hAl : AlbC σ a ow (nI n) hw tn tp f g) (h8 : n ≤ 8) : aX d iX0_endsWithWord 0 [some (.ref a)] [] σ Q ↔ Q (some (.int (if n % 2 = 1 then nI 1 else nI 0))) σ := by
  have h := ca_endsWithWord (d := d) (σ := σ) (Q := Q) (a := a) (n := n) (ow := ow) (hw := hw) (tn := tn) (tp := tp) (f := f) (g := g) h8
  rw [cA_self hAl] at h
  exact h
theorem cv_seatSet {a n : Nat} {ow hw tn tp : Int32} {f g : Nat → Int32} (hAl : AlbC σ a ow (nI n) hw tn tp f g) (h8 : n ≤ 8) : aX (d + 1) iX0_seatSet 0 [some (.ref a), none, none] [] σ Q ↔ Q (some (.int (cSet f n))) σ := by
  have h := ca_seatSet (d := d) (σ := σ) (Q := Q) (a := a) (n := n) (ow := ow) (hw := hw) (tn := tn) (tp := tp) (f := f) (g := g) h8
  rw [cA_self hAl] at h
  exact h
theorem cv_begE {s w v : Int32} (hT : TabR σ t st) (hc : st 34 = nI c) (h12 : c ≤ 12) (hu : mUn st c) (hv : mWBeg st s w c = v) (hn : (nI 0 ≤ v) = False) : aX (d + 3) iX5_beginAlbum 0 [some (.ref t), some (.int s), some (.int w), none] [] σ Q ↔ Q (some (.int v)) σ := by
  have h0 := hT.1
  rw [hc] at h0
  unfold mWBeg at hv
  rcases inR_split 0 7 s (by decide) rfl with ⟨j, hj, e⟩ | e
  · subst e
    rcases inR_split 0 15 w (by decide) rfl with ⟨x, hx, e2⟩ | e2
    · subst e2
      rw [if_pos (by rw [inR_T (by omega) (by omega), inR_T (by omega) (by omega)]; exact ⟨trivial, trivial⟩)] at hv
      by_cases g : c = 12
      · rw [if_pos g] at hv
        subst hv g
        simp (disch := omega) only [sX5_beginAlbum_0, sX5_beginAlbum_1, sX5_beginAlbum_3, sX5_beginAlbum_6, sX5_beginAlbum_9, sX5_beginAlbum_10, sX5_beginAlbum_12, sX5_beginAlbum_15, sX5_beginAlbum_18, sX5_beginAlbum_19, sX5_beginAlbum_20, sX5_beginAlbum_21, sX5_beginAlbum_22, sX5_beginAlbum_25, sX5_beginAlbum_28, sX5_beginAlbum_28n, sX5_beginAlbum_29, sX5_beginAlbum_29n, sX5_beginAlbum_30, sX5_beginAlbum_30n, sX5_beginAlbum_33, sX5_beginAlbum_35, sX5_beginAlbum_36, sX5_beginAlbum_37, sX5_beginAlbum_38, sX5_beginAlbum_41, sX5_beginAlbum_44, sX5_beginAlbum_45, sX5_beginAlbum_46, sX5_beginAlbum_49, sX5_beginAlbum_51, sX5_beginAlbum_54, sX5_beginAlbum_56, sX5_beginAlbum_57, sX5_beginAlbum_57n, sX5_beginAlbum_58, sX5_beginAlbum_59, sX5_beginAlbum_60, sX5_beginAlbum_63, sX5_beginAlbum_64, sX5_beginAlbum_64i, sX5_beginAlbum_65, sX5_beginAlbum_68, sX5_beginAlbum_69, sX5_beginAlbum_70, sX5_beginAlbum_73, sX5_beginAlbum_74, sX5_beginAlbum_77, sX5_beginAlbum_78, sX5_beginAlbum_79, ch_isBelow, cv_placeOut hT (Or.inr rfl), h0, aIsT h0, tF_l, tF_g0, tF_g1, tF_g2, tF_g3, tF_g4, tF_g5, tF_s3, tF_s4, tF_s5, aFld, aFds, aRow, aRowR, aRefs, aLn, if_true, List.getElem?_cons_zero, List.getElem?_cons_succ, List.set_cons_zero, List.set_cons_succ, List.length_cons, List.length_nil, Option.some.injEq, exists_eq_left', aput_same, aclr_none, aclr_int, aclr_ref, aclr_null, aret_some, aret_none, bz, bz0, bz1, true_and, and_true, vpT, nIc, nI_add, pk_mul, nI_sub', Nat.add_zero, Nat.zero_add, upd_same, upd_ne, if_false, not_true_eq_false, not_false_eq_true, ite_z, ite_o, eq_self, Bool.false_eq_true, nI_leT, nI_leF, nI_ltT, nI_ltF, nI_ne, and_self, false_and, and_false, Nat.reduceAdd, Nat.reduceSub, Nat.reduceMul, Nat.reduceLT, Nat.reduceLeDiff, true_and]
      · rw [if_neg g] at hv
        by_cases g1 : mTk st (nI j) = true
        · by_cases g2 : mAlbOf st (nI j) c = -6
          · rw [if_pos ⟨g1, g2⟩] at hv
            subst hv
            exact absurd (Int32.le_refl (nI 0)) hn.mp
          · rw [if_neg (fun z => g2 z.2)] at hv
            subst hv
            simp (disch := omega) only [sX5_beginAlbum_0, sX5_beginAlbum_1, sX5_beginAlbum_3, sX5_beginAlbum_6, sX5_beginAlbum_9, sX5_beginAlbum_10, sX5_beginAlbum_12, sX5_beginAlbum_15, sX5_beginAlbum_18, sX5_beginAlbum_19, sX5_beginAlbum_20, sX5_beginAlbum_21, sX5_beginAlbum_22, sX5_beginAlbum_25, sX5_beginAlbum_28, sX5_beginAlbum_28n, sX5_beginAlbum_29, sX5_beginAlbum_29n, sX5_beginAlbum_30, sX5_beginAlbum_30n, sX5_beginAlbum_33, sX5_beginAlbum_35, sX5_beginAlbum_36, sX5_beginAlbum_37, sX5_beginAlbum_38, sX5_beginAlbum_41, sX5_beginAlbum_44, sX5_beginAlbum_45, sX5_beginAlbum_46, sX5_beginAlbum_49, sX5_beginAlbum_51, sX5_beginAlbum_54, sX5_beginAlbum_56, sX5_beginAlbum_57, sX5_beginAlbum_57n, sX5_beginAlbum_58, sX5_beginAlbum_59, sX5_beginAlbum_60, sX5_beginAlbum_63, sX5_beginAlbum_64, sX5_beginAlbum_64i, sX5_beginAlbum_65, sX5_beginAlbum_68, sX5_beginAlbum_69, sX5_beginAlbum_70, sX5_beginAlbum_73, sX5_beginAlbum_74, sX5_beginAlbum_77, sX5_beginAlbum_78, sX5_beginAlbum_79, ch_isBelow, cv_placeAt hT, cv_taken hT, cv_albOf hT hc h12 hu, g1, g2, h0, aIsT h0, tF_l, tF_g0, tF_g1, tF_g2, tF_g3, tF_g4, tF_g5, tF_s3, tF_s4, tF_s5, aFld, aFds, aRow, aRowR, aRefs, aLn, if_true, List.getElem?_cons_zero, List.getElem?_cons_succ, List.set_cons_zero, List.set_cons_succ, List.length_cons, List.length_nil, Option.some.injEq, exists_eq_left', aput_same, aclr_none, aclr_int, aclr_ref, aclr_null, aret_some, aret_none, bz, bz0, bz1, true_and, and_true, vpT, nIc, nI_add, pk_mul, nI_sub', Nat.add_zero, Nat.zero_add, upd_same, upd_ne, if_false, not_true_eq_false, not_false_eq_true, ite_z, ite_o, eq_self, Bool.false_eq_true, nI_leT, nI_leF, nI_ltT, nI_ltF, nI_ne, and_self, false_and, and_false, Nat.reduceAdd, Nat.reduceSub, Nat.reduceMul, Nat.reduceLT, Nat.reduceLeDiff, true_and]
        · rw [if_neg (fun z => g1 z.1)] at hv
          subst hv
          simp (disch := omega) only [sX5_beginAlbum_0, sX5_beginAlbum_1, sX5_beginAlbum_3, sX5_beginAlbum_6, sX5_beginAlbum_9, sX5_beginAlbum_10, sX5_beginAlbum_12, sX5_beginAlbum_15, sX5_beginAlbum_18, sX5_beginAlbum_19, sX5_beginAlbum_20, sX5_beginAlbum_21, sX5_beginAlbum_22, sX5_beginAlbum_25, sX5_beginAlbum_28, sX5_beginAlbum_28n, sX5_beginAlbum_29, sX5_beginAlbum_29n, sX5_beginAlbum_30, sX5_beginAlbum_30n, sX5_beginAlbum_33, sX5_beginAlbum_35, sX5_beginAlbum_36, sX5_beginAlbum_37, sX5_beginAlbum_38, sX5_beginAlbum_41, sX5_beginAlbum_44, sX5_beginAlbum_45, sX5_beginAlbum_46, sX5_beginAlbum_49, sX5_beginAlbum_51, sX5_beginAlbum_54, sX5_beginAlbum_56, sX5_beginAlbum_57, sX5_beginAlbum_57n, sX5_beginAlbum_58, sX5_beginAlbum_59, sX5_beginAlbum_60, sX5_beginAlbum_63, sX5_beginAlbum_64, sX5_beginAlbum_64i, sX5_beginAlbum_65, sX5_beginAlbum_68, sX5_beginAlbum_69, sX5_beginAlbum_70, sX5_beginAlbum_73, sX5_beginAlbum_74, sX5_beginAlbum_77, sX5_beginAlbum_78, sX5_beginAlbum_79, ch_isBelow, cv_placeAt hT, cv_taken hT, g1, h0, aIsT h0, tF_l, tF_g0, tF_g1, tF_g2, tF_g3, tF_g4, tF_g5, tF_s3, tF_s4, tF_s5, aFld, aFds, aRow, aRowR, aRefs, aLn, if_true, List.getElem?_cons_zero, List.getElem?_cons_succ, List.set_cons_zero, List.set_cons_succ, List.length_cons, List.length_nil, Option.some.injEq, exists_eq_left', aput_same, aclr_none, aclr_int, aclr_ref, aclr_null, aret_some, aret_none, bz, bz0, bz1, true_and, and_true, vpT, nIc, nI_add, pk_mul, nI_sub', Nat.add_zero, Nat.zero_add, upd_same, upd_ne, if_false, not_true_eq_false, not_false_eq_true, ite_z, ite_o, eq_self, Bool.false_eq_true, nI_leT, nI_leF, nI_ltT, nI_ltF, nI_ne, and_self, false_and, and_false, Nat.reduceAdd, Nat.reduceSub, Nat.reduceMul, Nat.reduceLT, Nat.reduceLeDiff, true_and]
    · rw [if_neg (fun z => e2.mp z.2)] at hv
      subst hv
      simp only [inR] at e2
      simp (disch := omega) only [sX5_beginAlbum_0, sX5_beginAlbum_1, sX5_beginAlbum_3, sX5_beginAlbum_6, sX5_beginAlbum_9, sX5_beginAlbum_10, sX5_beginAlbum_12, sX5_beginAlbum_15, sX5_beginAlbum_18, sX5_beginAlbum_19, sX5_beginAlbum_20, sX5_beginAlbum_21, sX5_beginAlbum_22, sX5_beginAlbum_25, sX5_beginAlbum_28, sX5_beginAlbum_28n, sX5_beginAlbum_29, sX5_beginAlbum_29n, sX5_beginAlbum_30, sX5_beginAlbum_30n, sX5_beginAlbum_33, sX5_beginAlbum_35, sX5_beginAlbum_36, sX5_beginAlbum_37, sX5_beginAlbum_38, sX5_beginAlbum_41, sX5_beginAlbum_44, sX5_beginAlbum_45, sX5_beginAlbum_46, sX5_beginAlbum_49, sX5_beginAlbum_51, sX5_beginAlbum_54, sX5_beginAlbum_56, sX5_beginAlbum_57, sX5_beginAlbum_57n, sX5_beginAlbum_58, sX5_beginAlbum_59, sX5_beginAlbum_60, sX5_beginAlbum_63, sX5_beginAlbum_64, sX5_beginAlbum_64i, sX5_beginAlbum_65, sX5_beginAlbum_68, sX5_beginAlbum_69, sX5_beginAlbum_70, sX5_beginAlbum_73, sX5_beginAlbum_74, sX5_beginAlbum_77, sX5_beginAlbum_78, sX5_beginAlbum_79, ch_isBelow, e2, tF_l, tF_g0, tF_g1, tF_g2, tF_g3, tF_g4, tF_g5, tF_s3, tF_s4, tF_s5, aFld, aFds, aRow, aRowR, aRefs, aLn, if_true, List.getElem?_cons_zero, List.getElem?_cons_succ, List.set_cons_zero, List.set_cons_succ, List.length_cons, List.length_nil, Option.some.injEq, exists_eq_left', aput_same, aclr_none, aclr_int, aclr_ref, aclr_null, aret_some, aret_none, bz, bz0, bz1, true_and, and_true, vpT, nIc, nI_add, pk_mul, nI_sub', Nat.add_zero, Nat.zero_add, upd_same, upd_ne, if_false, not_true_eq_false, not_false_eq_true, ite_z, ite_o, eq_self, Bool.false_eq_true, nI_leT, nI_leF, nI_ltT, nI_ltF, nI_ne, and_self, false_and, and_false, Nat.reduceAdd, Nat.reduceSub, Nat.reduceMul, Nat.reduceLT, Nat.reduceLeDiff, true_and]
  · rw [if_neg (fun z => e.mp z.1)] at hv
    subst hv
    simp only [inR] at e
    simp (disch := omega) only [sX5_beginAlbum_0, sX5_beginAlbum_1, sX5_beginAlbum_3, sX5_beginAlbum_6, sX5_beginAlbum_9, sX5_beginAlbum_10, sX5_beginAlbum_12, sX5_beginAlbum_15, sX5_beginAlbum_18, sX5_beginAlbum_19, sX5_beginAlbum_20, sX5_beginAlbum_21, sX5_beginAlbum_22, sX5_beginAlbum_25, sX5_beginAlbum_28, sX5_beginAlbum_28n, sX5_beginAlbum_29, sX5_beginAlbum_29n, sX5_beginAlbum_30, sX5_beginAlbum_30n, sX5_beginAlbum_33, sX5_beginAlbum_35, sX5_beginAlbum_36, sX5_beginAlbum_37, sX5_beginAlbum_38, sX5_beginAlbum_41, sX5_beginAlbum_44, sX5_beginAlbum_45, sX5_beginAlbum_46, sX5_beginAlbum_49, sX5_beginAlbum_51, sX5_beginAlbum_54, sX5_beginAlbum_56, sX5_beginAlbum_57, sX5_beginAlbum_57n, sX5_beginAlbum_58, sX5_beginAlbum_59, sX5_beginAlbum_60, sX5_beginAlbum_63, sX5_beginAlbum_64, sX5_beginAlbum_64i, sX5_beginAlbum_65, sX5_beginAlbum_68, sX5_beginAlbum_69, sX5_beginAlbum_70, sX5_beginAlbum_73, sX5_beginAlbum_74, sX5_beginAlbum_77, sX5_beginAlbum_78, sX5_beginAlbum_79, ch_isBelow, e, tF_l, tF_g0, tF_g1, tF_g2, tF_g3, tF_g4, tF_g5, tF_s3, tF_s4, tF_s5, aFld, aFds, aRow, aRowR, aRefs, aLn, if_true, List.getElem?_cons_zero, List.getElem?_cons_succ, List.set_cons_zero, List.set_cons_succ, List.length_cons, List.length_nil, Option.some.injEq, exists_eq_left', aput_same, aclr_none, aclr_int, aclr_ref, aclr_null, aret_some, aret_none, bz, bz0, bz1, true_and, and_true, vpT, nIc, nI_add, pk_mul, nI_sub', Nat.add_zero, Nat.zero_add, upd_same, upd_ne, if_false, not_true_eq_false, not_false_eq_true, ite_z, ite_o, eq_self, Bool.false_eq_true, nI_leT, nI_leF, nI_ltT, nI_ltF, nI_ne, and_self, false_and, and_false, Nat.reduceAdd, Nat.reduceSub, Nat.reduceMul, Nat.reduceLT, Nat.reduceLeDiff, true_and]
theorem bN_b0 {s w : Nat} : bN (b0 s w) = 1 := rfl
theorem albR_b0 {s w : Nat} {f g : Nat → Int32} : albR (b0 s w) (nI s) (nI 1) (nI 0) (-6) (nI 0) (upd f 0 (nI s)) (upd g 0 (nI w)) := by
  refine ⟨rfl, rfl, rfl, rfl, fun i hi => ?_, fun i hi => ?_⟩
  · rw [bN_b0] at hi
    have e : i = 0 := by omega
    subst e
    rw [upd_same, upd_same]
    exact ⟨rfl, rfl⟩
  · rw [bN_b0, b_nz]
    refine (decide_eq_false (fun z => ?_)).symm
    have e : i = 0 := by omega
    subst e
    have z2 : nI 0 = nI 1 := z.2
    exact absurd z2 (by decide)
theorem cv_beg {s w : Nat} (hT : TabR σ t st) (hok : mOK st) (hc : st 34 = nI c) (h12 : c < 12) (hu : mUn st c) (hs : s ≤ 7) (hw : w ≤ 15) (hv : mWBeg st (nI s) (nI w) c = nI 0) (K : ∀ σ', TabR σ' t (mBeg st c s w) → Fr σ σ' t 41 → Q (some (.int (nI c))) σ') : aX (d + 3) iX5_beginAlbum 0 [some (.ref t), some (.int (nI s)), some (.int (nI w)), none] [] σ Q := by
  obtain ⟨-, -, -, -, -, -, -, g1, g2⟩ := mWBeg_0 hv
  have hT2 := hT
  obtain ⟨h0, ⟨ft, h1, h1'⟩, ⟨dr, h2, h2'⟩, ⟨P, h3, h3'⟩, ⟨F, h4, h4'⟩, hA⟩ := hT
  rw [hc] at h0
  obtain ⟨ow, pg, hh, tn, tp, f, g, hAl, -⟩ := hA c (by omega)
  have r0 : ∀ {fs : List Value} {f g : Nat → Int32}, (cA σ (t + 5 + 3 * c) fs f g).1 t = some (eO 5 (.ref (t + 1) :: tF t (st 16) (nI c) (st 33))) := fun {_ _ _} => (cA_ne (by omega)).trans h0
  simp (disch := omega) only [sX5_beginAlbum_0, sX5_beginAlbum_1, sX5_beginAlbum_3, sX5_beginAlbum_6, sX5_beginAlbum_9, sX5_beginAlbum_10, sX5_beginAlbum_12, sX5_beginAlbum_15, sX5_beginAlbum_18, sX5_beginAlbum_19, sX5_beginAlbum_20, sX5_beginAlbum_21, sX5_beginAlbum_22, sX5_beginAlbum_25, sX5_beginAlbum_28, sX5_beginAlbum_28n, sX5_beginAlbum_29, sX5_beginAlbum_29n, sX5_beginAlbum_30, sX5_beginAlbum_30n, sX5_beginAlbum_33, sX5_beginAlbum_35, sX5_beginAlbum_36, sX5_beginAlbum_37, sX5_beginAlbum_38, sX5_beginAlbum_41, sX5_beginAlbum_44, sX5_beginAlbum_45, sX5_beginAlbum_46, sX5_beginAlbum_49, sX5_beginAlbum_51, sX5_beginAlbum_54, sX5_beginAlbum_56, sX5_beginAlbum_57, sX5_beginAlbum_57n, sX5_beginAlbum_58, sX5_beginAlbum_59, sX5_beginAlbum_60, sX5_beginAlbum_63, sX5_beginAlbum_64, sX5_beginAlbum_64i, sX5_beginAlbum_65, sX5_beginAlbum_68, sX5_beginAlbum_69, sX5_beginAlbum_70, sX5_beginAlbum_73, sX5_beginAlbum_74, sX5_beginAlbum_77, sX5_beginAlbum_78, sX5_beginAlbum_79, ch_isBelow, cv_placeAt hT2, cv_taken hT2, cv_albOf hT2 hc (show c ≤ 12 by omega) hu, cv_start hAl, g1, g2, h0, r0, aIsT h0, aIsT hAl.1, tF_l, tF_g0, tF_g1, tF_g2, tF_g3, tF_g4, tF_g5, tF_s3, tF_s4, tF_s5, aFld, aFds, aRow, aRowR, aRefs, aLn, if_true, List.getElem?_cons_zero, List.getElem?_cons_succ, List.set_cons_zero, List.set_cons_succ, List.length_cons, List.length_nil, Option.some.injEq, exists_eq_left', aput_same, aclr_none, aclr_int, aclr_ref, aclr_null, aret_some, aret_none, bz, bz0, bz1, true_and, and_true, vpT, nIc, nI_add, pk_mul, nI_sub', Nat.add_zero, Nat.zero_add, upd_same, upd_ne, if_false, not_true_eq_false, not_false_eq_true, ite_z, ite_o, eq_self, Bool.false_eq_true, nI_leT, nI_leF, nI_ltT, nI_ltF, nI_ne, and_self, false_and, and_false, Nat.reduceAdd, Nat.reduceSub, Nat.reduceMul, Nat.reduceLT, Nat.reduceLeDiff, true_and]
  have u : ∀ k, ¬ (35 + 28 * c ≤ k ∧ k < 63 + 28 * c) → k ≠ 34 → mBeg st c s w k = st k := fun k g1 g2 => mBeg_out st c s w g1 g2
  have hr : ∀ q e, σ.1 q = some e → (q < t + 5 + 3 * c ∨ t + 5 + 3 * c + 2 < q) → q ≠ t → (aput (cA σ (t + 5 + 3 * c) (cF (t + 5 + 3 * c) (nI s) (nI 1) (nI 0) (-6) (nI 0)) (upd f 0 (nI s)) (upd g 0 (nI w))) t (eO 5 (.ref (t + 1) :: tF t (st 16) (nI (c + 1)) (st 33)))).1 q = some e := fun q e h g1 g2 => by rw [aput_ne _ _ g2, cA_ne g1]; exact h
  refine K _ ⟨?_, ⟨ft, hr _ _ h1 (by omega) (by omega), fun k hk => by rw [u _ (by omega) (by omega)]; exact h1' k hk⟩, ⟨dr, hr _ _ h2 (by omega) (by omega), fun k hk => by rw [u _ (by omega) (by omega)]; exact h2' k hk⟩, ⟨P, hr _ _ h3 (by omega) (by omega), fun k hk => by rw [u _ (by omega) (by omega)]; exact h3' k hk⟩, ⟨F, hr _ _ h4 (by omega) (by omega), h4'⟩, fun j hj => ?_⟩ ?_
  · rw [mBeg_34, u 16 (by omega) (by omega), u 33 (by omega) (by omega)]
    exact aput_same _ _ _
  · by_cases e : j = c
    · subst e
      refine ⟨_, _, _, _, _, _, _, ⟨(aput_ne _ _ (by omega)).trans cA_0, (aput_ne _ _ (by omega)).trans cA_1, (aput_ne _ _ (by omega)).trans cA_2⟩, fun _ => ?_⟩
      exact albR_cong (by rw [bN_b0]; omega) (mBeg_bk st j s w) albR_b0
    · refine TabA_keep (fun q g1 g2 => by rw [aput_ne _ _ (by omega), cA_ne (by omega)]) (fun hj2 => ?_) (hA j hj)
      rw [mBeg_34, nIc (by omega)] at hj2
      rw [hc, nIc (by omega)]
      exact ⟨by omega, mOK_b hok hc (by omega) (by omega), fun i hi => u _ (by omega) (by omega)⟩
  · exact ⟨fun q hq => by rw [aput_ne _ _ (by omega), cA_ne (by omega)], rfl⟩
theorem cv_tellN {x p : Int32} (hT : TabR σ t st) (hc : st 34 = nI c) (h12 : c ≤ 12) (hx : (nI 0 ≤ x ∧ x ≤ nI c - nI 1) = False) : aX (d + 2) iX5_tellPage 0 [some (.ref t), some (.int x), some (.int p), none, none] [] σ Q ↔ Q (some (.int (-1))) σ := by
  simp (disch := omega) only [sX5_tellPage_0, sX5_tellPage_1, sX5_tellPage_2, sX5_tellPage_5, sX5_tellPage_5n, sX5_tellPage_6, sX5_tellPage_6n, sX5_tellPage_7, sX5_tellPage_7n, sX5_tellPage_10, sX5_tellPage_11, sX5_tellPage_12, sX5_tellPage_13, sX5_tellPage_13n, sX5_tellPage_14, sX5_tellPage_17, sX5_tellPage_20, sX5_tellPage_23, sX5_tellPage_26, sX5_tellPage_28, sX5_tellPage_31, sX5_tellPage_34, sX5_tellPage_36, sX5_tellPage_37, sX5_tellPage_37n, sX5_tellPage_38, sX5_tellPage_41, sX5_tellPage_44, sX5_tellPage_46, sX5_tellPage_47, sX5_tellPage_47n, sX5_tellPage_48, sX5_tellPage_51, sX5_tellPage_53, sX5_tellPage_56, sX5_tellPage_57, sX5_tellPage_60, sX5_tellPage_61, sX5_tellPage_63, sX5_tellPage_63n, sX5_tellPage_64, sX5_tellPage_65, sX5_tellPage_68, sX5_tellPage_70, cv_albumN hT hc h12 hx, aIsT hT.1, tF_l, tF_g0, tF_g1, tF_g2, tF_g3, tF_g4, tF_g5, tF_s3, tF_s4, tF_s5, aFld, aFds, aRow, aRowR, aRefs, aLn, if_true, List.getElem?_cons_zero, List.getElem?_cons_succ, List.set_cons_zero, List.set_cons_succ, List.length_cons, List.length_nil, Option.some.injEq, exists_eq_left', aput_same, aclr_none, aclr_int, aclr_ref, aclr_null, aret_some, aret_none, bz, bz0, bz1, true_and, and_true, vpT, nIc, nI_add, pk_mul, nI_sub', Nat.add_zero, Nat.zero_add, upd_same, upd_ne, if_false, not_true_eq_false, not_false_eq_true, ite_z, ite_o, eq_self, Bool.false_eq_true, nI_leT, nI_leF, nI_ltT, nI_ltF, nI_ne, and_self, false_and, and_false, Nat.reduceAdd, Nat.reduceSub, Nat.reduceMul, Nat.reduceLT, Nat.reduceLeDiff, true_and]
theorem cv_tellE {a n : Nat} {p v : Int32} (hT : TabR σ t st) (hok : mOK st) (hc : st 34 = nI c) (h12 : c ≤ 12) (ha : a < c) (hn : st (35 + 28 * a + 1) = nI n) (h8 : n ≤ 8) (hv : mWTell st a n p = v) (hneg : (nI 0 ≤ v) = False) : aX (d + 2) iX5_tellPage 0 [some (.ref t), some (.int (nI a)), some (.int p), none, none] [] σ Q ↔ Q (some (.int v)) σ := by
  obtain ⟨ow, pg, hw, tn, tp, f, g, hAl, hR⟩ := hT.2.2.2.2.2 a (by omega)
  have hR' := hR (by rw [hc, nIc (by omega)]; omega)
  have hpg : pg = nI n := hR'.2.1.trans hn
  have hhw : st (35 + 28 * a + 2) = hw := hR'.2.2.1.symm
  subst hpg
  unfold mWTell at hv
  rw [hhw] at hv
  rcases Nat.mod_two_eq_zero_or_one n with e | e
  · rw [if_pos e] at hv
    by_cases g1 : inR p 0 15
    · rw [if_pos g1] at hv
      simp only [inR] at g1
      by_cases g2 : hw = nI 0
      · rw [if_pos g2] at hv
        subst hv
        exact absurd (Int32.le_refl (nI 0)) hneg.mp
      · rw [if_neg g2] at hv
        subst hv
        simp (disch := omega) only [sX5_tellPage_0, sX5_tellPage_1, sX5_tellPage_2, sX5_tellPage_5, sX5_tellPage_5n, sX5_tellPage_6, sX5_tellPage_6n, sX5_tellPage_7, sX5_tellPage_7n, sX5_tellPage_10, sX5_tellPage_11, sX5_tellPage_12, sX5_tellPage_13, sX5_tellPage_13n, sX5_tellPage_14, sX5_tellPage_17, sX5_tellPage_20, sX5_tellPage_23, sX5_tellPage_26, sX5_tellPage_28, sX5_tellPage_31, sX5_tellPage_34, sX5_tellPage_36, sX5_tellPage_37, sX5_tellPage_37n, sX5_tellPage_38, sX5_tellPage_41, sX5_tellPage_44, sX5_tellPage_46, sX5_tellPage_47, sX5_tellPage_47n, sX5_tellPage_48, sX5_tellPage_51, sX5_tellPage_53, sX5_tellPage_56, sX5_tellPage_57, sX5_tellPage_60, sX5_tellPage_61, sX5_tellPage_63, sX5_tellPage_63n, sX5_tellPage_64, sX5_tellPage_65, sX5_tellPage_68, sX5_tellPage_70, cv_albumAt hT hc h12, cv_ends hAl h8, cv_goes hAl, ch_isBelow, aIsT hT.1, aIsT hAl.1, e, n10, n01, g1, g2, tF_l, tF_g0, tF_g1, tF_g2, tF_g3, tF_g4, tF_g5, tF_s3, tF_s4, tF_s5, aFld, aFds, aRow, aRowR, aRefs, aLn, if_true, List.getElem?_cons_zero, List.getElem?_cons_succ, List.set_cons_zero, List.set_cons_succ, List.length_cons, List.length_nil, Option.some.injEq, exists_eq_left', aput_same, aclr_none, aclr_int, aclr_ref, aclr_null, aret_some, aret_none, bz, bz0, bz1, true_and, and_true, vpT, nIc, nI_add, pk_mul, nI_sub', Nat.add_zero, Nat.zero_add, upd_same, upd_ne, if_false, not_true_eq_false, not_false_eq_true, ite_z, ite_o, eq_self, Bool.false_eq_true, nI_leT, nI_leF, nI_ltT, nI_ltF, nI_ne, and_self, false_and, and_false, Nat.reduceAdd, Nat.reduceSub, Nat.reduceMul, Nat.reduceLT, Nat.reduceLeDiff, true_and]
    · rw [if_neg g1] at hv
      simp only [inR] at g1
      subst hv
      simp (disch := omega) only [sX5_tellPage_0, sX5_tellPage_1, sX5_tellPage_2, sX5_tellPage_5, sX5_tellPage_5n, sX5_tellPage_6, sX5_tellPage_6n, sX5_tellPage_7, sX5_tellPage_7n, sX5_tellPage_10, sX5_tellPage_11, sX5_tellPage_12, sX5_tellPage_13, sX5_tellPage_13n, sX5_tellPage_14, sX5_tellPage_17, sX5_tellPage_20, sX5_tellPage_23, sX5_tellPage_26, sX5_tellPage_28, sX5_tellPage_31, sX5_tellPage_34, sX5_tellPage_36, sX5_tellPage_37, sX5_tellPage_37n, sX5_tellPage_38, sX5_tellPage_41, sX5_tellPage_44, sX5_tellPage_46, sX5_tellPage_47, sX5_tellPage_47n, sX5_tellPage_48, sX5_tellPage_51, sX5_tellPage_53, sX5_tellPage_56, sX5_tellPage_57, sX5_tellPage_60, sX5_tellPage_61, sX5_tellPage_63, sX5_tellPage_63n, sX5_tellPage_64, sX5_tellPage_65, sX5_tellPage_68, sX5_tellPage_70, cv_albumAt hT hc h12, cv_ends hAl h8, cv_goes hAl, ch_isBelow, aIsT hT.1, aIsT hAl.1, e, n10, n01, g1, tF_l, tF_g0, tF_g1, tF_g2, tF_g3, tF_g4, tF_g5, tF_s3, tF_s4, tF_s5, aFld, aFds, aRow, aRowR, aRefs, aLn, if_true, List.getElem?_cons_zero, List.getElem?_cons_succ, List.set_cons_zero, List.set_cons_succ, List.length_cons, List.length_nil, Option.some.injEq, exists_eq_left', aput_same, aclr_none, aclr_int, aclr_ref, aclr_null, aret_some, aret_none, bz, bz0, bz1, true_and, and_true, vpT, nIc, nI_add, pk_mul, nI_sub', Nat.add_zero, Nat.zero_add, upd_same, upd_ne, if_false, not_true_eq_false, not_false_eq_true, ite_z, ite_o, eq_self, Bool.false_eq_true, nI_leT, nI_leF, nI_ltT, nI_ltF, nI_ne, and_self, false_and, and_false, Nat.reduceAdd, Nat.reduceSub, Nat.reduceMul, Nat.reduceLT, Nat.reduceLeDiff, true_and]
  · rw [if_neg (show ¬ n % 2 = 0 by omega)] at hv
    by_cases g1 : inR p 0 4095
    · rw [if_pos g1] at hv
      simp only [inR] at g1
      by_cases g2 : hw = nI 0
      · rw [if_pos g2] at hv
        subst hv
        exact absurd (Int32.le_refl (nI 0)) hneg.mp
      · rw [if_neg g2] at hv
        subst hv
        simp (disch := omega) only [sX5_tellPage_0, sX5_tellPage_1, sX5_tellPage_2, sX5_tellPage_5, sX5_tellPage_5n, sX5_tellPage_6, sX5_tellPage_6n, sX5_tellPage_7, sX5_tellPage_7n, sX5_tellPage_10, sX5_tellPage_11, sX5_tellPage_12, sX5_tellPage_13, sX5_tellPage_13n, sX5_tellPage_14, sX5_tellPage_17, sX5_tellPage_20, sX5_tellPage_23, sX5_tellPage_26, sX5_tellPage_28, sX5_tellPage_31, sX5_tellPage_34, sX5_tellPage_36, sX5_tellPage_37, sX5_tellPage_37n, sX5_tellPage_38, sX5_tellPage_41, sX5_tellPage_44, sX5_tellPage_46, sX5_tellPage_47, sX5_tellPage_47n, sX5_tellPage_48, sX5_tellPage_51, sX5_tellPage_53, sX5_tellPage_56, sX5_tellPage_57, sX5_tellPage_60, sX5_tellPage_61, sX5_tellPage_63, sX5_tellPage_63n, sX5_tellPage_64, sX5_tellPage_65, sX5_tellPage_68, sX5_tellPage_70, cv_albumAt hT hc h12, cv_ends hAl h8, cv_goes hAl, ch_isBelow, aIsT hT.1, aIsT hAl.1, e, n10, n01, g1, g2, tF_l, tF_g0, tF_g1, tF_g2, tF_g3, tF_g4, tF_g5, tF_s3, tF_s4, tF_s5, aFld, aFds, aRow, aRowR, aRefs, aLn, if_true, List.getElem?_cons_zero, List.getElem?_cons_succ, List.set_cons_zero, List.set_cons_succ, List.length_cons, List.length_nil, Option.some.injEq, exists_eq_left', aput_same, aclr_none, aclr_int, aclr_ref, aclr_null, aret_some, aret_none, bz, bz0, bz1, true_and, and_true, vpT, nIc, nI_add, pk_mul, nI_sub', Nat.add_zero, Nat.zero_add, upd_same, upd_ne, if_false, not_true_eq_false, not_false_eq_true, ite_z, ite_o, eq_self, Bool.false_eq_true, nI_leT, nI_leF, nI_ltT, nI_ltF, nI_ne, and_self, false_and, and_false, Nat.reduceAdd, Nat.reduceSub, Nat.reduceMul, Nat.reduceLT, Nat.reduceLeDiff, true_and]
    · rw [if_neg g1] at hv
      simp only [inR] at g1
      subst hv
      simp (disch := omega) only [sX5_tellPage_0, sX5_tellPage_1, sX5_tellPage_2, sX5_tellPage_5, sX5_tellPage_5n, sX5_tellPage_6, sX5_tellPage_6n, sX5_tellPage_7, sX5_tellPage_7n, sX5_tellPage_10, sX5_tellPage_11, sX5_tellPage_12, sX5_tellPage_13, sX5_tellPage_13n, sX5_tellPage_14, sX5_tellPage_17, sX5_tellPage_20, sX5_tellPage_23, sX5_tellPage_26, sX5_tellPage_28, sX5_tellPage_31, sX5_tellPage_34, sX5_tellPage_36, sX5_tellPage_37, sX5_tellPage_37n, sX5_tellPage_38, sX5_tellPage_41, sX5_tellPage_44, sX5_tellPage_46, sX5_tellPage_47, sX5_tellPage_47n, sX5_tellPage_48, sX5_tellPage_51, sX5_tellPage_53, sX5_tellPage_56, sX5_tellPage_57, sX5_tellPage_60, sX5_tellPage_61, sX5_tellPage_63, sX5_tellPage_63n, sX5_tellPage_64, sX5_tellPage_65, sX5_tellPage_68, sX5_tellPage_70, cv_albumAt hT hc h12, cv_ends hAl h8, cv_goes hAl, ch_isBelow, aIsT hT.1, aIsT hAl.1, e, n10, n01, g1, tF_l, tF_g0, tF_g1, tF_g2, tF_g3, tF_g4, tF_g5, tF_s3, tF_s4, tF_s5, aFld, aFds, aRow, aRowR, aRefs, aLn, if_true, List.getElem?_cons_zero, List.getElem?_cons_succ, List.set_cons_zero, List.set_cons_succ, List.length_cons, List.length_nil, Option.some.injEq, exists_eq_left', aput_same, aclr_none, aclr_int, aclr_ref, aclr_null, aret_some, aret_none, bz, bz0, bz1, true_and, and_true, vpT, nIc, nI_add, pk_mul, nI_sub', Nat.add_zero, Nat.zero_add, upd_same, upd_ne, if_false, not_true_eq_false, not_false_eq_true, ite_z, ite_o, eq_self, Bool.false_eq_true, nI_leT, nI_leF, nI_ltT, nI_ltF, nI_ne, and_self, false_and, and_false, Nat.reduceAdd, Nat.reduceSub, Nat.reduceMul, Nat.reduceLT, Nat.reduceLeDiff, true_and]
theorem TabR_tell {a c : Nat} {p : Int32} (hT : TabR σ t st) (hok : mOK st) (hc : st 34 = nI c) (h12 : c ≤ 12) (ha : a < c) {ow pg hw tn tp : Int32} {f g : Nat → Int32} (hAl : AlbC σ (t + 5 + 3 * a) ow pg hw tn tp f g) (hR : albR (bk st a) ow pg hw tn tp f g) : TabR (aput σ (t + 5 + 3 * a) (eO 0 (.ref (t + 5 + 3 * a + 1) :: cF (t + 5 + 3 * a) ow pg hw p tp))) t (upd st (35 + 28 * a + 3) p) := by
  obtain ⟨h0, ⟨ft, h1, h1'⟩, ⟨dr, h2, h2'⟩, ⟨P, h3, h3'⟩, ⟨F, h4, h4'⟩, hA⟩ := hT
  have u : ∀ k, k ≠ 35 + 28 * a + 3 → upd st (35 + 28 * a + 3) p k = st k := fun k g1 => upd_ne g1
  have hb := mOK_b hok hc h12 ha
  refine ⟨?_, ⟨ft, (aput_ne _ _ (by omega)).trans h1, fun k hk => by rw [u _ (by omega)]; exact h1' k hk⟩, ⟨dr, (aput_ne _ _ (by omega)).trans h2, fun k hk => by rw [u _ (by omega)]; exact h2' k hk⟩, ⟨P, (aput_ne _ _ (by omega)).trans h3, fun k hk => by rw [u _ (by omega)]; exact h3' k hk⟩, ⟨F, (aput_ne _ _ (by omega)).trans h4, h4'⟩, fun j hj => ?_⟩
  · rw [u 16 (by omega), u 34 (by omega), u 33 (by omega)]
    exact (aput_ne _ _ (by omega)).trans h0
  · by_cases e : j = a
    · subst e
      refine ⟨ow, pg, hw, p, tp, f, g, ⟨aput_same _ _ _, (aput_ne _ _ (by omega)).trans hAl.2.1, (aput_ne _ _ (by omega)).trans hAl.2.2⟩, fun _ => ?_⟩
      obtain ⟨e0, e1, e2, e3, h1, h2⟩ := hR
      have hN : bN (bk (upd st (35 + 28 * j + 3) p) j) = bN (bk st j) := by unfold bN bk; rw [u _ (by omega)]
      refine ⟨by unfold bk; rw [u _ (by omega)]; exact e0, by unfold bk; rw [u _ (by omega)]; exact e1, by unfold bk; rw [u _ (by omega)]; exact e2, upd_same.symm, fun i hi => ?_, fun i hi => ?_⟩
      · rw [hN] at hi
        unfold bk
        rw [u _ (by omega), u _ (by omega)]
        exact h1 i hi
      · rw [hN]
        unfold bk
        rw [u _ (by omega)]
        exact h2 i hi
    · refine TabA_keep (fun q g1 g2 => aput_ne _ _ (by omega)) (fun hj2 => ?_) (hA j hj)
      rw [u 34 (by omega), hc, nIc (by omega)] at hj2
      rw [hc, nIc (by omega)]
      exact ⟨hj2, mOK_b hok hc h12 hj2, fun i hi => u _ (by omega)⟩
theorem cv_tell {a n : Nat} {p : Int32} (hT : TabR σ t st) (hok : mOK st) (hc : st 34 = nI c) (h12 : c ≤ 12) (ha : a < c) (hn : st (35 + 28 * a + 1) = nI n) (h8 : n ≤ 8) (hv : mWTell st a n p = nI 0) (K : ∀ σ', TabR σ' t (upd st (35 + 28 * a + 3) p) → Fr σ σ' t 41 → Q (some (.int (if st (35 + 28 * a + 3) = -6 then nI 0 else nI 1))) σ') : aX (d + 2) iX5_tellPage 0 [some (.ref t), some (.int (nI a)), some (.int p), none, none] [] σ Q := by
  obtain ⟨ow, pg, hw, tn, tp, f, g, hAl, hR⟩ := hT.2.2.2.2.2 a (by omega)
  have hR' := hR (by rw [hc, nIc (by omega)]; omega)
  have hpg : pg = nI n := hR'.2.1.trans hn
  have hhw : st (35 + 28 * a + 2) = hw := hR'.2.2.1.symm
  have htn : st (35 + 28 * a + 3) = tn := hR'.2.2.2.1.symm
  have hK := K _ (TabR_tell (p := p) hT hok hc h12 ha hAl hR') (Fr_put (by omega) (by omega))
  rw [htn] at hK
  clear K
  subst hpg
  unfold mWTell at hv
  rw [hhw] at hv
  have g2 : hw = nI 0 := by
    by_cases z : hw = nI 0
    · exact z
    · rw [if_neg z] at hv
      by_cases y : inR p 0 (if n % 2 = 0 then 15 else 4095)
      · rw [if_pos y] at hv
        exact absurd hv (by decide)
      · rw [if_neg y] at hv
        exact absurd hv (by decide)
  have a0 := hAl.1
  rcases Nat.mod_two_eq_zero_or_one n with e | e
  · rw [if_pos e] at hv
    by_cases g1 : inR p 0 15
    · simp only [inR] at g1
      by_cases g3 : tn = -6
      · rw [if_pos g3] at hK
        simp (disch := omega) only [sX5_tellPage_0, sX5_tellPage_1, sX5_tellPage_2, sX5_tellPage_5, sX5_tellPage_5n, sX5_tellPage_6, sX5_tellPage_6n, sX5_tellPage_7, sX5_tellPage_7n, sX5_tellPage_10, sX5_tellPage_11, sX5_tellPage_12, sX5_tellPage_13, sX5_tellPage_13n, sX5_tellPage_14, sX5_tellPage_17, sX5_tellPage_20, sX5_tellPage_23, sX5_tellPage_26, sX5_tellPage_28, sX5_tellPage_31, sX5_tellPage_34, sX5_tellPage_36, sX5_tellPage_37, sX5_tellPage_37n, sX5_tellPage_38, sX5_tellPage_41, sX5_tellPage_44, sX5_tellPage_46, sX5_tellPage_47, sX5_tellPage_47n, sX5_tellPage_48, sX5_tellPage_51, sX5_tellPage_53, sX5_tellPage_56, sX5_tellPage_57, sX5_tellPage_60, sX5_tellPage_61, sX5_tellPage_63, sX5_tellPage_63n, sX5_tellPage_64, sX5_tellPage_65, sX5_tellPage_68, sX5_tellPage_70, cv_albumAt hT hc h12, cv_ends hAl h8, cv_goes hAl, ch_isBelow, aIsT hT.1, aIsT hAl.1, a0, e, n10, n01, g1, g2, g3, cA_0, cA_1, cA_2, cA_w0, cA_w1, cA_w2, cF_l, cF_g0, cF_g1, cF_g2, cF_g3, cF_g4, cF_g5, cF_s1, cF_s2, cF_s3, cF_s4, cF_s5, aFld, aFds, aRow, aRowR, aRefs, aLn, if_true, List.getElem?_cons_zero, List.getElem?_cons_succ, List.set_cons_zero, List.set_cons_succ, List.length_cons, List.length_nil, Option.some.injEq, exists_eq_left', aput_same, aclr_none, aclr_int, aclr_ref, aclr_null, aret_some, aret_none, bz, bz0, bz1, true_and, and_true, vpT, nIc, nI_add, pk_mul, nI_sub', Nat.add_zero, Nat.zero_add, upd_same, upd_ne, if_false, not_true_eq_false, not_false_eq_true, ite_z, ite_o, eq_self, Bool.false_eq_true, nI_leT, nI_leF, nI_ltT, nI_ltF, nI_ne, and_self, false_and, and_false, Nat.reduceAdd, Nat.reduceSub, Nat.reduceMul, Nat.reduceLT, Nat.reduceLeDiff, true_and]
        rw [g2] at hK
        exact hK
      · rw [if_neg g3] at hK
        simp (disch := omega) only [sX5_tellPage_0, sX5_tellPage_1, sX5_tellPage_2, sX5_tellPage_5, sX5_tellPage_5n, sX5_tellPage_6, sX5_tellPage_6n, sX5_tellPage_7, sX5_tellPage_7n, sX5_tellPage_10, sX5_tellPage_11, sX5_tellPage_12, sX5_tellPage_13, sX5_tellPage_13n, sX5_tellPage_14, sX5_tellPage_17, sX5_tellPage_20, sX5_tellPage_23, sX5_tellPage_26, sX5_tellPage_28, sX5_tellPage_31, sX5_tellPage_34, sX5_tellPage_36, sX5_tellPage_37, sX5_tellPage_37n, sX5_tellPage_38, sX5_tellPage_41, sX5_tellPage_44, sX5_tellPage_46, sX5_tellPage_47, sX5_tellPage_47n, sX5_tellPage_48, sX5_tellPage_51, sX5_tellPage_53, sX5_tellPage_56, sX5_tellPage_57, sX5_tellPage_60, sX5_tellPage_61, sX5_tellPage_63, sX5_tellPage_63n, sX5_tellPage_64, sX5_tellPage_65, sX5_tellPage_68, sX5_tellPage_70, cv_albumAt hT hc h12, cv_ends hAl h8, cv_goes hAl, ch_isBelow, aIsT hT.1, aIsT hAl.1, a0, e, n10, n01, g1, g2, g3, cA_0, cA_1, cA_2, cA_w0, cA_w1, cA_w2, cF_l, cF_g0, cF_g1, cF_g2, cF_g3, cF_g4, cF_g5, cF_s1, cF_s2, cF_s3, cF_s4, cF_s5, aFld, aFds, aRow, aRowR, aRefs, aLn, if_true, List.getElem?_cons_zero, List.getElem?_cons_succ, List.set_cons_zero, List.set_cons_succ, List.length_cons, List.length_nil, Option.some.injEq, exists_eq_left', aput_same, aclr_none, aclr_int, aclr_ref, aclr_null, aret_some, aret_none, bz, bz0, bz1, true_and, and_true, vpT, nIc, nI_add, pk_mul, nI_sub', Nat.add_zero, Nat.zero_add, upd_same, upd_ne, if_false, not_true_eq_false, not_false_eq_true, ite_z, ite_o, eq_self, Bool.false_eq_true, nI_leT, nI_leF, nI_ltT, nI_ltF, nI_ne, and_self, false_and, and_false, Nat.reduceAdd, Nat.reduceSub, Nat.reduceMul, Nat.reduceLT, Nat.reduceLeDiff, true_and]
        rw [g2] at hK
        exact hK
    · rw [if_neg g1] at hv
      exact absurd hv (by decide)
  · rw [if_neg (show ¬ n % 2 = 0 by omega)] at hv
    by_cases g1 : inR p 0 4095
    · simp only [inR] at g1
      by_cases g3 : tn = -6
      · rw [if_pos g3] at hK
        simp (disch := omega) only [sX5_tellPage_0, sX5_tellPage_1, sX5_tellPage_2, sX5_tellPage_5, sX5_tellPage_5n, sX5_tellPage_6, sX5_tellPage_6n, sX5_tellPage_7, sX5_tellPage_7n, sX5_tellPage_10, sX5_tellPage_11, sX5_tellPage_12, sX5_tellPage_13, sX5_tellPage_13n, sX5_tellPage_14, sX5_tellPage_17, sX5_tellPage_20, sX5_tellPage_23, sX5_tellPage_26, sX5_tellPage_28, sX5_tellPage_31, sX5_tellPage_34, sX5_tellPage_36, sX5_tellPage_37, sX5_tellPage_37n, sX5_tellPage_38, sX5_tellPage_41, sX5_tellPage_44, sX5_tellPage_46, sX5_tellPage_47, sX5_tellPage_47n, sX5_tellPage_48, sX5_tellPage_51, sX5_tellPage_53, sX5_tellPage_56, sX5_tellPage_57, sX5_tellPage_60, sX5_tellPage_61, sX5_tellPage_63, sX5_tellPage_63n, sX5_tellPage_64, sX5_tellPage_65, sX5_tellPage_68, sX5_tellPage_70, cv_albumAt hT hc h12, cv_ends hAl h8, cv_goes hAl, ch_isBelow, aIsT hT.1, aIsT hAl.1, a0, e, n10, n01, g1, g2, g3, cA_0, cA_1, cA_2, cA_w0, cA_w1, cA_w2, cF_l, cF_g0, cF_g1, cF_g2, cF_g3, cF_g4, cF_g5, cF_s1, cF_s2, cF_s3, cF_s4, cF_s5, aFld, aFds, aRow, aRowR, aRefs, aLn, if_true, List.getElem?_cons_zero, List.getElem?_cons_succ, List.set_cons_zero, List.set_cons_succ, List.length_cons, List.length_nil, Option.some.injEq, exists_eq_left', aput_same, aclr_none, aclr_int, aclr_ref, aclr_null, aret_some, aret_none, bz, bz0, bz1, true_and, and_true, vpT, nIc, nI_add, pk_mul, nI_sub', Nat.add_zero, Nat.zero_add, upd_same, upd_ne, if_false, not_true_eq_false, not_false_eq_true, ite_z, ite_o, eq_self, Bool.false_eq_true, nI_leT, nI_leF, nI_ltT, nI_ltF, nI_ne, and_self, false_and, and_false, Nat.reduceAdd, Nat.reduceSub, Nat.reduceMul, Nat.reduceLT, Nat.reduceLeDiff, true_and]
        rw [g2] at hK
        exact hK
      · rw [if_neg g3] at hK
        simp (disch := omega) only [sX5_tellPage_0, sX5_tellPage_1, sX5_tellPage_2, sX5_tellPage_5, sX5_tellPage_5n, sX5_tellPage_6, sX5_tellPage_6n, sX5_tellPage_7, sX5_tellPage_7n, sX5_tellPage_10, sX5_tellPage_11, sX5_tellPage_12, sX5_tellPage_13, sX5_tellPage_13n, sX5_tellPage_14, sX5_tellPage_17, sX5_tellPage_20, sX5_tellPage_23, sX5_tellPage_26, sX5_tellPage_28, sX5_tellPage_31, sX5_tellPage_34, sX5_tellPage_36, sX5_tellPage_37, sX5_tellPage_37n, sX5_tellPage_38, sX5_tellPage_41, sX5_tellPage_44, sX5_tellPage_46, sX5_tellPage_47, sX5_tellPage_47n, sX5_tellPage_48, sX5_tellPage_51, sX5_tellPage_53, sX5_tellPage_56, sX5_tellPage_57, sX5_tellPage_60, sX5_tellPage_61, sX5_tellPage_63, sX5_tellPage_63n, sX5_tellPage_64, sX5_tellPage_65, sX5_tellPage_68, sX5_tellPage_70, cv_albumAt hT hc h12, cv_ends hAl h8, cv_goes hAl, ch_isBelow, aIsT hT.1, aIsT hAl.1, a0, e, n10, n01, g1, g2, g3, cA_0, cA_1, cA_2, cA_w0, cA_w1, cA_w2, cF_l, cF_g0, cF_g1, cF_g2, cF_g3, cF_g4, cF_g5, cF_s1, cF_s2, cF_s3, cF_s4, cF_s5, aFld, aFds, aRow, aRowR, aRefs, aLn, if_true, List.getElem?_cons_zero, List.getElem?_cons_succ, List.set_cons_zero, List.set_cons_succ, List.length_cons, List.length_nil, Option.some.injEq, exists_eq_left', aput_same, aclr_none, aclr_int, aclr_ref, aclr_null, aret_some, aret_none, bz, bz0, bz1, true_and, and_true, vpT, nIc, nI_add, pk_mul, nI_sub', Nat.add_zero, Nat.zero_add, upd_same, upd_ne, if_false, not_true_eq_false, not_false_eq_true, ite_z, ite_o, eq_self, Bool.false_eq_true, nI_leT, nI_leF, nI_ltT, nI_ltF, nI_ne, and_self, false_and, and_false, Nat.reduceAdd, Nat.reduceSub, Nat.reduceMul, Nat.reduceLT, Nat.reduceLeDiff, true_and]
        rw [g2] at hK
        exact hK
    · rw [if_neg g1] at hv
      exact absurd hv (by decide)
theorem cv_pages_loop {s : Nat} (hs : s < 8) (hT : TabR σ t st) (hok : mOK st) (hc : st 34 = nI c) (h12 : c ≤ 12) : ∀ (k i : Nat) (l4 : Option Value) (Q : aQ), i + k = c → (aX (d + 2) iX5_pagesBy 4 [some (.ref t), some (.int (nI s)), some (.int (mPb st s i)), some (.int (nI i)), l4] [] σ Q ↔ Q (some (.int (mPb st s c))) σ)
  | 0, i, l4, Q, h => by
    have e : i = c := by omega
    subst e
    have h0 := hT.1
    rw [hc] at h0
    rw [sX5_pagesBy_4]
    simp (disch := omega) only [sX5_pagesBy_0, sX5_pagesBy_1, sX5_pagesBy_2, sX5_pagesBy_3, sX5_pagesBy_5, sX5_pagesBy_6, sX5_pagesBy_9, sX5_pagesBy_12, sX5_pagesBy_13, sX5_pagesBy_14, sX5_pagesBy_17, sX5_pagesBy_17n, sX5_pagesBy_19, sX5_pagesBy_19n, sX5_pagesBy_21, sX5_pagesBy_21n, sX5_pagesBy_24, sX5_pagesBy_24n, sX5_pagesBy_26, sX5_pagesBy_29, sX5_pagesBy_30, sX5_pagesBy_31, sX5_pagesBy_32, sX5_pagesBy_33, sX5_pagesBy_36, sX5_pagesBy_39, sX5_pagesBy_42, sX5_pagesBy_45, sX5_pagesBy_46, h0, tF_l, tF_g0, tF_g1, tF_g2, tF_g3, tF_g4, tF_g5, tF_s3, tF_s4, tF_s5, aFld, aFds, aRow, aRowR, aRefs, aLn, if_true, List.getElem?_cons_zero, List.getElem?_cons_succ, List.set_cons_zero, List.set_cons_succ, List.length_cons, List.length_nil, Option.some.injEq, exists_eq_left', aput_same, aclr_none, aclr_int, aclr_ref, aclr_null, aret_some, aret_none, bz, bz0, bz1, true_and, and_true, vpT, nIc, nI_add, pk_mul, nI_sub', Nat.add_zero, Nat.zero_add, upd_same, upd_ne, if_false, not_true_eq_false, not_false_eq_true, ite_z, ite_o, eq_self, Bool.false_eq_true, nI_leT, nI_leF, nI_ltT, nI_ltF, nI_ne, and_self, false_and, and_false, Nat.reduceAdd, Nat.reduceSub, Nat.reduceMul, Nat.reduceLT, Nat.reduceLeDiff, true_and]
  | k + 1, i, l4, Q, h => by
    have h0 := hT.1
    rw [hc] at h0
    obtain ⟨ow, pg, hw, tn, tp, f, g, hAl, hR⟩ := hT.2.2.2.2.2 i (by omega)
    have hR' := hR (by rw [hc, nIc (by omega)]; omega)
    obtain ⟨n, n1, n2, n3, -⟩ := mOK_b hok hc h12 (show i < c by omega)
    have eN := bOK_N n1 n3
    have hpg : pg = nI n := hR'.2.1.trans n1
    subst hpg
    have hset : cSet f n = mSeats st i (bN (bk st i)) := by
      rw [eN, mSeats_bSe]
      exact cSet_bSe n (fun j hj => (hR'.2.2.2.2.1 j (by omega)).1)
    have ih := fun l4 => cv_pages_loop hs hT hok hc h12 k (i + 1) l4 Q (by omega)
    rw [mPb, b_shr1 _ (by omega), ← hset] at ih
    rw [sX5_pagesBy_4]
    have hb := b_and1 (cSet f n) (show s < 32 by omega)
    by_cases g : bt (cSet f n) s = true
    · rw [if_pos g] at ih
      simp (disch := omega) only [sX5_pagesBy_0, sX5_pagesBy_1, sX5_pagesBy_2, sX5_pagesBy_3, sX5_pagesBy_5, sX5_pagesBy_6, sX5_pagesBy_9, sX5_pagesBy_12, sX5_pagesBy_13, sX5_pagesBy_14, sX5_pagesBy_17, sX5_pagesBy_17n, sX5_pagesBy_19, sX5_pagesBy_19n, sX5_pagesBy_21, sX5_pagesBy_21n, sX5_pagesBy_24, sX5_pagesBy_24n, sX5_pagesBy_26, sX5_pagesBy_29, sX5_pagesBy_30, sX5_pagesBy_31, sX5_pagesBy_32, sX5_pagesBy_33, sX5_pagesBy_36, sX5_pagesBy_39, sX5_pagesBy_42, sX5_pagesBy_45, sX5_pagesBy_46, h0, cv_albumAt hT hc h12, cv_seatSet hAl n3, hb, g, Bool.true_eq_false, aIsT h0, aIsT hAl.1, tF_l, tF_g0, tF_g1, tF_g2, tF_g3, tF_g4, tF_g5, tF_s3, tF_s4, tF_s5, aFld, aFds, aRow, aRowR, aRefs, aLn, if_true, List.getElem?_cons_zero, List.getElem?_cons_succ, List.set_cons_zero, List.set_cons_succ, List.length_cons, List.length_nil, Option.some.injEq, exists_eq_left', aput_same, aclr_none, aclr_int, aclr_ref, aclr_null, aret_some, aret_none, bz, bz0, bz1, true_and, and_true, vpT, nIc, nI_add, pk_mul, nI_sub', Nat.add_zero, Nat.zero_add, upd_same, upd_ne, if_false, not_true_eq_false, not_false_eq_true, ite_z, ite_o, eq_self, Bool.false_eq_true, nI_leT, nI_leF, nI_ltT, nI_ltF, nI_ne, and_self, false_and, and_false, Nat.reduceAdd, Nat.reduceSub, Nat.reduceMul, Nat.reduceLT, Nat.reduceLeDiff, true_and]
      exact ih _
    · rw [if_neg g, nI_0, Int32.add_zero] at ih
      simp (disch := omega) only [sX5_pagesBy_0, sX5_pagesBy_1, sX5_pagesBy_2, sX5_pagesBy_3, sX5_pagesBy_5, sX5_pagesBy_6, sX5_pagesBy_9, sX5_pagesBy_12, sX5_pagesBy_13, sX5_pagesBy_14, sX5_pagesBy_17, sX5_pagesBy_17n, sX5_pagesBy_19, sX5_pagesBy_19n, sX5_pagesBy_21, sX5_pagesBy_21n, sX5_pagesBy_24, sX5_pagesBy_24n, sX5_pagesBy_26, sX5_pagesBy_29, sX5_pagesBy_30, sX5_pagesBy_31, sX5_pagesBy_32, sX5_pagesBy_33, sX5_pagesBy_36, sX5_pagesBy_39, sX5_pagesBy_42, sX5_pagesBy_45, sX5_pagesBy_46, h0, cv_albumAt hT hc h12, cv_seatSet hAl n3, hb, Bool.eq_false_iff.mpr g, aIsT h0, aIsT hAl.1, tF_l, tF_g0, tF_g1, tF_g2, tF_g3, tF_g4, tF_g5, tF_s3, tF_s4, tF_s5, aFld, aFds, aRow, aRowR, aRefs, aLn, if_true, List.getElem?_cons_zero, List.getElem?_cons_succ, List.set_cons_zero, List.set_cons_succ, List.length_cons, List.length_nil, Option.some.injEq, exists_eq_left', aput_same, aclr_none, aclr_int, aclr_ref, aclr_null, aret_some, aret_none, bz, bz0, bz1, true_and, and_true, vpT, nIc, nI_add, pk_mul, nI_sub', Nat.add_zero, Nat.zero_add, upd_same, upd_ne, if_false, not_true_eq_false, not_false_eq_true, ite_z, ite_o, eq_self, Bool.false_eq_true, nI_leT, nI_leF, nI_ltT, nI_ltF, nI_ne, and_self, false_and, and_false, Nat.reduceAdd, Nat.reduceSub, Nat.reduceMul, Nat.reduceLT, Nat.reduceLeDiff, true_and]
      exact ih _
theorem cv_pages {s : Nat} (hs : s < 8) (hT : TabR σ t st) (hok : mOK st) (hc : st 34 = nI c) (h12 : c ≤ 12) : aX (d + 2) iX5_pagesBy 0 [some (.ref t), some (.int (nI s)), none, none, none] [] σ Q ↔ Q (some (.int (mPb st s c))) σ := by
  rw [← cv_pages_loop (d := d) hs hT hok hc h12 c 0 none Q (by omega)]
  simp only [sX5_pagesBy_0, sX5_pagesBy_1, sX5_pagesBy_2, sX5_pagesBy_3, mPb, tF_l, tF_g0, tF_g1, tF_g2, tF_g3, tF_g4, tF_g5, tF_s3, tF_s4, tF_s5, aFld, aFds, aRow, aRowR, aRefs, aLn, if_true, List.getElem?_cons_zero, List.getElem?_cons_succ, List.set_cons_zero, List.set_cons_succ, List.length_cons, List.length_nil, Option.some.injEq, exists_eq_left', aput_same, aclr_none, aclr_int, aclr_ref, aclr_null, aret_some, aret_none, bz, bz0, bz1, true_and, and_true, vpT, nIc, nI_add, pk_mul, nI_sub', Nat.add_zero, Nat.zero_add, upd_same, upd_ne, if_false, not_true_eq_false, not_false_eq_true, ite_z, ite_o, eq_self, Bool.false_eq_true, nI_leT, nI_leF, nI_ltT, nI_ltF, nI_ne, and_self, false_and, and_false, Nat.reduceAdd, Nat.reduceSub, Nat.reduceMul, Nat.reduceLT, Nat.reduceLeDiff, true_and]
end CZ
