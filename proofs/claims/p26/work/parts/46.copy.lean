/-! THE CLASS: a table copied; ended albums cleared -/
def tA (σ : aS) (t : Nat) (fs : List Value) (ft dr P : Nat → Int32) : aS := aput (aput (aput (aput σ t (eO 5 (.ref (t + 1) :: fs))) (t + 1) (eI 16 ft)) (t + 2) (eI 8 dr)) (t + 3) (eI 8 P)
section TA
variable {σ : aS} {t : Nat} {fs fs' : List Value} {ft dr P x : Nat → Int32}
theorem tA_0 : (tA σ t fs ft dr P).1 t = some (eO 5 (.ref (t + 1) :: fs)) := by unfold tA; simp (disch := omega) only [aput_ne, aput_same]
theorem tA_1 : (tA σ t fs ft dr P).1 (t + 1) = some (eI 16 ft) := by unfold tA; simp (disch := omega) only [aput_ne, aput_same]
theorem tA_2 : (tA σ t fs ft dr P).1 (t + 2) = some (eI 8 dr) := by unfold tA; simp (disch := omega) only [aput_ne, aput_same]
theorem tA_3 : (tA σ t fs ft dr P).1 (t + 3) = some (eI 8 P) := by unfold tA; simp (disch := omega) only [aput_same]
theorem tA_ne {q : Nat} (h : q < t ∨ t + 3 < q) : (tA σ t fs ft dr P).1 q = σ.1 q := by unfold tA; simp (disch := omega) only [aput_ne]
theorem tA_w0 : aput (tA σ t fs ft dr P) t (eO 5 (.ref (t + 1) :: fs')) = tA σ t fs' ft dr P := by
  unfold tA
  rw [aput_comm _ (show t + 3 ≠ t by omega), aput_comm _ (show t + 2 ≠ t by omega), aput_comm _ (show t + 1 ≠ t by omega), aput_twice]
theorem tA_w1 : aput (tA σ t fs ft dr P) (t + 1) (eI 16 x) = tA σ t fs x dr P := by
  unfold tA
  rw [aput_comm _ (show t + 3 ≠ t + 1 by omega), aput_comm _ (show t + 2 ≠ t + 1 by omega), aput_twice]
theorem tA_w2 : aput (tA σ t fs ft dr P) (t + 2) (eI 8 x) = tA σ t fs ft x P := by
  unfold tA
  rw [aput_comm _ (show t + 3 ≠ t + 2 by omega), aput_twice]
theorem tA_w3 : aput (tA σ t fs ft dr P) (t + 3) (eI 8 x) = tA σ t fs ft dr x := by
  unfold tA
  rw [aput_twice]
theorem tA_self (h0 : σ.1 t = some (eO 5 (.ref (t + 1) :: fs))) (h1 : σ.1 (t + 1) = some (eI 16 ft)) (h2 : σ.1 (t + 2) = some (eI 8 dr)) (h3 : σ.1 (t + 3) = some (eI 8 P)) : tA σ t fs ft dr P = σ := by
  unfold tA
  rw [aput_self h0, aput_self h1, aput_self h2, aput_self h3]
end TA
def TabP (σ : aS) (t : Nat) (st : Nat → Int32) (i : Nat) : Prop :=
  σ.1 t = some (eO 5 (.ref (t + 1) :: tF t (st 16) (st 34) (st 33))) ∧ (∃ ft, σ.1 (t + 1) = some (eI 16 ft) ∧ ∀ w, w < 16 → ft w = st w) ∧ (∃ dr, σ.1 (t + 2) = some (eI 8 dr) ∧ ∀ s, s < 8 → dr s = st (17 + s)) ∧ (∃ P, σ.1 (t + 3) = some (eI 8 P) ∧ ∀ s, s < 8 → P s = st (25 + s)) ∧ (∃ F, σ.1 (t + 4) = some (eQ 1 12 F) ∧ ∀ j, j < 12 → F j = some (t + 5 + 3 * j)) ∧ ∀ j, j < 12 → ∃ ow pg hw tn tp f g, AlbC σ (t + 5 + 3 * j) ow pg hw tn tp f g ∧ (j < i → albR (bk st j) ow pg hw tn tp f g)
theorem TabP_R {σ : aS} {t c : Nat} {st : Nat → Int32} (hc : st 34 = nI c) (h12 : c ≤ 12) (h : TabP σ t st c) : TabR σ t st := by
  obtain ⟨h0, h1, h2, h3, h4, hA⟩ := h
  refine ⟨h0, h1, h2, h3, h4, fun j hj => ?_⟩
  obtain ⟨ow, pg, hw, tn, tp, f, g, hAl, hR⟩ := hA j hj
  exact ⟨ow, pg, hw, tn, tp, f, g, hAl, fun hj2 => hR (by rw [hc, nIc (by omega)] at hj2; exact hj2)⟩
theorem va_cpy_in {f g : Nat → Int32} {n k : Nat} (h : k < n) : va_cpy f g 0 0 n k = f k := by
  unfold va_cpy
  rw [if_pos ⟨by omega, by omega⟩, Nat.zero_add, Nat.sub_zero]
theorem albR_cpy {b : Nat → Int32} {ow pg hw tn tp : Int32} {f g f' g' : Nat → Int32} (hN : bN b ≤ 8) (h : albR b ow pg hw tn tp f g) : albR b ow pg hw tn tp (va_cpy f f' 0 0 8) (va_cpy g g' 0 0 8) := by
  obtain ⟨e0, e1, e2, e3, h1, h2⟩ := h
  exact ⟨e0, e1, e2, e3, fun i hi => by rw [va_cpy_in (by omega), va_cpy_in (by omega)]; exact h1 i hi, h2⟩
theorem mCp_self (X : Nat → Int32) (i : Nat) : ∀ k, mCp X i i k = X
  | 0 => rfl
  | k + 1 => by
    rw [mCp, mCp_self X i k]
    funext j
    unfold upd
    by_cases h : j = 35 + 28 * i + k
    · rw [if_pos h, h]
    · rw [if_neg h]
section CAA
variable {d : Nat} {σ : aS} {Q : aQ} {t u c : Nat} {st X : Nat → Int32}
theorem cv_place {j : Nat} {pl ac ro : Int32} {F : Nat → Option Nat} (h0 : σ.1 t = some (eO 5 (.ref (t + 1) :: tF t pl ac ro))) (h4 : σ.1 (t + 4) = some (eQ 1 12 F)) (h4' : ∀ j, j < 12 → F j = some (t + 5 + 3 * j)) (hj : j < 12) : aX d iX5_placeAt 0 [some (.ref t), some (.int (nI j))] [] σ Q ↔ Q (some (.ref (t + 5 + 3 * j))) σ := by
  simp (disch := omega) only [sX5_placeAt_0, sX5_placeAt_1, sX5_placeAt_4, sX5_placeAt_5, sX5_placeAt_6, sX5_placeAt_9, sX5_placeAt_10, sX5_placeAt_13, sX5_placeAt_14, sX5_placeAt_17, sX5_placeAt_18, sX5_placeAt_19, sX5_placeAt_22, sX5_placeAt_23, sX5_placeAt_23n, h0, h4, h4', vrf, tF_l, tF_g0, tF_g1, tF_g2, tF_g3, tF_g4, tF_g5, tF_s3, tF_s4, tF_s5, aFld, aFds, aRow, aRowR, aRefs, aLn, if_true, List.getElem?_cons_zero, List.getElem?_cons_succ, List.set_cons_zero, List.set_cons_succ, List.length_cons, List.length_nil, Option.some.injEq, exists_eq_left', aput_same, aclr_none, aclr_int, aclr_ref, aclr_null, aret_some, aret_none, bz, bz0, bz1, true_and, and_true, vpT, nIc, nI_add, pk_mul, nI_sub', Nat.add_zero, Nat.zero_add, upd_same, upd_ne, if_false, not_true_eq_false, not_false_eq_true, ite_z, ite_o, eq_self, Bool.false_eq_true, nI_leT, nI_leF, nI_ltT, nI_ltF, nI_ne, and_self, false_and, and_false, Nat.reduceAdd, Nat.reduceSub, Nat.reduceMul, Nat.reduceLT, Nat.reduceLeDiff, true_and]
theorem cv_copyAlb {a o : Nat} {ow pg hw tn tp ow' pg' hw' tn' tp' : Int32} {f g f' g' : Nat → Int32} (hA : AlbC σ a ow pg hw tn tp f g) (hO : AlbC σ o ow' pg' hw' tn' tp' f' g') (hd : o + 2 < a ∨ a + 2 < o) : aX (d + 1) iX0_copyFrom 0 [some (.ref a), some (.ref o)] [] σ Q ↔ Q none (cA σ a (cF a ow' pg' hw' tn' tp') (va_cpy f' f 0 0 8) (va_cpy g' g 0 0 8)) := by
  have h := ca_copyFrom (d := d) (σ := σ) (Q := Q) (a := a) (ow := ow) (pg := pg) (hw := hw) (tn := tn) (tp := tp) (f := f) (g := g) hO.1 hO.2.1 hO.2.2 hd
  rw [cA_self hA] at h
  exact h
theorem cv_copySelf {a : Nat} {ow pg hw tn tp : Int32} {f g : Nat → Int32} (hA : AlbC σ a ow pg hw tn tp f g) : aX (d + 1) iX0_copyFrom 0 [some (.ref a), some (.ref a)] [] σ Q ↔ Q none σ := by
  have h := ca_copySelf (d := d) (σ := σ) (Q := Q) (a := a) (ow := ow) (pg := pg) (hw := hw) (tn := tn) (tp := tp) (f := f) (g := g)
  rw [cA_self hA] at h
  exact h
theorem cv_copy_loop (hd : t + 41 ≤ u ∨ u + 41 ≤ t) (hok : mOK X) (hc : X 34 = nI c) (h12 : c ≤ 12) : ∀ (k i : Nat) (l3 l4 : Option Value) (σ : aS), i + k = c → TabR σ u X → TabP σ t X i → (∀ σ', TabP σ' t X c → Fr σ σ' t 41 → Q none σ') → aX (d + 2) iX5_copyFrom 59 [some (.ref t), some (.ref u), some (.int (nI i)), l3, l4] [] σ Q
  | 0, i, l3, l4, σ, h, hU, hP, K => by
    have e : i = c := by omega
    subst e
    have h0 := hP.1
    rw [hc] at h0
    have := K σ hP (Fr_refl _ _ _)
    rw [sX5_copyFrom_59]
    simp (disch := omega) only [sX5_copyFrom_60, sX5_copyFrom_61, sX5_copyFrom_64, sX5_copyFrom_67, sX5_copyFrom_67n, sX5_copyFrom_68, sX5_copyFrom_69, sX5_copyFrom_72, sX5_copyFrom_72n, sX5_copyFrom_73, sX5_copyFrom_74, sX5_copyFrom_75, sX5_copyFrom_78, sX5_copyFrom_78n, sX5_copyFrom_80, sX5_copyFrom_80n, sX5_copyFrom_81, sX5_copyFrom_81n, sX5_copyFrom_84, sX5_copyFrom_84n, sX5_copyFrom_86, sX5_copyFrom_86n, sX5_copyFrom_89, sX5_copyFrom_89n, sX5_copyFrom_91, sX5_copyFrom_91n, sX5_copyFrom_92, sX5_copyFrom_95, sX5_copyFrom_98, sX5_copyFrom_101, h0, tF_l, tF_g0, tF_g1, tF_g2, tF_g3, tF_g4, tF_g5, tF_s3, tF_s4, tF_s5, aFld, aFds, aRow, aRowR, aRefs, aLn, if_true, List.getElem?_cons_zero, List.getElem?_cons_succ, List.set_cons_zero, List.set_cons_succ, List.length_cons, List.length_nil, Option.some.injEq, exists_eq_left', aput_same, aclr_none, aclr_int, aclr_ref, aclr_null, aret_some, aret_none, bz, bz0, bz1, true_and, and_true, vpT, nIc, nI_add, pk_mul, nI_sub', Nat.add_zero, Nat.zero_add, upd_same, upd_ne, if_false, not_true_eq_false, not_false_eq_true, ite_z, ite_o, eq_self, Bool.false_eq_true, nI_leT, nI_leF, nI_ltT, nI_ltF, nI_ne, and_self, false_and, and_false, Nat.reduceAdd, Nat.reduceSub, Nat.reduceMul, Nat.reduceLT, Nat.reduceLeDiff, true_and]
    exact this
  | k + 1, i, l3, l4, σ, h, hU, hP, K => by
    have ih := cv_copy_loop hd hok hc h12 k (i + 1)
    have hU2 := hU
    obtain ⟨h0, ⟨ft, h1, h1'⟩, ⟨dr, h2, h2'⟩, ⟨P, h3, h3'⟩, ⟨F, h4, h4'⟩, hA⟩ := hP
    have h0c := h0
    rw [hc] at h0c
    obtain ⟨ow, pg, hw, tn, tp, f, g, hAl, -⟩ := hA i (by omega)
    obtain ⟨ow', pg', hw', tn', tp', f', g', hAl', hR'⟩ := hU.2.2.2.2.2 i (by omega)
    have hR2 := hR' (by rw [hc, nIc (by omega)]; omega)
    have hu0 := hU.1
    rw [sX5_copyFrom_59]
    simp (disch := omega) only [sX5_copyFrom_60, sX5_copyFrom_61, sX5_copyFrom_64, sX5_copyFrom_67, sX5_copyFrom_67n, sX5_copyFrom_68, sX5_copyFrom_69, sX5_copyFrom_72, sX5_copyFrom_72n, sX5_copyFrom_73, sX5_copyFrom_74, sX5_copyFrom_75, sX5_copyFrom_78, sX5_copyFrom_78n, sX5_copyFrom_80, sX5_copyFrom_80n, sX5_copyFrom_81, sX5_copyFrom_81n, sX5_copyFrom_84, sX5_copyFrom_84n, sX5_copyFrom_86, sX5_copyFrom_86n, sX5_copyFrom_89, sX5_copyFrom_89n, sX5_copyFrom_91, sX5_copyFrom_91n, sX5_copyFrom_92, sX5_copyFrom_95, sX5_copyFrom_98, cv_placeAt hU2, cv_place h0c h4 h4', cv_copyAlb hAl hAl', h0c, aIsT h0c, aIsT hu0, aIsT hAl.1, tF_l, tF_g0, tF_g1, tF_g2, tF_g3, tF_g4, tF_g5, tF_s3, tF_s4, tF_s5, aFld, aFds, aRow, aRowR, aRefs, aLn, if_true, List.getElem?_cons_zero, List.getElem?_cons_succ, List.set_cons_zero, List.set_cons_succ, List.length_cons, List.length_nil, Option.some.injEq, exists_eq_left', aput_same, aclr_none, aclr_int, aclr_ref, aclr_null, aret_some, aret_none, bz, bz0, bz1, true_and, and_true, vpT, nIc, nI_add, pk_mul, nI_sub', Nat.add_zero, Nat.zero_add, upd_same, upd_ne, if_false, not_true_eq_false, not_false_eq_true, ite_z, ite_o, eq_self, Bool.false_eq_true, nI_leT, nI_leF, nI_ltT, nI_ltF, nI_ne, and_self, false_and, and_false, Nat.reduceAdd, Nat.reduceSub, Nat.reduceMul, Nat.reduceLT, Nat.reduceLeDiff, true_and]
    have hr : ∀ q e, σ.1 q = some e → (q < t + 5 + 3 * i ∨ t + 5 + 3 * i + 2 < q) → (cA σ (t + 5 + 3 * i) (cF (t + 5 + 3 * i) ow' pg' hw' tn' tp') (va_cpy f' f 0 0 8) (va_cpy g' g 0 0 8)).1 q = some e := fun q e h g1 => by rw [cA_ne g1]; exact h
    refine ih _ _ _ (by omega) (TabR_keep (fun q g1 g2 => cA_ne (by omega)) hU) ⟨hr _ _ h0 (by omega), ⟨ft, hr _ _ h1 (by omega), h1'⟩, ⟨dr, hr _ _ h2 (by omega), h2'⟩, ⟨P, hr _ _ h3 (by omega), h3'⟩, ⟨F, hr _ _ h4 (by omega), h4'⟩, fun j hj => ?_⟩ (fun σ' hT' hF => K σ' hT' (Fr_trans ⟨fun q hq => cA_ne (by omega), rfl⟩ hF))
    by_cases e : j = i
    · subst e
      exact ⟨_, _, _, _, _, _, _, cA_alb, fun _ => albR_cpy (bN_8 (mOK_b hok hc h12 (by omega))) hR2⟩
    · obtain ⟨ow2, pg2, hw2, tn2, tp2, f2, g2, ⟨a0, a1, a2⟩, hR3⟩ := hA j hj
      exact ⟨ow2, pg2, hw2, tn2, tp2, f2, g2, ⟨hr _ _ a0 (by omega), hr _ _ a1 (by omega), hr _ _ a2 (by omega)⟩, fun hj2 => hR3 (by omega)⟩
theorem cv_copy (hT : TabR σ t st) (hU : TabR σ u X) (hd : t + 41 ≤ u ∨ u + 41 ≤ t) (hok : mOK X) (K : ∀ σ', TabR σ' t X → Fr σ σ' t 41 → Q none σ') : aX (d + 2) iX5_copyFrom 0 [some (.ref t), some (.ref u), none, none, none] [] σ Q := by
  obtain ⟨he, c, hc, h12, hb⟩ := id hok
  obtain ⟨h0, ⟨ft, h1, h1'⟩, ⟨dr, h2, h2'⟩, ⟨P, h3, h3'⟩, ⟨F, h4, h4'⟩, hA⟩ := hT
  have hU2 := hU
  obtain ⟨u0, ⟨fu, u1, u1'⟩, ⟨du, u2, u2'⟩, ⟨Pu, u3, u3'⟩, -, -⟩ := hU
  have r0 : ∀ {fs : List Value} {x y z : Nat → Int32}, (tA σ t fs x y z).1 u = some (eO 5 (.ref (u + 1) :: tF u (X 16) (X 34) (X 33))) := fun {_ _ _ _} => (tA_ne (by omega)).trans u0
  have r1 : ∀ {fs : List Value} {x y z : Nat → Int32}, (tA σ t fs x y z).1 (u + 1) = some (eI 16 fu) := fun {_ _ _ _} => (tA_ne (by omega)).trans u1
  have r2 : ∀ {fs : List Value} {x y z : Nat → Int32}, (tA σ t fs x y z).1 (u + 2) = some (eI 8 du) := fun {_ _ _ _} => (tA_ne (by omega)).trans u2
  have r3 : ∀ {fs : List Value} {x y z : Nat → Int32}, (tA σ t fs x y z).1 (u + 3) = some (eI 8 Pu) := fun {_ _ _ _} => (tA_ne (by omega)).trans u3
  have main : aX (d + 2) iX5_copyFrom 0 [some (.ref t), some (.ref u), none, none, none] [] (tA σ t (tF t (st 16) (st 34) (st 33)) ft dr P) Q := by
    simp (disch := omega) only [sX5_copyFrom_0, sX5_copyFrom_0n, sX5_copyFrom_1, sX5_copyFrom_4, sX5_copyFrom_5, sX5_copyFrom_8, sX5_copyFrom_11, sX5_copyFrom_11n, sX5_copyFrom_12, sX5_copyFrom_15, sX5_copyFrom_16, sX5_copyFrom_19, sX5_copyFrom_22, sX5_copyFrom_22n, sX5_copyFrom_23, sX5_copyFrom_26, sX5_copyFrom_27, sX5_copyFrom_30, sX5_copyFrom_33, sX5_copyFrom_34, sX5_copyFrom_34n, sX5_copyFrom_35, sX5_copyFrom_38, sX5_copyFrom_41, sX5_copyFrom_42, sX5_copyFrom_42n, sX5_copyFrom_43, sX5_copyFrom_46, sX5_copyFrom_49, sX5_copyFrom_50, sX5_copyFrom_50n, sX5_copyFrom_51, sX5_copyFrom_54, sX5_copyFrom_57, sX5_copyFrom_58, r0, tA_0, ch_copyRow r1 tA_1, ch_copyRow r2 tA_2, ch_copyRow r3 tA_3, tA_w0, tA_w1, tA_w2, tA_w3, tF_l, tF_g0, tF_g1, tF_g2, tF_g3, tF_g4, tF_g5, tF_s3, tF_s4, tF_s5, aFld, aFds, aRow, aRowR, aRefs, aLn, if_true, List.getElem?_cons_zero, List.getElem?_cons_succ, List.set_cons_zero, List.set_cons_succ, List.length_cons, List.length_nil, Option.some.injEq, exists_eq_left', aput_same, aclr_none, aclr_int, aclr_ref, aclr_null, aret_some, aret_none, bz, bz0, bz1, true_and, and_true, vpT, nIc, nI_add, pk_mul, nI_sub', Nat.add_zero, Nat.zero_add, upd_same, upd_ne, if_false, not_true_eq_false, not_false_eq_true, ite_z, ite_o, eq_self, Bool.false_eq_true, nI_leT, nI_leF, nI_ltT, nI_ltF, nI_ne, and_self, false_and, and_false, Nat.reduceAdd, Nat.reduceSub, Nat.reduceMul, Nat.reduceLT, Nat.reduceLeDiff, true_and]
    refine cv_copy_loop hd hok hc h12 c 0 _ _ _ (by omega) (TabR_keep (fun q g1 g2 => tA_ne (by omega)) hU2) ⟨tA_0, ⟨_, tA_1, fun w hw => by rw [va_cpy_in hw]; exact u1' w hw⟩, ⟨_, tA_2, fun w hw => by rw [va_cpy_in hw]; exact u2' w hw⟩, ⟨_, tA_3, fun w hw => by rw [va_cpy_in hw]; exact u3' w hw⟩, ⟨F, (tA_ne (by omega)).trans h4, h4'⟩, fun j hj => ?_⟩ (fun σ' hT' hF => K σ' (TabP_R hc h12 hT') (Fr_trans ⟨fun q hq => tA_ne (by omega), rfl⟩ hF))
    obtain ⟨ow, pg, hw, tn, tp, f, g, ⟨a0, a1, a2⟩, -⟩ := hA j hj
    exact ⟨ow, pg, hw, tn, tp, f, g, ⟨(tA_ne (by omega)).trans a0, (tA_ne (by omega)).trans a1, (tA_ne (by omega)).trans a2⟩, fun hj2 => absurd hj2 (Nat.not_lt_zero _)⟩
  rw [tA_self h0 h1 h2 h3] at main
  exact main
theorem mCl_b (hok : mOK st) (hc : st 34 = nI c) (h12 : c ≤ 12) {i j : Nat} (hi : i ≤ c) (hj : j < c) : bOK (bk (mCl st i) j) := by
  by_cases h : j < mGR st i
  · obtain ⟨a', h1, h2, h3, h4⟩ := mCl_blk st i j h
    exact bOK_congr h4 (mOK_b hok hc h12 (show a' < c by omega))
  · exact bOK_congr (fun k hk => mCl_hi st i _ (by omega)) (mOK_b hok hc h12 hj)
theorem TabR_cp {l a : Nat} (hT : TabR σ t X) (hc : X 34 = nI c) (h12 : c ≤ 12) (hb : ∀ j, j < c → bOK (bk X j)) (hl : l < a) (ha : a < c) {ow pg hw tn tp ow' pg' hw' tn' tp' : Int32} {f g f' g' : Nat → Int32} (hA : AlbC σ (t + 5 + 3 * l) ow pg hw tn tp f g) (hR : albR (bk X a) ow' pg' hw' tn' tp' f' g') : TabR (cA σ (t + 5 + 3 * l) (cF (t + 5 + 3 * l) ow' pg' hw' tn' tp') (va_cpy f' f 0 0 8) (va_cpy g' g 0 0 8)) t (mCp X l a 28) := by
  obtain ⟨h0, ⟨ft, h1, h1'⟩, ⟨dr, h2, h2'⟩, ⟨P, h3, h3'⟩, ⟨F, h4, h4'⟩, hA⟩ := hT
  have hr : ∀ q e, σ.1 q = some e → (q < t + 5 + 3 * l ∨ t + 5 + 3 * l + 2 < q) → (cA σ (t + 5 + 3 * l) (cF (t + 5 + 3 * l) ow' pg' hw' tn' tp') (va_cpy f' f 0 0 8) (va_cpy g' g 0 0 8)).1 q = some e := fun q e h g1 => by rw [cA_ne g1]; exact h
  have u : ∀ k, k < 35 → mCp X l a 28 k = X k := fun k hk => mCp_lo X l a 28 k hk
  refine ⟨?_, ⟨ft, hr _ _ h1 (by omega), fun k hk => by rw [u _ (by omega)]; exact h1' k hk⟩, ⟨dr, hr _ _ h2 (by omega), fun k hk => by rw [u _ (by omega)]; exact h2' k hk⟩, ⟨P, hr _ _ h3 (by omega), fun k hk => by rw [u _ (by omega)]; exact h3' k hk⟩, ⟨F, hr _ _ h4 (by omega), h4'⟩, fun j hj => ?_⟩
  · rw [u 16 (by omega), u 34 (by omega), u 33 (by omega)]
    exact hr _ _ h0 (by omega)
  · by_cases e : j = l
    · subst e
      refine ⟨_, _, _, _, _, _, _, cA_alb, fun _ => ?_⟩
      exact albR_cong (bN_8 (hb a ha)) (fun i hi => mCp_at X (by omega) 28 i hi) (albR_cpy (bN_8 (hb a ha)) hR)
    · refine TabA_keep (fun q g1 g2 => cA_ne (by omega)) (fun hj2 => ?_) (hA j hj)
      rw [u 34 (by omega), hc, nIc (by omega)] at hj2
      rw [hc, nIc (by omega)]
      refine ⟨hj2, hb j hj2, fun i hi => ?_⟩
      rcases Nat.lt_or_ge j l with g | g
      · exact mCp_be X l a 28 _ (by omega)
      · exact mCp_hi X l a 28 _ (by omega)
theorem cv_clear_loop (hok : mOK st) (hc : st 34 = nI c) (h12 : c ≤ 12) : ∀ (k i : Nat) (l3 l4 : Option Value) (σ : aS), i + k = c → TabR σ t (mCl st i) → (∀ σ' l3' l4', TabR σ' t (mCl st c) → Fr σ σ' t 41 → aX (d + 2) iX5_clearEnded 56 [some (.ref t), some (.int (nI (mGR st c))), some (.int (nI c)), l3', l4'] [] σ' Q) → aX (d + 2) iX5_clearEnded 4 [some (.ref t), some (.int (nI (mGR st i))), some (.int (nI i)), l3, l4] [] σ Q
  | 0, i, l3, l4, σ, h, hT, K => by
    have e : i = c := by omega
    subst e
    have h0 := hT.1
    rw [mCl_lo _ _ _ (show 34 < 35 by omega), hc] at h0
    have := K σ l3 l4 hT (Fr_refl _ _ _)
    rw [sX5_clearEnded_4]
    simp (disch := omega) only [sX5_clearEnded_5, sX5_clearEnded_6, sX5_clearEnded_9, h0, tF_l, tF_g0, tF_g1, tF_g2, tF_g3, tF_g4, tF_g5, tF_s3, tF_s4, tF_s5, aFld, aFds, aRow, aRowR, aRefs, aLn, if_true, List.getElem?_cons_zero, List.getElem?_cons_succ, List.set_cons_zero, List.set_cons_succ, List.length_cons, List.length_nil, Option.some.injEq, exists_eq_left', aput_same, aclr_none, aclr_int, aclr_ref, aclr_null, aret_some, aret_none, bz, bz0, bz1, true_and, and_true, vpT, nIc, nI_add, pk_mul, nI_sub', Nat.add_zero, Nat.zero_add, upd_same, upd_ne, if_false, not_true_eq_false, not_false_eq_true, ite_z, ite_o, eq_self, Bool.false_eq_true, nI_leT, nI_leF, nI_ltT, nI_ltF, nI_ne, and_self, false_and, and_false, Nat.reduceAdd, Nat.reduceSub, Nat.reduceMul, Nat.reduceLT, Nat.reduceLeDiff, true_and]
    exact this
  | k + 1, i, l3, l4, σ, h, hT, K => by
    have ih := cv_clear_loop hok hc h12 k (i + 1)
    have hle := mGR_le st i
    have hcX : mCl st i 34 = nI c := by rw [mCl_lo _ _ _ (show 34 < 35 by omega)]; exact hc
    have h0 := hT.1
    rw [hcX] at h0
    obtain ⟨ow, pg, hw, tn, tp, f, g, hAl, hR⟩ := hT.2.2.2.2.2 i (by omega)
    have hR2 := hR (by rw [hcX, nIc (by omega)]; omega)
    have hhw : hw = st (35 + 28 * i + 2) := hR2.2.2.1.trans (mCl_hi st i _ (by omega))
    have hb : ∀ j, j < c → bOK (bk (mCl st i) j) := fun j hj => mCl_b hok hc h12 (by omega) hj
    obtain ⟨ow2, pg2, hw2, tn2, tp2, f2, g2, hAl2, -⟩ := hT.2.2.2.2.2 (mGR st i) (by omega)
    rw [mGR, mCl, ← hhw] at ih
    rw [sX5_clearEnded_4]
    by_cases gg : hw = nI 0
    · rw [if_pos gg, if_pos gg] at ih
      by_cases ge : mGR st i = i
      · rw [ge, mCp_self] at ih
        rw [ge]
        simp (disch := omega) only [sX5_clearEnded_5, sX5_clearEnded_6, sX5_clearEnded_9, sX5_clearEnded_12, sX5_clearEnded_13, sX5_clearEnded_14, sX5_clearEnded_17, sX5_clearEnded_17n, sX5_clearEnded_18, sX5_clearEnded_19, sX5_clearEnded_20, sX5_clearEnded_23, sX5_clearEnded_23n, sX5_clearEnded_25, sX5_clearEnded_25n, sX5_clearEnded_26, sX5_clearEnded_26n, sX5_clearEnded_29, sX5_clearEnded_29n, sX5_clearEnded_31, sX5_clearEnded_31n, sX5_clearEnded_34, sX5_clearEnded_34n, sX5_clearEnded_35, sX5_clearEnded_38, sX5_clearEnded_41, sX5_clearEnded_41n, sX5_clearEnded_43, sX5_clearEnded_43n, sX5_clearEnded_44, sX5_clearEnded_47, sX5_clearEnded_50, sX5_clearEnded_53, h0, cv_placeAt hT, cv_goes hAl, cv_copySelf hAl, aIsT h0, aIsT hAl.1, gg, tF_l, tF_g0, tF_g1, tF_g2, tF_g3, tF_g4, tF_g5, tF_s3, tF_s4, tF_s5, aFld, aFds, aRow, aRowR, aRefs, aLn, if_true, List.getElem?_cons_zero, List.getElem?_cons_succ, List.set_cons_zero, List.set_cons_succ, List.length_cons, List.length_nil, Option.some.injEq, exists_eq_left', aput_same, aclr_none, aclr_int, aclr_ref, aclr_null, aret_some, aret_none, bz, bz0, bz1, true_and, and_true, vpT, nIc, nI_add, pk_mul, nI_sub', Nat.add_zero, Nat.zero_add, upd_same, upd_ne, if_false, not_true_eq_false, not_false_eq_true, ite_z, ite_o, eq_self, Bool.false_eq_true, nI_leT, nI_leF, nI_ltT, nI_ltF, nI_ne, and_self, false_and, and_false, Nat.reduceAdd, Nat.reduceSub, Nat.reduceMul, Nat.reduceLT, Nat.reduceLeDiff, true_and]
        exact ih _ _ σ (by omega) hT K
      · simp (disch := omega) only [sX5_clearEnded_5, sX5_clearEnded_6, sX5_clearEnded_9, sX5_clearEnded_12, sX5_clearEnded_13, sX5_clearEnded_14, sX5_clearEnded_17, sX5_clearEnded_17n, sX5_clearEnded_18, sX5_clearEnded_19, sX5_clearEnded_20, sX5_clearEnded_23, sX5_clearEnded_23n, sX5_clearEnded_25, sX5_clearEnded_25n, sX5_clearEnded_26, sX5_clearEnded_26n, sX5_clearEnded_29, sX5_clearEnded_29n, sX5_clearEnded_31, sX5_clearEnded_31n, sX5_clearEnded_34, sX5_clearEnded_34n, sX5_clearEnded_35, sX5_clearEnded_38, sX5_clearEnded_41, sX5_clearEnded_41n, sX5_clearEnded_43, sX5_clearEnded_43n, sX5_clearEnded_44, sX5_clearEnded_47, sX5_clearEnded_50, sX5_clearEnded_53, h0, cv_placeAt hT, cv_goes hAl, cv_copyAlb hAl2 hAl, aIsT h0, aIsT hAl.1, aIsT hAl2.1, gg, tF_l, tF_g0, tF_g1, tF_g2, tF_g3, tF_g4, tF_g5, tF_s3, tF_s4, tF_s5, aFld, aFds, aRow, aRowR, aRefs, aLn, if_true, List.getElem?_cons_zero, List.getElem?_cons_succ, List.set_cons_zero, List.set_cons_succ, List.length_cons, List.length_nil, Option.some.injEq, exists_eq_left', aput_same, aclr_none, aclr_int, aclr_ref, aclr_null, aret_some, aret_none, bz, bz0, bz1, true_and, and_true, vpT, nIc, nI_add, pk_mul, nI_sub', Nat.add_zero, Nat.zero_add, upd_same, upd_ne, if_false, not_true_eq_false, not_false_eq_true, ite_z, ite_o, eq_self, Bool.false_eq_true, nI_leT, nI_leF, nI_ltT, nI_ltF, nI_ne, and_self, false_and, and_false, Nat.reduceAdd, Nat.reduceSub, Nat.reduceMul, Nat.reduceLT, Nat.reduceLeDiff, true_and]
        refine ih _ _ _ (by omega) ?_ (fun σ' l3' l4' hT' hF => K σ' l3' l4' hT' (Fr_trans ⟨fun q hq => cA_ne (by omega), rfl⟩ hF))
        rw [gg] at hR2
        exact TabR_cp hT hcX h12 hb (by omega) (by omega) hAl2 hR2
    · rw [if_neg gg, if_neg gg] at ih
      simp (disch := omega) only [sX5_clearEnded_5, sX5_clearEnded_6, sX5_clearEnded_9, sX5_clearEnded_12, sX5_clearEnded_13, sX5_clearEnded_14, sX5_clearEnded_17, sX5_clearEnded_17n, sX5_clearEnded_18, sX5_clearEnded_19, sX5_clearEnded_20, sX5_clearEnded_23, sX5_clearEnded_23n, sX5_clearEnded_25, sX5_clearEnded_25n, sX5_clearEnded_26, sX5_clearEnded_26n, sX5_clearEnded_29, sX5_clearEnded_29n, sX5_clearEnded_31, sX5_clearEnded_31n, sX5_clearEnded_34, sX5_clearEnded_34n, sX5_clearEnded_35, sX5_clearEnded_38, sX5_clearEnded_41, sX5_clearEnded_41n, sX5_clearEnded_43, sX5_clearEnded_43n, sX5_clearEnded_44, sX5_clearEnded_47, sX5_clearEnded_50, sX5_clearEnded_53, h0, cv_placeAt hT, cv_goes hAl, aIsT h0, aIsT hAl.1, gg, tF_l, tF_g0, tF_g1, tF_g2, tF_g3, tF_g4, tF_g5, tF_s3, tF_s4, tF_s5, aFld, aFds, aRow, aRowR, aRefs, aLn, if_true, List.getElem?_cons_zero, List.getElem?_cons_succ, List.set_cons_zero, List.set_cons_succ, List.length_cons, List.length_nil, Option.some.injEq, exists_eq_left', aput_same, aclr_none, aclr_int, aclr_ref, aclr_null, aret_some, aret_none, bz, bz0, bz1, true_and, and_true, vpT, nIc, nI_add, pk_mul, nI_sub', Nat.add_zero, Nat.zero_add, upd_same, upd_ne, if_false, not_true_eq_false, not_false_eq_true, ite_z, ite_o, eq_self, Bool.false_eq_true, nI_leT, nI_leF, nI_ltT, nI_ltF, nI_ne, and_self, false_and, and_false, Nat.reduceAdd, Nat.reduceSub, Nat.reduceMul, Nat.reduceLT, Nat.reduceLeDiff, true_and]
      exact ih _ _ σ (by omega) hT K
theorem cv_clear (hT : TabR σ t st) (hok : mOK st) (hc : st 34 = nI c) (h12 : c ≤ 12) (K : ∀ σ', TabR σ' t (mClear st c) → Fr σ σ' t 41 → Q (some (.int (nI (c - mGR st c)))) σ') : aX (d + 2) iX5_clearEnded 0 [some (.ref t), none, none, none, none] [] σ Q := by
  have hle := mGR_le st c
  simp (disch := omega) only [sX5_clearEnded_0, sX5_clearEnded_1, sX5_clearEnded_2, sX5_clearEnded_3, tF_l, tF_g0, tF_g1, tF_g2, tF_g3, tF_g4, tF_g5, tF_s3, tF_s4, tF_s5, aFld, aFds, aRow, aRowR, aRefs, aLn, if_true, List.getElem?_cons_zero, List.getElem?_cons_succ, List.set_cons_zero, List.set_cons_succ, List.length_cons, List.length_nil, Option.some.injEq, exists_eq_left', aput_same, aclr_none, aclr_int, aclr_ref, aclr_null, aret_some, aret_none, bz, bz0, bz1, true_and, and_true, vpT, nIc, nI_add, pk_mul, nI_sub', Nat.add_zero, Nat.zero_add, upd_same, upd_ne, if_false, not_true_eq_false, not_false_eq_true, ite_z, ite_o, eq_self, Bool.false_eq_true, nI_leT, nI_leF, nI_ltT, nI_ltF, nI_ne, and_self, false_and, and_false, Nat.reduceAdd, Nat.reduceSub, Nat.reduceMul, Nat.reduceLT, Nat.reduceLeDiff, true_and]
  refine cv_clear_loop hok hc h12 c 0 none none σ (by omega) hT (fun σ' l3' l4' hT' hF => ?_)
  have h0 := hT'.1
  have hb : ∀ j, j < c → bOK (bk (mCl st c) j) := fun j hj => mCl_b hok hc h12 (by omega) hj
  have hcX : mCl st c 34 = nI c := by rw [mCl_lo _ _ _ (show 34 < 35 by omega)]; exact hc
  rw [hcX] at h0
  simp (disch := omega) only [sX5_clearEnded_56, sX5_clearEnded_57, sX5_clearEnded_60, sX5_clearEnded_61, sX5_clearEnded_62, sX5_clearEnded_63, sX5_clearEnded_64, sX5_clearEnded_65, sX5_clearEnded_68, sX5_clearEnded_69, h0, tF_l, tF_g0, tF_g1, tF_g2, tF_g3, tF_g4, tF_g5, tF_s3, tF_s4, tF_s5, aFld, aFds, aRow, aRowR, aRefs, aLn, if_true, List.getElem?_cons_zero, List.getElem?_cons_succ, List.set_cons_zero, List.set_cons_succ, List.length_cons, List.length_nil, Option.some.injEq, exists_eq_left', aput_same, aclr_none, aclr_int, aclr_ref, aclr_null, aret_some, aret_none, bz, bz0, bz1, true_and, and_true, vpT, nIc, nI_add, pk_mul, nI_sub', Nat.add_zero, Nat.zero_add, upd_same, upd_ne, if_false, not_true_eq_false, not_false_eq_true, ite_z, ite_o, eq_self, Bool.false_eq_true, nI_leT, nI_leF, nI_ltT, nI_ltF, nI_ne, and_self, false_and, and_false, Nat.reduceAdd, Nat.reduceSub, Nat.reduceMul, Nat.reduceLT, Nat.reduceLeDiff, true_and]
  obtain ⟨-, ⟨ft, h1, h1'⟩, ⟨dr, h2, h2'⟩, ⟨P, h3, h3'⟩, ⟨F, h4, h4'⟩, hA⟩ := hT'
  have u : ∀ k, k ≠ 34 → mClear st c k = mCl st c k := fun k hk => upd_ne hk
  refine K _ ⟨?_, ⟨ft, (aput_ne _ _ (by omega)).trans h1, fun k hk => by rw [u _ (by omega)]; exact h1' k hk⟩, ⟨dr, (aput_ne _ _ (by omega)).trans h2, fun k hk => by rw [u _ (by omega)]; exact h2' k hk⟩, ⟨P, (aput_ne _ _ (by omega)).trans h3, fun k hk => by rw [u _ (by omega)]; exact h3' k hk⟩, ⟨F, (aput_ne _ _ (by omega)).trans h4, h4'⟩, fun j hj => ?_⟩ (Fr_trans hF (Fr_put (by omega) (by omega)))
  · rw [u 16 (by omega), u 33 (by omega), show mClear st c 34 = nI (mGR st c) from upd_same]
    exact aput_same _ _ _
  · refine TabA_keep (fun q g1 g2 => aput_ne _ _ (by omega)) (fun hj2 => ?_) (hA j hj)
    rw [show mClear st c 34 = nI (mGR st c) from upd_same, nIc (by omega)] at hj2
    rw [hcX, nIc (by omega)]
    exact ⟨by omega, hb j (by omega), fun i hi => u _ (by omega)⟩
end CAA
