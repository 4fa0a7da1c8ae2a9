/-! THE CLASS: a table's cells and the reference's row -/
def AlbC (σ : aS) (a : Nat) (ow pg hw tn tp : Int32) (f g : Nat → Int32) : Prop := σ.1 a = some (eO 0 (.ref (a + 1) :: cF a ow pg hw tn tp)) ∧ σ.1 (a + 1) = some (eI 8 f) ∧ σ.1 (a + 2) = some (eI 8 g)
def TabA (σ : aS) (t : Nat) (st : Nat → Int32) (j : Nat) : Prop := ∃ ow pg hw tn tp f g, AlbC σ (t + 5 + 3 * j) ow pg hw tn tp f g ∧ (j < (st 34).toNatClampNeg → albR (bk st j) ow pg hw tn tp f g)
def TabR (σ : aS) (t : Nat) (st : Nat → Int32) : Prop :=
  σ.1 t = some (eO 5 (.ref (t + 1) :: tF t (st 16) (st 34) (st 33))) ∧ (∃ ft, σ.1 (t + 1) = some (eI 16 ft) ∧ ∀ w, w < 16 → ft w = st w) ∧ (∃ dr, σ.1 (t + 2) = some (eI 8 dr) ∧ ∀ s, s < 8 → dr s = st (17 + s)) ∧ (∃ P, σ.1 (t + 3) = some (eI 8 P) ∧ ∀ s, s < 8 → P s = st (25 + s)) ∧ (∃ F, σ.1 (t + 4) = some (eQ 1 12 F) ∧ ∀ j, j < 12 → F j = some (t + 5 + 3 * j)) ∧ ∀ j, j < 12 → TabA σ t st j
def Fr (σ σ' : aS) (t n : Nat) : Prop := (∀ q, (q < t ∨ t + n ≤ q) → σ'.1 q = σ.1 q) ∧ σ'.2 = σ.2
theorem Fr_refl (σ : aS) (t n : Nat) : Fr σ σ t n := ⟨fun _ _ => rfl, rfl⟩
theorem Fr_trans {σ σ' τ : aS} {t n : Nat} (h : Fr σ σ' t n) (h2 : Fr σ' τ t n) : Fr σ τ t n := ⟨fun q hq => (h2.1 q hq).trans (h.1 q hq), h2.2.trans h.2⟩
theorem Fr_put {σ : aS} {t n a : Nat} {e : aE} (h1 : t ≤ a) (h2 : a < t + n) : Fr σ (aput σ a e) t n := ⟨fun q hq => aput_ne _ _ (by omega), rfl⟩
theorem TabR_keep {σ σ' : aS} {t : Nat} {st : Nat → Int32} (h : ∀ q, t ≤ q → q < t + 41 → σ'.1 q = σ.1 q) (hT : TabR σ t st) : TabR σ' t st := by
  obtain ⟨h0, ⟨ft, h1, h1'⟩, ⟨dr, h2, h2'⟩, ⟨P, h3, h3'⟩, ⟨F, h4, h4'⟩, hA⟩ := hT
  refine ⟨(h t (by omega) (by omega)).trans h0, ⟨ft, (h _ (by omega) (by omega)).trans h1, h1'⟩, ⟨dr, (h _ (by omega) (by omega)).trans h2, h2'⟩, ⟨P, (h _ (by omega) (by omega)).trans h3, h3'⟩, ⟨F, (h _ (by omega) (by omega)).trans h4, h4'⟩, fun j hj => ?_⟩
  obtain ⟨ow, pg, hw, tn, tp, f, g, ⟨a0, a1, a2⟩, hR⟩ := hA j hj
  exact ⟨ow, pg, hw, tn, tp, f, g, ⟨(h _ (by omega) (by omega)).trans a0, (h _ (by omega) (by omega)).trans a1, (h _ (by omega) (by omega)).trans a2⟩, hR⟩
theorem cA_self {σ : aS} {a : Nat} {ow pg hw tn tp : Int32} {f g : Nat → Int32} (h : AlbC σ a ow pg hw tn tp f g) : cA σ a (cF a ow pg hw tn tp) f g = σ := by
  unfold cA
  rw [aput_self h.1, aput_self h.2.1, aput_self h.2.2]
theorem cA_alb {σ : aS} {a : Nat} {ow pg hw tn tp : Int32} {f g : Nat → Int32} : AlbC (cA σ a (cF a ow pg hw tn tp) f g) a ow pg hw tn tp f g := ⟨cA_0, cA_1, cA_2⟩
theorem cA_hi {σ : aS} {a : Nat} {fs : List Value} {f g : Nat → Int32} : (cA σ a fs f g).2 = σ.2 := rfl
theorem vrf {x : Nat} : va_rf (some x) = .ref x := rfl
section CV
variable {d : Nat} {σ : aS} {Q : aQ} {t : Nat} {st : Nat → Int32}
theorem cv_placeAt {j : Nat} (hT : TabR σ t st) (hj : j < 12) : aX d iX5_placeAt 0 [some (.ref t), some (.int (nI j))] [] σ Q ↔ Q (some (.ref (t + 5 + 3 * j))) σ := by
  obtain ⟨h0, -, -, -, ⟨F, h4, h4'⟩, -⟩ := hT
  simp (disch := omega) only [sX5_placeAt_0, sX5_placeAt_1, sX5_placeAt_4, sX5_placeAt_5, sX5_placeAt_6, sX5_placeAt_9, sX5_placeAt_10, sX5_placeAt_13, sX5_placeAt_14, sX5_placeAt_17, sX5_placeAt_18, sX5_placeAt_19, sX5_placeAt_22, sX5_placeAt_23, sX5_placeAt_23n, h0, h4, h4', vrf, tF_l, tF_g0, tF_g1, tF_g2, tF_g3, tF_g4, tF_g5, tF_s3, tF_s4, tF_s5, aFld, aFds, aRow, aRowR, aRefs, aLn, if_true, List.getElem?_cons_zero, List.getElem?_cons_succ, List.set_cons_zero, List.set_cons_succ, List.length_cons, List.length_nil, Option.some.injEq, exists_eq_left', aput_same, aclr_none, aclr_int, aclr_ref, aclr_null, aret_some, aret_none, bz, bz0, bz1, true_and, and_true, vpT, nIc, nI_add, pk_mul, nI_sub', Nat.add_zero, Nat.zero_add, upd_same, upd_ne, if_false, not_true_eq_false, not_false_eq_true, ite_z, ite_o, eq_self, Bool.false_eq_true, nI_leT, nI_leF, nI_ltT, nI_ltF, nI_ne, and_self, false_and, and_false, Nat.reduceAdd, Nat.reduceSub, Nat.reduceMul, Nat.reduceLT, Nat.reduceLeDiff, true_and]
theorem cv_albumAt {j c : Nat} (hT : TabR σ t st) (hc : st 34 = nI c) (h12 : c ≤ 12) (hj : j < c) : aX (d + 1) iX5_albumAt 0 [some (.ref t), some (.int (nI j))] [] σ Q ↔ Q (some (.ref (t + 5 + 3 * j))) σ := by
  have h0 := hT.1
  rw [hc] at h0
  simp (disch := omega) only [sX5_albumAt_0, sX5_albumAt_1, sX5_albumAt_2, sX5_albumAt_5, sX5_albumAt_8, sX5_albumAt_9, sX5_albumAt_10, sX5_albumAt_13, sX5_albumAt_16, sX5_albumAt_17, sX5_albumAt_17n, h0, cv_placeAt hT, aIsT h0, tF_l, tF_g0, tF_g1, tF_g2, tF_g3, tF_g4, tF_g5, tF_s3, tF_s4, tF_s5, aFld, aFds, aRow, aRowR, aRefs, aLn, if_true, List.getElem?_cons_zero, List.getElem?_cons_succ, List.set_cons_zero, List.set_cons_succ, List.length_cons, List.length_nil, Option.some.injEq, exists_eq_left', aput_same, aclr_none, aclr_int, aclr_ref, aclr_null, aret_some, aret_none, bz, bz0, bz1, true_and, and_true, vpT, nIc, nI_add, pk_mul, nI_sub', Nat.add_zero, Nat.zero_add, upd_same, upd_ne, if_false, not_true_eq_false, not_false_eq_true, ite_z, ite_o, eq_self, Bool.false_eq_true, nI_leT, nI_leF, nI_ltT, nI_ltF, nI_ne, and_self, false_and, and_false, Nat.reduceAdd, Nat.reduceSub, Nat.reduceMul, Nat.reduceLT, Nat.reduceLeDiff, true_and]
theorem cv_goes {ow pg hw tn tp : Int32} {f g : Nat → Int32} {a : Nat} (h : AlbC σ a ow pg hw tn tp f g) : aX d iX0_goesRound 0 [some (.ref a)] [] σ Q ↔ Q (some (.int (if hw = nI 0 then nI 1 else nI 0))) σ := by
  have := ca_goesRound (d := d) (σ := σ) (Q := Q) (a := a) (ow := ow) (pg := pg) (hw := hw) (tn := tn) (tp := tp) (f := f) (g := g)
  rw [cA_self h] at this
  exact this
end CV
