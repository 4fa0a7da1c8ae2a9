/-! THE LAW: an album in its rows -/
/-- a page as one number -/
def pE (b : Nat → Int32) (k : Nat) : Nat := 10000 * (b (4 + 3 * k)).toNatClampNeg + 5000 * (b (4 + 3 * k + 2)).toNatClampNeg + (b (4 + 3 * k + 1)).toNatClampNeg
/-- the law's rows hold an album: four numbers, a number a page -/
def AlR (fal fpa : Nat → Int32) (a : Nat) (b : Nat → Int32) : Prop := (∀ i, i < 4 → fal (4 * a + i) = b i) ∧ ∀ k, k < bN b → fpa (8 * a + k) = nI (pE b k)
theorem pE_of {b : Nat → Int32} (hb : bOK b) {k : Nat} (hk : k < bN b) : ∃ s w t, b (4 + 3 * k) = nI s ∧ s < 8 ∧ b (4 + 3 * k + 1) = nI w ∧ w < 4096 ∧ (k % 2 = 0 → w < 16) ∧ b (4 + 3 * k + 2) = nI t ∧ t ≤ 1 ∧ pE b k = 10000 * s + 5000 * t + w := by
  obtain ⟨n, h1, h2, h3, ho, hh, hsq, hd, hw, hf, ht⟩ := hb
  have eN := bOK_N h1 h3
  rw [eN] at hk
  obtain ⟨s, e1, e2⟩ := hsq k hk
  obtain ⟨w, e3, e4, e5⟩ := hw k hk
  obtain ⟨t, e6, e7⟩ : ∃ t, b (4 + 3 * k + 2) = nI t ∧ t ≤ 1 := by
    rcases hf k hk with e | e
    · exact ⟨0, e, by omega⟩
    · exact ⟨1, e, by omega⟩
  refine ⟨s, w, t, e1, e2, e3, e4, e5, e6, e7, ?_⟩
  unfold pE
  rw [e1, e3, e6, nIc (by omega), nIc (by omega), nIc (by omega)]
theorem pE_lt {b : Nat → Int32} (hb : bOK b) {k : Nat} (hk : k < bN b) : pE b k < 100000 := by
  obtain ⟨s, w, t, -, h2, -, h4, -, -, h7, h8⟩ := pE_of hb hk
  omega
theorem pE_seat {b : Nat → Int32} (hb : bOK b) {k : Nat} (hk : k < bN b) : nI (pE b k / 10000) = b (4 + 3 * k) := by
  obtain ⟨s, w, t, h1, h2, -, h4, -, -, h7, h8⟩ := pE_of hb hk
  rw [h1, h8, show (10000 * s + 5000 * t + w) / 10000 = s by omega]
theorem pE_what {b : Nat → Int32} (hb : bOK b) {k : Nat} (hk : k < bN b) : nI (pE b k % 5000) = b (4 + 3 * k + 1) := by
  obtain ⟨s, w, t, -, h2, h3, h4, -, -, h7, h8⟩ := pE_of hb hk
  rw [h3, h8, show (10000 * s + 5000 * t + w) % 5000 = w by omega]
theorem pE_told {b : Nat → Int32} (hb : bOK b) {k : Nat} (hk : k < bN b) : (if pE b k % 10000 < 5000 then nI 0 else nI 1) = b (4 + 3 * k + 2) := by
  obtain ⟨s, w, t, -, h2, -, h4, -, h6, h7, h8⟩ := pE_of hb hk
  rw [h6, h8]
  by_cases g : t = 0
  · subst g
    rw [if_pos (by omega)]
  · rw [if_neg (by omega), show t = 1 by omega]
theorem pE_cong {b b' : Nat → Int32} {k : Nat} (h0 : b' (4 + 3 * k) = b (4 + 3 * k)) (h1 : b' (4 + 3 * k + 1) = b (4 + 3 * k + 1)) (h2 : b' (4 + 3 * k + 2) = b (4 + 3 * k + 2)) : pE b' k = pE b k := by
  unfold pE
  rw [h0, h1, h2]
theorem AlR_cong {fal fpa fal' fpa' b b' : Nat → Int32} {a : Nat} (hb : bOK b) (h : ∀ i, i < 28 → b' i = b i) (h1 : ∀ i, i < 4 → fal' (4 * a + i) = fal (4 * a + i)) (h2 : ∀ k, k < 8 → fpa' (8 * a + k) = fpa (8 * a + k)) (hR : AlR fal fpa a b) : AlR fal' fpa' a b' := by
  have h8 : bN b ≤ 8 := bN_8 hb
  refine ⟨fun i hi => by rw [h1 i hi, hR.1 i hi, h i (by omega)], fun k hk => ?_⟩
  rw [bN_cong h] at hk
  rw [h2 k (by omega), hR.2 k hk, pE_cong (h _ (by omega)) (h _ (by omega)) (h _ (by omega))]
/-- the law's three rows that a round writes -/
def lA (σ : aS) (pt al pa : Nat) (fpt fal fpa : Nat → Int32) : aS := aput (aput (aput σ pt (eI 8 fpt)) al (eI 24 fal)) pa (eI 48 fpa)
section LR
variable {σ : aS} {pt al pa : Nat} {fpt fal fpa f : Nat → Int32}
theorem lA_pt (h : pt < al ∧ al < pa) : (lA σ pt al pa fpt fal fpa).1 pt = some (eI 8 fpt) := by
  unfold lA
  rw [aput_ne _ _ (by omega), aput_ne _ _ (by omega), aput_same]
theorem lA_al (h : pt < al ∧ al < pa) : (lA σ pt al pa fpt fal fpa).1 al = some (eI 24 fal) := by
  unfold lA
  rw [aput_ne _ _ (by omega), aput_same]
theorem lA_pa : (lA σ pt al pa fpt fal fpa).1 pa = some (eI 48 fpa) := by
  unfold lA
  rw [aput_same]
theorem lA_ne {q : Nat} (h : q ≠ pt) (h1 : q ≠ al) (h2 : q ≠ pa) : (lA σ pt al pa fpt fal fpa).1 q = σ.1 q := by
  unfold lA
  rw [aput_ne _ _ h2, aput_ne _ _ h1, aput_ne _ _ h]
theorem lA_2 : (lA σ pt al pa fpt fal fpa).2 = σ.2 := rfl
theorem lA_wpt (h : pt < al ∧ al < pa) : aput (lA σ pt al pa fpt fal fpa) pt (eI 8 f) = lA σ pt al pa f fal fpa := by
  unfold lA
  rw [aput_comm _ (show pa ≠ pt by omega), aput_comm _ (show al ≠ pt by omega), aput_twice]
theorem lA_wal (h : pt < al ∧ al < pa) : aput (lA σ pt al pa fpt fal fpa) al (eI 24 f) = lA σ pt al pa fpt f fpa := by
  unfold lA
  rw [aput_comm _ (show pa ≠ al by omega), aput_twice]
theorem lA_wpa : aput (lA σ pt al pa fpt fal fpa) pa (eI 48 f) = lA σ pt al pa fpt fal f := by
  unfold lA
  rw [aput_twice]
theorem lA_self (h0 : σ.1 pt = some (eI 8 fpt)) (h1 : σ.1 al = some (eI 24 fal)) (h2 : σ.1 pa = some (eI 48 fpa)) : lA σ pt al pa fpt fal fpa = σ := by
  unfold lA
  rw [aput_self h0, aput_self h1, aput_self h2]
end LR
section LH
variable {d : Nat} {σ : aS} {Q : aQ} {al pa a : Nat} {fal fpa b : Nat → Int32}
theorem l_has_loop (hal : σ.1 al = some (eI 24 fal)) (hpa : σ.1 pa = some (eI 48 fpa)) (ha : a < 6) (hb : bOK b) (hR : AlR fal fpa a b) {s : Nat} (hs : s < 8) : ∀ (k i : Nat) (Q : aQ), i + k = bN b → (∀ g, g < i → b (4 + 3 * g) ≠ nI s) → (aX (d + 1) iL_has 3 [some (.int (nI a)), some (.int (nI s)), some (.ref al), some (.ref pa), some (.int (nI i))] [] σ Q ↔ Q (some (.int (if bt (bSe b (bN b)) s = true then nI 1 else nI 0))) σ)
  | 0, i, Q, h, hno => by
    have h8 := bN_8 hb
    obtain ⟨n, h1, h2, h3, ho, hh, hsq, hd, hw, hf, ht⟩ := id hb
    have eN := bOK_N h1 h3
    have hn : fal (4 * a + 1) = nI (bN b) := by rw [hR.1 1 (by omega), h1, eN]
    have hF : ¬ bt (bSe b (bN b)) s = true := fun z => by
      rw [eN] at z
      obtain ⟨g, hg, e⟩ := (bSe_bt n hsq s (by omega)).mp z
      exact hno g (by omega) e
    rw [sL_has_3, if_neg hF]
    simp (disch := omega) only [sL_has_5, sL_has_5n, sL_has_6, sL_has_7, sL_has_8, sL_has_9, sL_has_10, sL_has_11, sL_has_12, sL_has_15, sL_has_15n, sL_has_16, sL_has_18, sL_has_19, sL_has_20, sL_has_22, sL_has_23, sL_has_24, sL_has_27, sL_has_28, sL_has_31, sL_has_32, sL_has_33, sL_has_36, sL_has_39, sL_has_40, hal, hn, aFld, aFds, aRow, aRowR, aRefs, aLn, if_true, List.getElem?_cons_zero, List.getElem?_cons_succ, List.set_cons_zero, List.set_cons_succ, List.length_cons, List.length_nil, Option.some.injEq, exists_eq_left', aput_same, aclr_none, aclr_int, aclr_ref, aclr_null, aret_some, aret_none, bz, bz0, bz1, true_and, and_true, vpT, nIc, nI_add, pk_mul, nI_sub', Nat.add_zero, Nat.zero_add, upd_same, upd_ne, if_false, not_true_eq_false, not_false_eq_true, ite_z, ite_o, eq_self, Bool.false_eq_true, nI_leT, nI_leF, nI_ltT, nI_ltF, nI_ne, and_self, false_and, and_false, nI_rem]
  | k + 1, i, Q, h, hno => by
    have h8 := bN_8 hb
    obtain ⟨n, h1, h2, h3, ho, hh, hsq, hd, hw, hf, ht⟩ := id hb
    have eN := bOK_N h1 h3
    have hn : fal (4 * a + 1) = nI (bN b) := by rw [hR.1 1 (by omega), h1, eN]
    have hp := hR.2 i (by omega)
    have hlt := pE_lt hb (show i < bN b by omega)
    have hse := pE_seat hb (show i < bN b by omega)
    obtain ⟨t, ht1, ht8⟩ := hsq i (by omega)
    rw [ht1] at hse
    rw [sL_has_3]
    by_cases g : t = s
    · subst g
      have hT : bt (bSe b (bN b)) t = true := by
        rw [eN]
        exact (bSe_bt n hsq t (by omega)).mpr ⟨i, by omega, ht1⟩
      rw [if_pos hT]
      simp (disch := omega) only [sL_has_5, sL_has_5n, sL_has_6, sL_has_7, sL_has_8, sL_has_9, sL_has_10, sL_has_11, sL_has_12, sL_has_15, sL_has_15n, sL_has_16, sL_has_18, sL_has_19, sL_has_20, sL_has_22, sL_has_23, sL_has_24, sL_has_27, sL_has_28, sL_has_31, sL_has_32, hal, hpa, hn, hp, l_seat, hse, aFld, aFds, aRow, aRowR, aRefs, aLn, if_true, List.getElem?_cons_zero, List.getElem?_cons_succ, List.set_cons_zero, List.set_cons_succ, List.length_cons, List.length_nil, Option.some.injEq, exists_eq_left', aput_same, aclr_none, aclr_int, aclr_ref, aclr_null, aret_some, aret_none, bz, bz0, bz1, true_and, and_true, vpT, nIc, nI_add, pk_mul, nI_sub', Nat.add_zero, Nat.zero_add, upd_same, upd_ne, if_false, not_true_eq_false, not_false_eq_true, ite_z, ite_o, eq_self, Bool.false_eq_true, nI_leT, nI_leF, nI_ltT, nI_ltF, nI_ne, and_self, false_and, and_false, nI_rem]
    · have gs : (nI t = nI s) = False := nI_ne g (by omega) (by omega)
      rw [← l_has_loop hal hpa ha hb hR hs k (i + 1) Q (by omega) (fun g' hg' => by
        by_cases e : g' = i
        · subst e
          rw [ht1]
          exact fun z => of_eq_false gs z
        · exact hno g' (by omega))]
      simp (disch := omega) only [sL_has_5, sL_has_5n, sL_has_6, sL_has_7, sL_has_8, sL_has_9, sL_has_10, sL_has_11, sL_has_12, sL_has_15, sL_has_15n, sL_has_16, sL_has_18, sL_has_19, sL_has_20, sL_has_22, sL_has_23, sL_has_24, sL_has_27, sL_has_28, sL_has_31, sL_has_32, sL_has_33, sL_has_36, hal, hpa, hn, hp, l_seat, hse, gs, aFld, aFds, aRow, aRowR, aRefs, aLn, if_true, List.getElem?_cons_zero, List.getElem?_cons_succ, List.set_cons_zero, List.set_cons_succ, List.length_cons, List.length_nil, Option.some.injEq, exists_eq_left', aput_same, aclr_none, aclr_int, aclr_ref, aclr_null, aret_some, aret_none, bz, bz0, bz1, true_and, and_true, vpT, nIc, nI_add, pk_mul, nI_sub', Nat.add_zero, Nat.zero_add, upd_same, upd_ne, if_false, not_true_eq_false, not_false_eq_true, ite_z, ite_o, eq_self, Bool.false_eq_true, nI_leT, nI_leF, nI_ltT, nI_ltF, nI_ne, and_self, false_and, and_false, nI_rem]
theorem l_has (hal : σ.1 al = some (eI 24 fal)) (hpa : σ.1 pa = some (eI 48 fpa)) (ha : a < 6) (hb : bOK b) (hR : AlR fal fpa a b) {s : Nat} (hs : s < 8) : aX (d + 1) iL_has 0 [some (.int (nI a)), some (.int (nI s)), some (.ref al), some (.ref pa), none] [] σ Q ↔ Q (some (.int (if bt (bSe b (bN b)) s = true then nI 1 else nI 0))) σ := by
  rw [← l_has_loop (d := d) hal hpa ha hb hR hs (bN b) 0 Q (by omega) (fun g hg => absurd hg (Nat.not_lt_zero g))]
  simp (disch := omega) only [sL_has_0, sL_has_1, aFld, aFds, aRow, aRowR, aRefs, aLn, if_true, List.getElem?_cons_zero, List.getElem?_cons_succ, List.set_cons_zero, List.set_cons_succ, List.length_cons, List.length_nil, Option.some.injEq, exists_eq_left', aput_same, aclr_none, aclr_int, aclr_ref, aclr_null, aret_some, aret_none, bz, bz0, bz1, true_and, and_true, vpT, nIc, nI_add, pk_mul, nI_sub', Nat.add_zero, Nat.zero_add, upd_same, upd_ne, if_false, not_true_eq_false, not_false_eq_true, ite_z, ite_o, eq_self, Bool.false_eq_true, nI_leT, nI_leF, nI_ltT, nI_ltF, nI_ne, and_self, false_and, and_false, nI_rem]
end LH
