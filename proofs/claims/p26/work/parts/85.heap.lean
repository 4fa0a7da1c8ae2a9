/-! THE LAW: all its cells -/
/-- the script's row, the object, the law's nine rows -/
def HP (σ : aS) (b L : Nat) (xs : Nat → Int32) (x : Nat) (fq fwo fdr fpt fal fpa f2 g2 k2 st : Nat → Int32) : Prop := CI σ x st ∧ σ.1 b = some (eS L xs) ∧ x + 432 ≤ σ.2.1 ∧ σ.1 (x + 423) = some (eI 3 fq) ∧ σ.1 (x + 424) = some (eI 16 fwo) ∧ σ.1 (x + 425) = some (eI 8 fdr) ∧ σ.1 (x + 426) = some (eI 8 fpt) ∧ σ.1 (x + 427) = some (eI 24 fal) ∧ σ.1 (x + 428) = some (eI 48 fpa) ∧ σ.1 (x + 429) = some (eI 8 f2) ∧ σ.1 (x + 430) = some (eI 24 g2) ∧ σ.1 (x + 431) = some (eI 48 k2)
section HP1
variable {σ σ' : aS} {b L x : Nat} {xs fq fwo fdr fpt fal fpa f2 g2 k2 st st' f : Nat → Int32}
theorem HP_r0 (h : HP σ b L xs x fq fwo fdr fpt fal fpa f2 g2 k2 st) : σ.1 (x + 423) = some (eI 3 fq) := h.2.2.2.1
theorem HP_r1 (h : HP σ b L xs x fq fwo fdr fpt fal fpa f2 g2 k2 st) : σ.1 (x + 424) = some (eI 16 fwo) := h.2.2.2.2.1
theorem HP_r2 (h : HP σ b L xs x fq fwo fdr fpt fal fpa f2 g2 k2 st) : σ.1 (x + 425) = some (eI 8 fdr) := h.2.2.2.2.2.1
theorem HP_r3 (h : HP σ b L xs x fq fwo fdr fpt fal fpa f2 g2 k2 st) : σ.1 (x + 426) = some (eI 8 fpt) := h.2.2.2.2.2.2.1
theorem HP_r4 (h : HP σ b L xs x fq fwo fdr fpt fal fpa f2 g2 k2 st) : σ.1 (x + 427) = some (eI 24 fal) := h.2.2.2.2.2.2.2.1
theorem HP_r5 (h : HP σ b L xs x fq fwo fdr fpt fal fpa f2 g2 k2 st) : σ.1 (x + 428) = some (eI 48 fpa) := h.2.2.2.2.2.2.2.2.1
theorem HP_r6 (h : HP σ b L xs x fq fwo fdr fpt fal fpa f2 g2 k2 st) : σ.1 (x + 429) = some (eI 8 f2) := h.2.2.2.2.2.2.2.2.2.1
theorem HP_r7 (h : HP σ b L xs x fq fwo fdr fpt fal fpa f2 g2 k2 st) : σ.1 (x + 430) = some (eI 24 g2) := h.2.2.2.2.2.2.2.2.2.2.1
theorem HP_r8 (h : HP σ b L xs x fq fwo fdr fpt fal fpa f2 g2 k2 st) : σ.1 (x + 431) = some (eI 48 k2) := h.2.2.2.2.2.2.2.2.2.2.2
theorem HP_w0 (hb : b < x) (h : HP σ b L xs x fq fwo fdr fpt fal fpa f2 g2 k2 st) : HP (aput σ (x + 423) (eI 3 f)) b L xs x f fwo fdr fpt fal fpa f2 g2 k2 st := by
  obtain ⟨hC, hs, hh, h0, h1, h2, h3, h4, h5, h6, h7, h8⟩ := h
  exact ⟨CI_keep (fun q _ _ => aput_ne _ _ (by omega)) hC, (aput_ne _ _ (by omega)).trans hs, hh, aput_same _ _ _, (aput_ne _ _ (by omega)).trans h1, (aput_ne _ _ (by omega)).trans h2, (aput_ne _ _ (by omega)).trans h3, (aput_ne _ _ (by omega)).trans h4, (aput_ne _ _ (by omega)).trans h5, (aput_ne _ _ (by omega)).trans h6, (aput_ne _ _ (by omega)).trans h7, (aput_ne _ _ (by omega)).trans h8⟩
theorem HP_w1 (hb : b < x) (h : HP σ b L xs x fq fwo fdr fpt fal fpa f2 g2 k2 st) : HP (aput σ (x + 424) (eI 16 f)) b L xs x fq f fdr fpt fal fpa f2 g2 k2 st := by
  obtain ⟨hC, hs, hh, h0, h1, h2, h3, h4, h5, h6, h7, h8⟩ := h
  exact ⟨CI_keep (fun q _ _ => aput_ne _ _ (by omega)) hC, (aput_ne _ _ (by omega)).trans hs, hh, (aput_ne _ _ (by omega)).trans h0, aput_same _ _ _, (aput_ne _ _ (by omega)).trans h2, (aput_ne _ _ (by omega)).trans h3, (aput_ne _ _ (by omega)).trans h4, (aput_ne _ _ (by omega)).trans h5, (aput_ne _ _ (by omega)).trans h6, (aput_ne _ _ (by omega)).trans h7, (aput_ne _ _ (by omega)).trans h8⟩
theorem HP_w2 (hb : b < x) (h : HP σ b L xs x fq fwo fdr fpt fal fpa f2 g2 k2 st) : HP (aput σ (x + 425) (eI 8 f)) b L xs x fq fwo f fpt fal fpa f2 g2 k2 st := by
  obtain ⟨hC, hs, hh, h0, h1, h2, h3, h4, h5, h6, h7, h8⟩ := h
  exact ⟨CI_keep (fun q _ _ => aput_ne _ _ (by omega)) hC, (aput_ne _ _ (by omega)).trans hs, hh, (aput_ne _ _ (by omega)).trans h0, (aput_ne _ _ (by omega)).trans h1, aput_same _ _ _, (aput_ne _ _ (by omega)).trans h3, (aput_ne _ _ (by omega)).trans h4, (aput_ne _ _ (by omega)).trans h5, (aput_ne _ _ (by omega)).trans h6, (aput_ne _ _ (by omega)).trans h7, (aput_ne _ _ (by omega)).trans h8⟩
theorem HP_w3 (hb : b < x) (h : HP σ b L xs x fq fwo fdr fpt fal fpa f2 g2 k2 st) : HP (aput σ (x + 426) (eI 8 f)) b L xs x fq fwo fdr f fal fpa f2 g2 k2 st := by
  obtain ⟨hC, hs, hh, h0, h1, h2, h3, h4, h5, h6, h7, h8⟩ := h
  exact ⟨CI_keep (fun q _ _ => aput_ne _ _ (by omega)) hC, (aput_ne _ _ (by omega)).trans hs, hh, (aput_ne _ _ (by omega)).trans h0, (aput_ne _ _ (by omega)).trans h1, (aput_ne _ _ (by omega)).trans h2, aput_same _ _ _, (aput_ne _ _ (by omega)).trans h4, (aput_ne _ _ (by omega)).trans h5, (aput_ne _ _ (by omega)).trans h6, (aput_ne _ _ (by omega)).trans h7, (aput_ne _ _ (by omega)).trans h8⟩
theorem HP_w4 (hb : b < x) (h : HP σ b L xs x fq fwo fdr fpt fal fpa f2 g2 k2 st) : HP (aput σ (x + 427) (eI 24 f)) b L xs x fq fwo fdr fpt f fpa f2 g2 k2 st := by
  obtain ⟨hC, hs, hh, h0, h1, h2, h3, h4, h5, h6, h7, h8⟩ := h
  exact ⟨CI_keep (fun q _ _ => aput_ne _ _ (by omega)) hC, (aput_ne _ _ (by omega)).trans hs, hh, (aput_ne _ _ (by omega)).trans h0, (aput_ne _ _ (by omega)).trans h1, (aput_ne _ _ (by omega)).trans h2, (aput_ne _ _ (by omega)).trans h3, aput_same _ _ _, (aput_ne _ _ (by omega)).trans h5, (aput_ne _ _ (by omega)).trans h6, (aput_ne _ _ (by omega)).trans h7, (aput_ne _ _ (by omega)).trans h8⟩
theorem HP_w5 (hb : b < x) (h : HP σ b L xs x fq fwo fdr fpt fal fpa f2 g2 k2 st) : HP (aput σ (x + 428) (eI 48 f)) b L xs x fq fwo fdr fpt fal f f2 g2 k2 st := by
  obtain ⟨hC, hs, hh, h0, h1, h2, h3, h4, h5, h6, h7, h8⟩ := h
  exact ⟨CI_keep (fun q _ _ => aput_ne _ _ (by omega)) hC, (aput_ne _ _ (by omega)).trans hs, hh, (aput_ne _ _ (by omega)).trans h0, (aput_ne _ _ (by omega)).trans h1, (aput_ne _ _ (by omega)).trans h2, (aput_ne _ _ (by omega)).trans h3, (aput_ne _ _ (by omega)).trans h4, aput_same _ _ _, (aput_ne _ _ (by omega)).trans h6, (aput_ne _ _ (by omega)).trans h7, (aput_ne _ _ (by omega)).trans h8⟩
theorem HP_w6 (hb : b < x) (h : HP σ b L xs x fq fwo fdr fpt fal fpa f2 g2 k2 st) : HP (aput σ (x + 429) (eI 8 f)) b L xs x fq fwo fdr fpt fal fpa f g2 k2 st := by
  obtain ⟨hC, hs, hh, h0, h1, h2, h3, h4, h5, h6, h7, h8⟩ := h
  exact ⟨CI_keep (fun q _ _ => aput_ne _ _ (by omega)) hC, (aput_ne _ _ (by omega)).trans hs, hh, (aput_ne _ _ (by omega)).trans h0, (aput_ne _ _ (by omega)).trans h1, (aput_ne _ _ (by omega)).trans h2, (aput_ne _ _ (by omega)).trans h3, (aput_ne _ _ (by omega)).trans h4, (aput_ne _ _ (by omega)).trans h5, aput_same _ _ _, (aput_ne _ _ (by omega)).trans h7, (aput_ne _ _ (by omega)).trans h8⟩
theorem HP_w7 (hb : b < x) (h : HP σ b L xs x fq fwo fdr fpt fal fpa f2 g2 k2 st) : HP (aput σ (x + 430) (eI 24 f)) b L xs x fq fwo fdr fpt fal fpa f2 f k2 st := by
  obtain ⟨hC, hs, hh, h0, h1, h2, h3, h4, h5, h6, h7, h8⟩ := h
  exact ⟨CI_keep (fun q _ _ => aput_ne _ _ (by omega)) hC, (aput_ne _ _ (by omega)).trans hs, hh, (aput_ne _ _ (by omega)).trans h0, (aput_ne _ _ (by omega)).trans h1, (aput_ne _ _ (by omega)).trans h2, (aput_ne _ _ (by omega)).trans h3, (aput_ne _ _ (by omega)).trans h4, (aput_ne _ _ (by omega)).trans h5, (aput_ne _ _ (by omega)).trans h6, aput_same _ _ _, (aput_ne _ _ (by omega)).trans h8⟩
theorem HP_w8 (hb : b < x) (h : HP σ b L xs x fq fwo fdr fpt fal fpa f2 g2 k2 st) : HP (aput σ (x + 431) (eI 48 f)) b L xs x fq fwo fdr fpt fal fpa f2 g2 f st := by
  obtain ⟨hC, hs, hh, h0, h1, h2, h3, h4, h5, h6, h7, h8⟩ := h
  exact ⟨CI_keep (fun q _ _ => aput_ne _ _ (by omega)) hC, (aput_ne _ _ (by omega)).trans hs, hh, (aput_ne _ _ (by omega)).trans h0, (aput_ne _ _ (by omega)).trans h1, (aput_ne _ _ (by omega)).trans h2, (aput_ne _ _ (by omega)).trans h3, (aput_ne _ _ (by omega)).trans h4, (aput_ne _ _ (by omega)).trans h5, (aput_ne _ _ (by omega)).trans h6, (aput_ne _ _ (by omega)).trans h7, aput_same _ _ _⟩
theorem HP_cls (hb : b < x) (h : HP σ b L xs x fq fwo fdr fpt fal fpa f2 g2 k2 st) (hC : CI σ' x st') (hk : ∀ q, (q < x ∨ x + 423 ≤ q) → σ'.1 q = σ.1 q) (h2 : σ'.2 = σ.2) : HP σ' b L xs x fq fwo fdr fpt fal fpa f2 g2 k2 st' := by
  obtain ⟨-, hs, hh, h0, h1, h2', h3, h4, h5, h6, h7, h8⟩ := h
  exact ⟨hC, (hk _ (by omega)).trans hs, by rw [h2]; exact hh, (hk _ (by omega)).trans h0, (hk _ (by omega)).trans h1, (hk _ (by omega)).trans h2', (hk _ (by omega)).trans h3, (hk _ (by omega)).trans h4, (hk _ (by omega)).trans h5, (hk _ (by omega)).trans h6, (hk _ (by omega)).trans h7, (hk _ (by omega)).trans h8⟩
theorem HP_up (hb : b < x) (h : HP σ b L xs x fq fwo fdr fpt fal fpa f2 g2 k2 st) (hk : ∀ q, q < σ.2.1 → σ'.1 q = σ.1 q) (h2 : σ.2.1 ≤ σ'.2.1) : HP σ' b L xs x fq fwo fdr fpt fal fpa f2 g2 k2 st := by
  obtain ⟨hC, hs, hh, h0, h1, h2', h3, h4, h5, h6, h7, h8⟩ := h
  exact ⟨CI_keep (fun q _ _ => hk q (by omega)) hC, (hk _ (by omega)).trans hs, by omega, (hk _ (by omega)).trans h0, (hk _ (by omega)).trans h1, (hk _ (by omega)).trans h2', (hk _ (by omega)).trans h3, (hk _ (by omega)).trans h4, (hk _ (by omega)).trans h5, (hk _ (by omega)).trans h6, (hk _ (by omega)).trans h7, (hk _ (by omega)).trans h8⟩
theorem HP_C (h : HP σ b L xs x fq fwo fdr fpt fal fpa f2 g2 k2 st) : LwC σ x fq fwo fdr fpt fal fpa st := by
  obtain ⟨hC, hs, hh, h0, h1, h2', h3, h4, h5, h6, h7, h8⟩ := h
  exact ⟨hC.1, hC.2.1, h0, h1, h2', h3, h4, h5⟩
theorem HP_W (h : HP σ b L xs x fq fwo fdr fpt fal fpa f2 g2 k2 st) : WoC σ x fq fwo fdr fpt fal fpa st f2 g2 k2 := by
  have hL := HP_C h
  obtain ⟨hC, hs, hh, h0, h1, h2', h3, h4, h5, h6, h7, h8⟩ := h
  exact ⟨hL, hC.2.2.1, h6, h7, h8⟩
theorem HP_fo {f2' g2' k2' : Nat → Int32} (hb : b < x) (h : HP σ b L xs x fq fwo fdr fpt fal fpa f2 g2 k2 st) (hW : WoC σ' x fq fwo fdr fpt fal fpa st f2' g2' k2') (hF : FrW σ σ' x) : HP σ' b L xs x fq fwo fdr fpt fal fpa f2' g2' k2' st := by
  obtain ⟨hC, hs, hh, h0, h1, h2', h3, h4, h5, h6, h7, h8⟩ := h
  obtain ⟨c0, c1, c2, o, rc, hi, c3, c4⟩ := hC
  obtain ⟨⟨w0, w1, w2, w3, w4, w5, w6, w7⟩, w8, w9, w10, w11⟩ := hW
  exact ⟨⟨w0, w1, w8, o, rc, hi, HisR_keep (fun q _ _ => hF.1 q (by omega) (by omega)) c3, c4⟩, (hF.1 _ (by omega) (by omega)).trans hs, by rw [hF.2]; exact hh, w2, w3, w4, w5, w6, w7, w9, w10, w11⟩
end HP1
/-- what holds ahead of each turn -/
def LaE (σ : aS) (b L : Nat) (xs : Nat → Int32) (x : Nat) : Prop := ∃ fq fwo fdr fpt fal fpa f2 g2 k2 st c, HP σ b L xs x fq fwo fdr fpt fal fpa f2 g2 k2 st ∧ LwR fq fwo fdr fpt fal fpa st c ∧ mK st ∧ st 34 = nI c ∧ c ≤ 6
section TL
variable {d b L x : Nat} {xs : Nat → Int32} {Q : aQ} {σ : aS}
theorem l_tail1 (hb : b < x) {t : Nat} {xx : Int32} {l13 l14 l15 l16 l17 l18 l19 : Option Value} (hE : LaE σ b L xs x) (K : ∀ τ, LaE τ b L xs x → τ.2.1 ≤ σ.2.1 + 3 → τ.2.2 ≤ σ.2.2 + 19 → aX (d + 9) iL_law 126 [some (.ref b), some (.ref x), some (.ref (x + 423)), some (.ref (x + 424)), some (.ref (x + 425)), some (.ref (x + 426)), some (.ref (x + 427)), some (.ref (x + 428)), some (.ref (x + 429)), some (.ref (x + 430)), some (.ref (x + 431)), some (.int (nI (t + 1))), some (.int xx), l13, l14, l15, l16, l17, l18, l19] [] τ Q) : aX (d + 9) iL_law 993 [some (.ref b), some (.ref x), some (.ref (x + 423)), some (.ref (x + 424)), some (.ref (x + 425)), some (.ref (x + 426)), some (.ref (x + 427)), some (.ref (x + 428)), some (.ref (x + 429)), some (.ref (x + 430)), some (.ref (x + 431)), some (.int (nI t)), some (.int xx), l13, l14, l15, l16, l17, l18, l19] [] σ Q := by
  obtain ⟨fq, fwo, fdr, fpt, fal, fpa, f2, g2, k2, st, c, hP, hR, hK, hc, h6⟩ := hE
  simp (disch := omega) only [sL_law_993, sL_law_993n, sL_law_994, sL_law_994n, sL_law_995, sL_law_995n, sL_law_996, sL_law_996n, sL_law_998, sL_law_998n, sL_law_1000, sL_law_1000n, sL_law_1002, sL_law_1002n, sL_law_1004, aFld, aFds, aRow, aRowR, aRefs, aLn, if_true, List.getElem?_cons_zero, List.getElem?_cons_succ, List.set_cons_zero, List.set_cons_succ, List.length_cons, List.length_nil, Option.some.injEq, exists_eq_left', aput_same, aclr_none, aclr_int, aclr_ref, aclr_null, aret_some, aret_none, bz, bz0, bz1, true_and, and_true, vpT, nIc, nI_add, pk_mul, nI_sub', Nat.add_zero, Nat.zero_add, upd_same, upd_ne, if_false, not_true_eq_false, not_false_eq_true, ite_z, ite_o, eq_self, Bool.false_eq_true, nI_leT, nI_leF, nI_ltT, nI_ltF, nI_ne, and_self, false_and, and_false, nI_rem]
  refine l_same (HP_C hP) (by have := hP.2.2.1; omega) hR hK hc h6 (fun σ1 k1 k2' => ?_)
  have hP1 := HP_up hb hP k1 (by rw [k2']; exact Nat.le_add_right _ _)
  have rq := HP_r0 hP1
  have hq1 := hR.2.1
  have hI1 := aIsT hP1.1.1
  have e1 : σ1.2.1 = σ.2.1 + 3 := by rw [k2']
  have e2 : σ1.2.2 = σ.2.2 + 19 := by rw [k2']
  have hK1 := K σ1 ⟨fq, fwo, fdr, fpt, fal, fpa, f2, g2, k2, st, c, hP1, hR, hK, hc, h6⟩ (by omega) (by omega)
  by_cases g : c = 6
  · have g' : (nI 6 ≤ nI c) = True := nI_leT (by omega) (by omega)
    simp (disch := omega) only [sL_law_1007, sL_law_1010, sL_law_1010n, sL_law_1011, sL_law_1012, sL_law_1013, sL_law_1015, sL_law_1059, sL_law_1062, rq, hq1, g', aFld, aFds, aRow, aRowR, aRefs, aLn, if_true, List.getElem?_cons_zero, List.getElem?_cons_succ, List.set_cons_zero, List.set_cons_succ, List.length_cons, List.length_nil, Option.some.injEq, exists_eq_left', aput_same, aclr_none, aclr_int, aclr_ref, aclr_null, aret_some, aret_none, bz, bz0, bz1, true_and, and_true, vpT, nIc, nI_add, pk_mul, nI_sub', Nat.add_zero, Nat.zero_add, upd_same, upd_ne, if_false, not_true_eq_false, not_false_eq_true, ite_z, ite_o, eq_self, Bool.false_eq_true, nI_leT, nI_leF, nI_ltT, nI_ltF, nI_ne, and_self, false_and, and_false, nI_rem]
    exact hK1
  · have g' : (nI 6 ≤ nI c) = False := nI_leF (by omega) (by omega)
    by_cases g2 : nI (lwF (xx >>> (nI 13 &&& 31)) 3) = nI 0
    · simp (disch := omega) only [sL_law_1007, sL_law_1010, sL_law_1010n, sL_law_1011, sL_law_1012, sL_law_1013, sL_law_1015, sL_law_1018, sL_law_1020, sL_law_1022, sL_law_1023, sL_law_1024, sL_law_1027, sL_law_1030, sL_law_1030n, sL_law_1031, sL_law_1033, sL_law_1034, sL_law_1035, sL_law_1035n, sL_law_1036, sL_law_1036n, sL_law_1037, sL_law_1037n, sL_law_1039, sL_law_1039n, sL_law_1041, sL_law_1041n, sL_law_1043, sL_law_1043n, sL_law_1045, sL_law_1045n, sL_law_1047, sL_law_1047n, sL_law_1049, sL_law_1049n, sL_law_1051, rq, hq1, g', l_low, g2, aFld, aFds, aRow, aRowR, aRefs, aLn, if_true, List.getElem?_cons_zero, List.getElem?_cons_succ, List.set_cons_zero, List.set_cons_succ, List.length_cons, List.length_nil, Option.some.injEq, exists_eq_left', aput_same, aclr_none, aclr_int, aclr_ref, aclr_null, aret_some, aret_none, bz, bz0, bz1, true_and, and_true, vpT, nIc, nI_add, pk_mul, nI_sub', Nat.add_zero, Nat.zero_add, upd_same, upd_ne, if_false, not_true_eq_false, not_false_eq_true, ite_z, ite_o, eq_self, Bool.false_eq_true, nI_leT, nI_leF, nI_ltT, nI_ltF, nI_ne, and_self, false_and, and_false, nI_rem]
      refine l_would hR hK.1 hc h6 (HP_W hP1) (fun σ2 f3 g3 k3 W2 F2 => ?_)
      have hP2 := HP_fo hb hP1 W2 F2
      have hK2 := K σ2 ⟨fq, fwo, fdr, fpt, fal, fpa, f3, g3, k3, st, c, hP2, hR, hK, hc, h6⟩ (by rw [F2.2]; omega) (by rw [F2.2]; omega)
      simp (disch := omega) only [sL_law_1054, sL_law_1057, sL_law_1058, sL_law_1059, sL_law_1062, aFld, aFds, aRow, aRowR, aRefs, aLn, if_true, List.getElem?_cons_zero, List.getElem?_cons_succ, List.set_cons_zero, List.set_cons_succ, List.length_cons, List.length_nil, Option.some.injEq, exists_eq_left', aput_same, aclr_none, aclr_int, aclr_ref, aclr_null, aret_some, aret_none, bz, bz0, bz1, true_and, and_true, vpT, nIc, nI_add, pk_mul, nI_sub', Nat.add_zero, Nat.zero_add, upd_same, upd_ne, if_false, not_true_eq_false, not_false_eq_true, ite_z, ite_o, eq_self, Bool.false_eq_true, nI_leT, nI_leF, nI_ltT, nI_ltF, nI_ne, and_self, false_and, and_false, nI_rem]
      exact hK2
    · simp (disch := omega) only [sL_law_1007, sL_law_1010, sL_law_1010n, sL_law_1011, sL_law_1012, sL_law_1013, sL_law_1015, sL_law_1018, sL_law_1020, sL_law_1022, sL_law_1023, sL_law_1024, sL_law_1027, sL_law_1059, sL_law_1062, rq, hq1, g', l_low, g2, aFld, aFds, aRow, aRowR, aRefs, aLn, if_true, List.getElem?_cons_zero, List.getElem?_cons_succ, List.set_cons_zero, List.set_cons_succ, List.length_cons, List.length_nil, Option.some.injEq, exists_eq_left', aput_same, aclr_none, aclr_int, aclr_ref, aclr_null, aret_some, aret_none, bz, bz0, bz1, true_and, and_true, vpT, nIc, nI_add, pk_mul, nI_sub', Nat.add_zero, Nat.zero_add, upd_same, upd_ne, if_false, not_true_eq_false, not_false_eq_true, ite_z, ite_o, eq_self, Bool.false_eq_true, nI_leT, nI_leF, nI_ltT, nI_ltF, nI_ne, and_self, false_and, and_false, nI_rem]
      exact hK1
end TL
