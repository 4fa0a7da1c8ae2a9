/-! THE LAW: a turn: tell, begin -/
section KT
variable {d b L x t c s a : Nat} {xs : Nat → Int32} {Q : aQ} {σ : aS} {xx v13 v15 v16 : Int32} {l13 l14 l15 l16 l17 l18 l19 : Option Value} {fq fwo fdr fpt fal fpa f2 g2 k2 st : Nat → Int32}
/-- a told page in the rows, and in the state -/
theorem LwR_tell (hok : mOK st) (hc : st 34 = nI c) (h6 : c ≤ 6) (ha : a < c) {p : Int32} (hR : LwR fq fwo fdr fpt fal fpa st c) : LwR fq fwo fdr fpt (upd fal (4 * a + 3) p) fpa (upd st (35 + 28 * a + 3) p) c := by
  obtain ⟨r0, r1, r2, r3, r4, r5, r6⟩ := hR
  refine ⟨by rw [upd_ne (by omega)]; exact r0, r1, by rw [upd_ne (by omega)]; exact r2, fun w hw => by rw [upd_ne (by omega)]; exact r3 w hw, fun s hs => by rw [upd_ne (by omega)]; exact r4 s hs, fun s hs => by rw [upd_ne (by omega)]; exact r5 s hs, fun a' ha' => ?_⟩
  by_cases e : a' = a
  · subst e
    have eN : bN (bk (upd st (35 + 28 * a' + 3) p) a') = bN (bk st a') := by
      unfold bN bk
      rw [upd_ne (by omega)]
    refine ⟨fun i hi => ?_, fun k hk => ?_⟩
    · by_cases e : i = 3
      · subst e
        rw [upd_same]
        unfold bk
        rw [upd_same]
      · rw [upd_ne (by omega)]
        unfold bk
        rw [upd_ne (by omega)]
        exact (r6 a' ha').1 i hi
    · rw [eN] at hk
      have hbk : ∀ i, i ≠ 3 → bk (upd st (35 + 28 * a' + 3) p) a' i = bk st a' i := fun i hi => by
        unfold bk
        exact upd_ne (by omega)
      rw [(r6 a' ha').2 k hk, pE_cong (hbk _ (by omega)) (hbk _ (by omega)) (hbk _ (by omega))]
  · exact AlR_cong (mOK_b hok hc (by omega) ha') (fun i hi => upd_ne (by omega)) (fun i hi => upd_ne (by omega)) (fun i hi => rfl) (r6 a' ha')
theorem k_tell (hb : b < x) (hP : HP σ b L xs x fq fwo fdr fpt fal fpa f2 g2 k2 st) (hR : LwR fq fwo fdr fpt fal fpa st c) (hK : mK st) (hc : st 34 = nI c) (h6 : c ≤ 6) (ha : a < c) (K : ∀ τ l17 l18 l19, LaE τ b L xs x → τ.2 = σ.2 → aX (d + 9) iL_law 993 [some (.ref b), some (.ref x), some (.ref (x + 423)), some (.ref (x + 424)), some (.ref (x + 425)), some (.ref (x + 426)), some (.ref (x + 427)), some (.ref (x + 428)), some (.ref (x + 429)), some (.ref (x + 430)), some (.ref (x + 431)), some (.int (nI t)), some (.int xx), l13, l14, l15, some (.int (nI a)), l17, l18, l19] [] τ Q) : aX (d + 9) iL_law 557 [some (.ref b), some (.ref x), some (.ref (x + 423)), some (.ref (x + 424)), some (.ref (x + 425)), some (.ref (x + 426)), some (.ref (x + 427)), some (.ref (x + 428)), some (.ref (x + 429)), some (.ref (x + 430)), some (.ref (x + 431)), some (.int (nI t)), some (.int xx), l13, l14, l15, some (.int (nI a)), l17, l18, l19] [] σ Q := by
  have hok := hK.1
  have hI := aIsT hP.1.1
  have ral := HP_r4 hP
  have hA := hR.2.2.2.2.2.2 a ha
  obtain ⟨n, n1, n2, n3, -, hh, -, -, -, -, htl⟩ := mOK_b hok hc (by omega) ha
  have f1 : fal (4 * a + 1) = nI n := (hA.1 1 (by omega)).trans n1
  have f2' : fal (4 * a + 2) = st (35 + 28 * a + 2) := hA.1 2 (by omega)
  have f3 : fal (4 * a + 3) = st (35 + 28 * a + 3) := hA.1 3 (by omega)
  have hst1 : st (35 + 28 * a + 1) = nI n := n1
  have htl' : st (35 + 28 * a + 3) = -6 ∨ ∃ y, st (35 + 28 * a + 3) = nI y ∧ y < 4096 := by
    rcases htl with e | ⟨y, e, e2, -⟩
    · exact Or.inl e
    · exact Or.inr ⟨y, e, e2⟩
  have hneg6 : (nI 0 ≤ (-6 : Int32)) = False := eq_false (by decide)
  -- behind the page: what is told
  have main : ∀ p, inR (nI p) 0 (if n % 2 = 0 then 15 else 4095) → p < 4096 → aX (d + 9) iL_law 601 [some (.ref b), some (.ref x), some (.ref (x + 423)), some (.ref (x + 424)), some (.ref (x + 425)), some (.ref (x + 426)), some (.ref (x + 427)), some (.ref (x + 428)), some (.ref (x + 429)), some (.ref (x + 430)), some (.ref (x + 431)), some (.int (nI t)), some (.int xx), l13, l14, l15, some (.int (nI a)), some (.int (nI n)), some (.int (nI p)), l19] [] σ Q := by
    intro p hp hp2
    by_cases g : st (35 + 28 * a + 2) = nI 0
    · have hv : mWTell st a n (nI p) = nI 0 := by
        unfold mWTell
        rw [if_pos hp, if_pos g]
      simp (disch := omega) only [sL_law_601, sL_law_601n, sL_law_603, sL_law_604, sL_law_606, sL_law_607, sL_law_608, sL_law_609, sL_law_610, sL_law_613, sL_law_614, sL_law_617, sL_law_618, sL_law_620, sL_law_620n, sL_law_621, sL_law_623, sL_law_625, ral, f2', g, hI, aFld, aFds, aRow, aRowR, aRefs, aLn, if_true, List.getElem?_cons_zero, List.getElem?_cons_succ, List.set_cons_zero, List.set_cons_succ, List.length_cons, List.length_nil, Option.some.injEq, exists_eq_left', aput_same, aclr_none, aclr_int, aclr_ref, aclr_null, aret_some, aret_none, bz, bz0, bz1, true_and, and_true, vpT, nIc, nI_add, pk_mul, nI_sub', Nat.add_zero, Nat.zero_add, upd_same, upd_ne, if_false, not_true_eq_false, not_false_eq_true, ite_z, ite_o, eq_self, Bool.false_eq_true, nI_leT, nI_leF, nI_ltT, nI_ltF, nI_ne, and_self, false_and, and_false, nI_rem]
      refine c_tell hP.1 hok hc (by omega) ha hst1 (by omega) hv (fun σ2 hC2 k2' e2 => ?_)
      have hP2 := HP_cls hb hP hC2 k2' e2
      have ral2 := HP_r4 hP2
      have hP3 := HP_w4 (f := upd fal (4 * a + 3) (nI p)) hb hP2
      have hKK := K _ (some (.int (nI n))) (some (.int (nI p))) (some (.int (nI 1))) ⟨_, _, _, _, _, _, _, _, _, _, c, hP3, LwR_tell hok hc h6 ha hR, mTells_K hK hc (by omega) ha hst1 (by omega) hv, by rw [upd_ne (by omega)]; exact hc, h6⟩ e2
      rcases htl' with e | ⟨y, e, hy⟩
      · simp (disch := omega) only [sL_law_628, sL_law_630, sL_law_633, sL_law_635, sL_law_638, sL_law_638n, sL_law_640, sL_law_641, sL_law_643, sL_law_644, sL_law_645, sL_law_646, sL_law_647, sL_law_650, sL_law_651, sL_law_654, sL_law_655, sL_law_658, sL_law_659, sL_law_660, sL_law_660n, sL_law_662, sL_law_663, sL_law_665, sL_law_666, sL_law_667, sL_law_668, sL_law_670, sL_law_673, sL_law_675, sL_law_678, sL_law_678n, sL_law_680, sL_law_681, sL_law_683, sL_law_684, sL_law_685, sL_law_686, sL_law_687, sL_law_688, ral2, f3, e, hneg6, aFld, aFds, aRow, aRowR, aRefs, aLn, if_true, List.getElem?_cons_zero, List.getElem?_cons_succ, List.set_cons_zero, List.set_cons_succ, List.length_cons, List.length_nil, Option.some.injEq, exists_eq_left', aput_same, aclr_none, aclr_int, aclr_ref, aclr_null, aret_some, aret_none, bz, bz0, bz1, true_and, and_true, vpT, nIc, nI_add, pk_mul, nI_sub', Nat.add_zero, Nat.zero_add, upd_same, upd_ne, if_false, not_true_eq_false, not_false_eq_true, ite_z, ite_o, eq_self, Bool.false_eq_true, nI_leT, nI_leF, nI_ltT, nI_ltF, nI_ne, and_self, false_and, and_false, nI_rem]
        exact hKK
      · have hy6 : (nI y = -6) = False := nI_neg6 (by omega)
        simp (disch := omega) only [sL_law_628, sL_law_630, sL_law_633, sL_law_635, sL_law_638, sL_law_638n, sL_law_640, sL_law_641, sL_law_643, sL_law_644, sL_law_645, sL_law_646, sL_law_647, sL_law_650, sL_law_651, sL_law_654, sL_law_655, sL_law_658, sL_law_659, sL_law_660, sL_law_660n, sL_law_662, sL_law_663, sL_law_665, sL_law_666, sL_law_667, sL_law_668, sL_law_670, sL_law_673, sL_law_675, sL_law_678, sL_law_678n, sL_law_680, sL_law_681, sL_law_683, sL_law_684, sL_law_685, sL_law_686, sL_law_687, sL_law_688, ral2, f3, e, hy6, aFld, aFds, aRow, aRowR, aRefs, aLn, if_true, List.getElem?_cons_zero, List.getElem?_cons_succ, List.set_cons_zero, List.set_cons_succ, List.length_cons, List.length_nil, Option.some.injEq, exists_eq_left', aput_same, aclr_none, aclr_int, aclr_ref, aclr_null, aret_some, aret_none, bz, bz0, bz1, true_and, and_true, vpT, nIc, nI_add, pk_mul, nI_sub', Nat.add_zero, Nat.zero_add, upd_same, upd_ne, if_false, not_true_eq_false, not_false_eq_true, ite_z, ite_o, eq_self, Bool.false_eq_true, nI_leT, nI_leF, nI_ltT, nI_ltF, nI_ne, and_self, false_and, and_false, nI_rem]
        exact hKK
    · have hv : mWTell st a n (nI p) = -5 := by
        unfold mWTell
        rw [if_pos hp, if_neg g]
      simp (disch := omega) only [sL_law_601, sL_law_601n, sL_law_603, sL_law_604, sL_law_606, sL_law_607, sL_law_608, sL_law_609, sL_law_610, sL_law_613, sL_law_614, sL_law_617, sL_law_618, sL_law_620, sL_law_620n, sL_law_621, sL_law_623, sL_law_625, ral, f2', g, hI, aFld, aFds, aRow, aRowR, aRefs, aLn, if_true, List.getElem?_cons_zero, List.getElem?_cons_succ, List.set_cons_zero, List.set_cons_succ, List.length_cons, List.length_nil, Option.some.injEq, exists_eq_left', aput_same, aclr_none, aclr_int, aclr_ref, aclr_null, aret_some, aret_none, bz, bz0, bz1, true_and, and_true, vpT, nIc, nI_add, pk_mul, nI_sub', Nat.add_zero, Nat.zero_add, upd_same, upd_ne, if_false, not_true_eq_false, not_false_eq_true, ite_z, ite_o, eq_self, Bool.false_eq_true, nI_leT, nI_leF, nI_ltT, nI_ltF, nI_ne, and_self, false_and, and_false, nI_rem]
      refine c_tellE hP.1 hok hc (by omega) ha hst1 (by omega) hv (fun σ2 hC2 k2' e2 => ?_)
      have hP2 := HP_cls hb hP hC2 k2' e2
      have ral2 := HP_r4 hP2
      have eU : upd fal (4 * a + 3) (st (35 + 28 * a + 3)) = fal := by
        funext j
        by_cases e : j = 4 * a + 3
        · subst e; rw [upd_same, f3]
        · exact upd_ne e
      have hP3 := HP_w4 (f := upd fal (4 * a + 3) (st (35 + 28 * a + 3))) hb hP2
      have hKK := K _ (some (.int (nI n))) (some (.int (nI p))) (some (.int (nI 0))) ⟨_, _, _, _, _, _, _, _, _, _, c, hP3, by rw [eU]; exact hR, hK, hc, h6⟩ e2
      simp (disch := omega) only [sL_law_628, sL_law_630, sL_law_633, sL_law_635, sL_law_638, sL_law_638n, sL_law_640, sL_law_641, sL_law_643, sL_law_644, sL_law_645, sL_law_646, sL_law_647, sL_law_650, sL_law_651, sL_law_654, sL_law_655, sL_law_658, sL_law_659, sL_law_660, sL_law_660n, sL_law_662, sL_law_663, sL_law_665, sL_law_666, sL_law_667, sL_law_668, sL_law_670, sL_law_673, sL_law_675, sL_law_678, sL_law_678n, sL_law_680, sL_law_681, sL_law_683, sL_law_684, sL_law_685, sL_law_686, sL_law_687, sL_law_688, ral2, f3, aFld, aFds, aRow, aRowR, aRefs, aLn, if_true, List.getElem?_cons_zero, List.getElem?_cons_succ, List.set_cons_zero, List.set_cons_succ, List.length_cons, List.length_nil, Option.some.injEq, exists_eq_left', aput_same, aclr_none, aclr_int, aclr_ref, aclr_null, aret_some, aret_none, bz, bz0, bz1, true_and, and_true, vpT, nIc, nI_add, pk_mul, nI_sub', Nat.add_zero, Nat.zero_add, upd_same, upd_ne, if_false, not_true_eq_false, not_false_eq_true, ite_z, ite_o, eq_self, Bool.false_eq_true, nI_leT, nI_leF, nI_ltT, nI_ltF, nI_ne, and_self, false_and, and_false, nI_rem]
      exact hKK
  rcases Nat.mod_two_eq_zero_or_one n with e | e
  · have hv := lwF_lt (xx >>> (nI 9 &&& 31)) (show 0 < 16 by decide)
    have hM := main (lwF (xx >>> (nI 9 &&& 31)) 16) (by rw [if_pos e]; exact of_eq_true (inR_T (by omega) (by decide))) (by omega)
    simp (disch := omega) only [sL_law_557, sL_law_557n, sL_law_559, sL_law_560, sL_law_562, sL_law_563, sL_law_564, sL_law_565, sL_law_566, sL_law_568, sL_law_570, sL_law_571, sL_law_572, sL_law_575, sL_law_577, sL_law_579, sL_law_580, sL_law_582, sL_law_585, sL_law_588, sL_law_590, sL_law_592, sL_law_593, sL_law_596, sL_law_599, ral, f1, l_low, e, aFld, aFds, aRow, aRowR, aRefs, aLn, if_true, List.getElem?_cons_zero, List.getElem?_cons_succ, List.set_cons_zero, List.set_cons_succ, List.length_cons, List.length_nil, Option.some.injEq, exists_eq_left', aput_same, aclr_none, aclr_int, aclr_ref, aclr_null, aret_some, aret_none, bz, bz0, bz1, true_and, and_true, vpT, nIc, nI_add, pk_mul, nI_sub', Nat.add_zero, Nat.zero_add, upd_same, upd_ne, if_false, not_true_eq_false, not_false_eq_true, ite_z, ite_o, eq_self, Bool.false_eq_true, nI_leT, nI_leF, nI_ltT, nI_ltF, nI_ne, and_self, false_and, and_false, nI_rem]
    exact hM
  · have hv := lwF_lt (xx >>> (nI 9 &&& 31)) (show 0 < 4096 by decide)
    have hM := main (lwF (xx >>> (nI 9 &&& 31)) 4096) (by rw [if_neg (by omega)]; exact of_eq_true (inR_T (by omega) (by decide))) (by omega)
    simp (disch := omega) only [sL_law_557, sL_law_557n, sL_law_559, sL_law_560, sL_law_562, sL_law_563, sL_law_564, sL_law_565, sL_law_566, sL_law_568, sL_law_570, sL_law_571, sL_law_572, sL_law_575, sL_law_577, sL_law_579, sL_law_580, sL_law_582, sL_law_585, sL_law_588, sL_law_590, sL_law_592, sL_law_593, sL_law_596, sL_law_599, ral, f1, l_low, e, aFld, aFds, aRow, aRowR, aRefs, aLn, if_true, List.getElem?_cons_zero, List.getElem?_cons_succ, List.set_cons_zero, List.set_cons_succ, List.length_cons, List.length_nil, Option.some.injEq, exists_eq_left', aput_same, aclr_none, aclr_int, aclr_ref, aclr_null, aret_some, aret_none, bz, bz0, bz1, true_and, and_true, vpT, nIc, nI_add, pk_mul, nI_sub', Nat.add_zero, Nat.zero_add, upd_same, upd_ne, if_false, not_true_eq_false, not_false_eq_true, ite_z, ite_o, eq_self, Bool.false_eq_true, nI_leT, nI_leF, nI_ltT, nI_ltF, nI_ne, and_self, false_and, and_false, nI_rem]
    exact hM
/-- whether the seat can begin an album: the law looks at the albums one by one -/
theorem k_can {v17 : Int32} (hP : HP σ b L xs x fq fwo fdr fpt fal fpa f2 g2 k2 st) (hR : LwR fq fwo fdr fpt fal fpa st c) (hok : mOK st) (hc : st 34 = nI c) (h6 : c ≤ 6) (hs : s < 8) : ∀ (k i : Nat) (P : Prop) [Decidable P], i + k = c → (P ↔ bt (st 16) s = true ∧ mAlbOf st (nI s) i = -6) → aX (d + 9) iL_law 448 [some (.ref b), some (.ref x), some (.ref (x + 423)), some (.ref (x + 424)), some (.ref (x + 425)), some (.ref (x + 426)), some (.ref (x + 427)), some (.ref (x + 428)), some (.ref (x + 429)), some (.ref (x + 430)), some (.ref (x + 431)), some (.int (nI t)), some (.int xx), l13, some (.int (nI s)), l15, l16, some (.int v17), some (.int (if bt (st 16) s = true ∧ mAlbOf st (nI s) c = -6 then nI 1 else nI 0)), some (.int (nI c))] [] σ Q → aX (d + 9) iL_law 398 [some (.ref b), some (.ref x), some (.ref (x + 423)), some (.ref (x + 424)), some (.ref (x + 425)), some (.ref (x + 426)), some (.ref (x + 427)), some (.ref (x + 428)), some (.ref (x + 429)), some (.ref (x + 430)), some (.ref (x + 431)), some (.int (nI t)), some (.int xx), l13, some (.int (nI s)), l15, l16, some (.int v17), some (.int (if P then nI 1 else nI 0)), some (.int (nI i))] [] σ Q := by
  intro k
  induction k with
  | zero =>
    intro i P _ hi hp K
    have e : i = c := by omega
    subst e
    have rq := HP_r0 hP
    have hq1 := hR.2.1
    rw [sL_law_398]
    simp (disch := omega) only [sL_law_400, sL_law_400n, sL_law_401, sL_law_402, sL_law_403, rq, hq1, aFld, aFds, aRow, aRowR, aRefs, aLn, if_true, List.getElem?_cons_zero, List.getElem?_cons_succ, List.set_cons_zero, List.set_cons_succ, List.length_cons, List.length_nil, Option.some.injEq, exists_eq_left', aput_same, aclr_none, aclr_int, aclr_ref, aclr_null, aret_some, aret_none, bz, bz0, bz1, true_and, and_true, vpT, nIc, nI_add, pk_mul, nI_sub', Nat.add_zero, Nat.zero_add, upd_same, upd_ne, if_false, not_true_eq_false, not_false_eq_true, ite_z, ite_o, eq_self, Bool.false_eq_true, nI_leT, nI_leF, nI_ltT, nI_ltF, nI_ne, and_self, false_and, and_false, nI_rem]
    by_cases g : P
    · rw [if_pos g]
      rw [if_pos (hp.mp g)] at K
      exact K
    · rw [if_neg g]
      rw [if_neg (fun z => g (hp.mpr z))] at K
      exact K
  | succ k ih =>
    intro i P _ hi hp K
    have rq := HP_r0 hP
    have hq1 := hR.2.1
    have ral := HP_r4 hP
    have hA := hR.2.2.2.2.2.2 i (by omega)
    obtain ⟨n, n1, n2, n3, ⟨o, o1, o2⟩, hh, -⟩ := mOK_b hok hc (by omega) (show i < c by omega)
    have f0 : fal (4 * i) = nI o := (hA.1 0 (by omega)).trans o1
    have f2' : fal (4 * i + 2) = st (35 + 28 * i + 2) := hA.1 2 (by omega)
    have o1' : st (35 + 28 * i + 0) = nI o := o1
    have hos : (nI o = nI s) = (o = s) := nI_eqL (by omega) (by omega)
    have hmT : o = s → st (35 + 28 * i + 2) = nI 0 → mAlbOf st (nI s) (i + 1) = nI i := fun e g => by rw [mAlbOf, o1', if_pos ⟨by rw [e], g⟩]
    have hmF : ¬ (o = s ∧ st (35 + 28 * i + 2) = nI 0) → mAlbOf st (nI s) (i + 1) = mAlbOf st (nI s) i := fun h => by rw [mAlbOf, o1', if_neg (fun z => h ⟨nI_inj (by omega) (by omega) z.1, z.2⟩)]
    have hn6 : ¬ nI i = -6 := by rw [nI_neg6 (by omega)]; exact id
    rw [sL_law_398]
    by_cases g : P
    · have gp := hp.mp g
      by_cases g1 : o = s
      · by_cases g2 : st (35 + 28 * i + 2) = nI 0
        · have ih2 := ih (i + 1) False (by omega) ⟨fun z => z.elim, fun z => by rw [hmT g1 g2] at z; exact hn6 z.2⟩ K
          rw [if_neg id] at ih2
          simp (disch := omega) only [sL_law_400, sL_law_400n, sL_law_401, sL_law_402, sL_law_403, sL_law_406, sL_law_408, sL_law_411, sL_law_411n, sL_law_413, sL_law_414, sL_law_416, sL_law_417, sL_law_418, sL_law_420, sL_law_423, sL_law_423n, sL_law_425, sL_law_426, sL_law_428, sL_law_429, sL_law_430, sL_law_431, sL_law_432, sL_law_435, sL_law_436, sL_law_439, sL_law_440, sL_law_442, sL_law_445, rq, hq1, ral, f0, f2', hos, g, g1, g2, aFld, aFds, aRow, aRowR, aRefs, aLn, if_true, List.getElem?_cons_zero, List.getElem?_cons_succ, List.set_cons_zero, List.set_cons_succ, List.length_cons, List.length_nil, Option.some.injEq, exists_eq_left', aput_same, aclr_none, aclr_int, aclr_ref, aclr_null, aret_some, aret_none, bz, bz0, bz1, true_and, and_true, vpT, nIc, nI_add, pk_mul, nI_sub', Nat.add_zero, Nat.zero_add, upd_same, upd_ne, if_false, not_true_eq_false, not_false_eq_true, ite_z, ite_o, eq_self, Bool.false_eq_true, nI_leT, nI_leF, nI_ltT, nI_ltF, nI_ne, and_self, false_and, and_false, nI_rem]
          exact ih2
        · have ih2 := ih (i + 1) True (by omega) ⟨fun _ => ⟨gp.1, by rw [hmF (fun z => g2 z.2)]; exact gp.2⟩, fun _ => trivial⟩ K
          rw [if_pos trivial] at ih2
          simp (disch := omega) only [sL_law_400, sL_law_400n, sL_law_401, sL_law_402, sL_law_403, sL_law_406, sL_law_408, sL_law_411, sL_law_411n, sL_law_413, sL_law_414, sL_law_416, sL_law_417, sL_law_418, sL_law_420, sL_law_423, sL_law_423n, sL_law_425, sL_law_426, sL_law_428, sL_law_429, sL_law_430, sL_law_431, sL_law_432, sL_law_435, sL_law_436, sL_law_439, sL_law_440, sL_law_442, sL_law_445, rq, hq1, ral, f0, f2', hos, g, g1, g2, aFld, aFds, aRow, aRowR, aRefs, aLn, if_true, List.getElem?_cons_zero, List.getElem?_cons_succ, List.set_cons_zero, List.set_cons_succ, List.length_cons, List.length_nil, Option.some.injEq, exists_eq_left', aput_same, aclr_none, aclr_int, aclr_ref, aclr_null, aret_some, aret_none, bz, bz0, bz1, true_and, and_true, vpT, nIc, nI_add, pk_mul, nI_sub', Nat.add_zero, Nat.zero_add, upd_same, upd_ne, if_false, not_true_eq_false, not_false_eq_true, ite_z, ite_o, eq_self, Bool.false_eq_true, nI_leT, nI_leF, nI_ltT, nI_ltF, nI_ne, and_self, false_and, and_false, nI_rem]
          exact ih2
      · have ih2 := ih (i + 1) True (by omega) ⟨fun _ => ⟨gp.1, by rw [hmF (fun z => g1 z.1)]; exact gp.2⟩, fun _ => trivial⟩ K
        rw [if_pos trivial] at ih2
        simp (disch := omega) only [sL_law_400, sL_law_400n, sL_law_401, sL_law_402, sL_law_403, sL_law_406, sL_law_408, sL_law_411, sL_law_411n, sL_law_413, sL_law_414, sL_law_416, sL_law_417, sL_law_418, sL_law_420, sL_law_423, sL_law_423n, sL_law_425, sL_law_426, sL_law_428, sL_law_429, sL_law_430, sL_law_431, sL_law_432, sL_law_435, sL_law_436, sL_law_439, sL_law_440, sL_law_442, sL_law_445, rq, hq1, ral, f0, f2', hos, g, g1, aFld, aFds, aRow, aRowR, aRefs, aLn, if_true, List.getElem?_cons_zero, List.getElem?_cons_succ, List.set_cons_zero, List.set_cons_succ, List.length_cons, List.length_nil, Option.some.injEq, exists_eq_left', aput_same, aclr_none, aclr_int, aclr_ref, aclr_null, aret_some, aret_none, bz, bz0, bz1, true_and, and_true, vpT, nIc, nI_add, pk_mul, nI_sub', Nat.add_zero, Nat.zero_add, upd_same, upd_ne, if_false, not_true_eq_false, not_false_eq_true, ite_z, ite_o, eq_self, Bool.false_eq_true, nI_leT, nI_leF, nI_ltT, nI_ltF, nI_ne, and_self, false_and, and_false, nI_rem]
        exact ih2
    · have ih2 := ih (i + 1) False (by omega) ⟨fun z => z.elim, fun z => g (hp.mpr ⟨z.1, by
        by_cases q : o = s ∧ st (35 + 28 * i + 2) = nI 0
        · rw [hmT q.1 q.2] at z; exact absurd z.2 hn6
        · rw [hmF q] at z; exact z.2⟩)⟩ K
      rw [if_neg id] at ih2
      simp (disch := omega) only [sL_law_400, sL_law_400n, sL_law_401, sL_law_402, sL_law_403, sL_law_406, sL_law_408, sL_law_411, sL_law_411n, sL_law_413, sL_law_414, sL_law_416, sL_law_417, sL_law_418, sL_law_420, sL_law_423, sL_law_423n, sL_law_425, sL_law_426, sL_law_428, sL_law_429, sL_law_430, sL_law_431, sL_law_432, sL_law_435, sL_law_436, sL_law_439, sL_law_440, sL_law_442, sL_law_445, rq, hq1, g, aFld, aFds, aRow, aRowR, aRefs, aLn, if_true, List.getElem?_cons_zero, List.getElem?_cons_succ, List.set_cons_zero, List.set_cons_succ, List.length_cons, List.length_nil, Option.some.injEq, exists_eq_left', aput_same, aclr_none, aclr_int, aclr_ref, aclr_null, aret_some, aret_none, bz, bz0, bz1, true_and, and_true, vpT, nIc, nI_add, pk_mul, nI_sub', Nat.add_zero, Nat.zero_add, upd_same, upd_ne, if_false, not_true_eq_false, not_false_eq_true, ite_z, ite_o, eq_self, Bool.false_eq_true, nI_leT, nI_leF, nI_ltT, nI_ltF, nI_ne, and_self, false_and, and_false, nI_rem]
      exact ih2
end KT
