/-! THE LAW: its own round of an album -/
section LN
variable {d q wo dr pt al pa a t : Nat} {σ : aS} {Q : aQ} {fal fpa fq st b : Nat → Int32}
theorem l_next_loop (hq : σ.1 q = some (eI 3 fq)) (hq0 : fq 0 = st 16) (hal : σ.1 al = some (eI 24 fal)) (hpa : σ.1 pa = some (eI 48 fpa)) (ha : a < 6) (hb : bOK b) (hR : AlR fal fpa a b) (hl : b (4 + 3 * (bN b - 1)) = nI t) (ht : t < 8) (l7 : Option Value) : ∀ (j k : Nat) (l11 : Option Value), k + j = 9 → 1 ≤ k → (∀ l10 l11, aX (d + 2) iL_round 106 [some (.int (nI a)), some (.ref q), some (.ref wo), some (.ref dr), some (.ref pt), some (.ref al), some (.ref pa), l7, some (.int (nI (pE b (bN b - 1)))), some (.int (if mNx st (bSe b (bN b)) t j = -6 then -1 else mNx st (bSe b (bN b)) t j)), l10, l11] [] σ Q) → aX (d + 2) iL_round 42 [some (.int (nI a)), some (.ref q), some (.ref wo), some (.ref dr), some (.ref pt), some (.ref al), some (.ref pa), l7, some (.int (nI (pE b (bN b - 1)))), some (.int (-1)), some (.int (nI k)), l11] [] σ Q
  | 0, k, l11, h, h1, K => by
    have e : k = 9 := by omega
    subst e
    have hK := K (some (.int (nI 9))) l11
    rw [show mNx st (bSe b (bN b)) t 0 = -6 from rfl, if_pos rfl] at hK
    rw [sL_round_42]
    simp (disch := omega) only [sL_round_44, sL_round_46, aFld, aFds, aRow, aRowR, aRefs, aLn, if_true, List.getElem?_cons_zero, List.getElem?_cons_succ, List.set_cons_zero, List.set_cons_succ, List.length_cons, List.length_nil, Option.some.injEq, exists_eq_left', aput_same, aclr_none, aclr_int, aclr_ref, aclr_null, aret_some, aret_none, bz, bz0, bz1, true_and, and_true, vpT, nIc, nI_add, pk_mul, nI_sub', Nat.add_zero, Nat.zero_add, upd_same, upd_ne, if_false, not_true_eq_false, not_false_eq_true, ite_z, ite_o, eq_self, Bool.false_eq_true, nI_leT, nI_leF, nI_ltT, nI_ltF, nI_ne, and_self, false_and, and_false, nI_rem]
    exact hK
  | j + 1, k, l11, h, h1, K => by
    obtain ⟨n, n1, n2, n3, -⟩ := id hb
    have eN := bOK_N n1 n3
    have hlt := pE_lt hb (show bN b - 1 < bN b by omega)
    have hse := pE_seat hb (show bN b - 1 < bN b by omega)
    rw [hl] at hse
    have hneg : (nI 0 ≤ (-1 : Int32)) = False := eq_false (by decide)
    have hs8 : (t + k) % 8 < 8 := Nat.mod_lt _ (by decide)
    have hhas := fun (Q : aQ) => l_has (d := d) (Q := Q) hal hpa ha hb hR hs8
    have e8 : 8 - j = k := by omega
    have hcond : ∀ x : Int32, mTk st x = true ↔ st 16 >>> (x &&& 31) &&& nI 1 = nI 1 := fun x => by unfold mTk; rw [decide_eq_true_eq]
    rw [sL_round_42]
    by_cases g1 : st 16 >>> (nI ((t + k) % 8) &&& 31) &&& nI 1 = nI 1
    · by_cases g2 : bt (bSe b (bN b)) ((t + k) % 8) = true
      · have eY : mNx st (bSe b (bN b)) t (j + 1) = mNx st (bSe b (bN b)) t j := by
          rw [mNx, e8, if_neg (fun z => by
            have := z.2
            rw [b_shr1_0 _ (by omega), g2] at this
            cases this)]
        rw [eY] at K
        have ih := l_next_loop hq hq0 hal hpa ha hb hR hl ht l7 j (k + 1) (some (.int (nI ((t + k) % 8)))) (by omega) (by omega) K
        simp (disch := omega) only [sL_round_44, sL_round_46, sL_round_49, sL_round_51, sL_round_54, sL_round_56, sL_round_59, sL_round_61, sL_round_62, sL_round_64, sL_round_65, sL_round_67, sL_round_67n, sL_round_68, sL_round_69, sL_round_70, sL_round_72, sL_round_73, sL_round_74, sL_round_75, sL_round_76, sL_round_79, sL_round_80, sL_round_82, sL_round_82n, sL_round_84, sL_round_84n, sL_round_86, sL_round_89, sL_round_92, sL_round_94, sL_round_97, sL_round_98, sL_round_100, sL_round_103, hq, hq0, l_seat, hse, hneg, hhas, g1, g2, aFld, aFds, aRow, aRowR, aRefs, aLn, if_true, List.getElem?_cons_zero, List.getElem?_cons_succ, List.set_cons_zero, List.set_cons_succ, List.length_cons, List.length_nil, Option.some.injEq, exists_eq_left', aput_same, aclr_none, aclr_int, aclr_ref, aclr_null, aret_some, aret_none, bz, bz0, bz1, true_and, and_true, vpT, nIc, nI_add, pk_mul, nI_sub', Nat.add_zero, Nat.zero_add, upd_same, upd_ne, if_false, not_true_eq_false, not_false_eq_true, ite_z, ite_o, eq_self, Bool.false_eq_true, nI_leT, nI_leF, nI_ltT, nI_ltF, nI_ne, and_self, false_and, and_false, nI_rem]
        exact ih
      · have eY : mNx st (bSe b (bN b)) t (j + 1) = nI ((t + k) % 8) := by
          rw [mNx, e8, if_pos ⟨(hcond _).mpr g1, by rw [b_shr1_0 _ (by omega)]; exact Bool.eq_false_iff.mpr g2⟩]
        have hK := K (some (.int (nI (k + 1)))) (some (.int (nI ((t + k) % 8))))
        rw [eY, if_neg (by rw [nI_neg6 (by omega)]; exact id)] at hK
        simp (disch := omega) only [sL_round_44, sL_round_46, sL_round_49, sL_round_51, sL_round_54, sL_round_56, sL_round_59, sL_round_61, sL_round_62, sL_round_64, sL_round_65, sL_round_67, sL_round_67n, sL_round_68, sL_round_69, sL_round_70, sL_round_72, sL_round_73, sL_round_74, sL_round_75, sL_round_76, sL_round_79, sL_round_80, sL_round_82, sL_round_82n, sL_round_84, sL_round_84n, sL_round_86, sL_round_89, sL_round_92, sL_round_94, sL_round_97, sL_round_98, sL_round_100, sL_round_103, hq, hq0, l_seat, hse, hneg, hhas, g1, g2, aFld, aFds, aRow, aRowR, aRefs, aLn, if_true, List.getElem?_cons_zero, List.getElem?_cons_succ, List.set_cons_zero, List.set_cons_succ, List.length_cons, List.length_nil, Option.some.injEq, exists_eq_left', aput_same, aclr_none, aclr_int, aclr_ref, aclr_null, aret_some, aret_none, bz, bz0, bz1, true_and, and_true, vpT, nIc, nI_add, pk_mul, nI_sub', Nat.add_zero, Nat.zero_add, upd_same, upd_ne, if_false, not_true_eq_false, not_false_eq_true, ite_z, ite_o, eq_self, Bool.false_eq_true, nI_leT, nI_leF, nI_ltT, nI_ltF, nI_ne, and_self, false_and, and_false, nI_rem]
        rw [sL_round_42]
        by_cases g9 : k + 1 = 9
        · have e9 : nI (k + 1) = nI 9 := by rw [g9]
          rw [e9] at hK ⊢
          simp (disch := omega) only [sL_round_44, sL_round_46, sL_round_49, sL_round_51, aFld, aFds, aRow, aRowR, aRefs, aLn, if_true, List.getElem?_cons_zero, List.getElem?_cons_succ, List.set_cons_zero, List.set_cons_succ, List.length_cons, List.length_nil, Option.some.injEq, exists_eq_left', aput_same, aclr_none, aclr_int, aclr_ref, aclr_null, aret_some, aret_none, bz, bz0, bz1, true_and, and_true, vpT, nIc, nI_add, pk_mul, nI_sub', Nat.add_zero, Nat.zero_add, upd_same, upd_ne, if_false, not_true_eq_false, not_false_eq_true, ite_z, ite_o, eq_self, Bool.false_eq_true, nI_leT, nI_leF, nI_ltT, nI_ltF, nI_ne, and_self, false_and, and_false, nI_rem]
          exact hK
        · simp (disch := omega) only [sL_round_44, sL_round_46, sL_round_49, sL_round_51, aFld, aFds, aRow, aRowR, aRefs, aLn, if_true, List.getElem?_cons_zero, List.getElem?_cons_succ, List.set_cons_zero, List.set_cons_succ, List.length_cons, List.length_nil, Option.some.injEq, exists_eq_left', aput_same, aclr_none, aclr_int, aclr_ref, aclr_null, aret_some, aret_none, bz, bz0, bz1, true_and, and_true, vpT, nIc, nI_add, pk_mul, nI_sub', Nat.add_zero, Nat.zero_add, upd_same, upd_ne, if_false, not_true_eq_false, not_false_eq_true, ite_z, ite_o, eq_self, Bool.false_eq_true, nI_leT, nI_leF, nI_ltT, nI_ltF, nI_ne, and_self, false_and, and_false, nI_rem]
          exact hK
    · have eY : mNx st (bSe b (bN b)) t (j + 1) = mNx st (bSe b (bN b)) t j := by
        rw [mNx, e8, if_neg (fun z => g1 ((hcond _).mp z.1))]
      rw [eY] at K
      have ih := l_next_loop hq hq0 hal hpa ha hb hR hl ht l7 j (k + 1) (some (.int (nI ((t + k) % 8)))) (by omega) (by omega) K
      simp (disch := omega) only [sL_round_44, sL_round_46, sL_round_49, sL_round_51, sL_round_54, sL_round_56, sL_round_59, sL_round_61, sL_round_62, sL_round_64, sL_round_65, sL_round_67, sL_round_67n, sL_round_68, sL_round_69, sL_round_70, sL_round_72, sL_round_73, sL_round_74, sL_round_75, sL_round_76, sL_round_79, sL_round_80, sL_round_82, sL_round_82n, sL_round_84, sL_round_84n, sL_round_86, sL_round_89, sL_round_92, sL_round_94, sL_round_97, sL_round_98, sL_round_100, sL_round_103, hq, hq0, l_seat, hse, hneg, g1, aFld, aFds, aRow, aRowR, aRefs, aLn, if_true, List.getElem?_cons_zero, List.getElem?_cons_succ, List.set_cons_zero, List.set_cons_succ, List.length_cons, List.length_nil, Option.some.injEq, exists_eq_left', aput_same, aclr_none, aclr_int, aclr_ref, aclr_null, aret_some, aret_none, bz, bz0, bz1, true_and, and_true, vpT, nIc, nI_add, pk_mul, nI_sub', Nat.add_zero, Nat.zero_add, upd_same, upd_ne, if_false, not_true_eq_false, not_false_eq_true, ite_z, ite_o, eq_self, Bool.false_eq_true, nI_leT, nI_leF, nI_ltT, nI_ltF, nI_ne, and_self, false_and, and_false, nI_rem]
      exact ih
end LN
/-- a page put into the law's rows -/
theorem AlR_go {fal fpa b : Nat → Int32} {a s v tt P : Nat} (hb : bOK b) (hR : AlR fal fpa a b) (h7 : bN b ≤ 7) (hs : s < 8) (hv : v < 4096) (ht : tt ≤ 1) (hP : P = 10000 * s + 5000 * tt + v) : AlR (upd (upd fal (4 * a + 1) (nI (bN b + 1))) (4 * a + 3) (-6)) (upd fpa (8 * a + bN b) (nI P)) a (bGo b s (nI v) (nI tt)) := by
  have u1 : bGo b s (nI v) (nI tt) 1 = nI (bN b + 1) := by unfold bGo; rw [upd_ne (by omega), upd_same]
  have u3 : bGo b s (nI v) (nI tt) 3 = -6 := by unfold bGo; rw [upd_same]
  have us : bGo b s (nI v) (nI tt) (4 + 3 * bN b) = nI s := by unfold bGo; rw [upd_ne (by omega), upd_ne (by omega), upd_ne (by omega), upd_ne (by omega), upd_same]
  have uw : bGo b s (nI v) (nI tt) (4 + 3 * bN b + 1) = nI v := by unfold bGo; rw [upd_ne (by omega), upd_ne (by omega), upd_ne (by omega), upd_same]
  have uf : bGo b s (nI v) (nI tt) (4 + 3 * bN b + 2) = nI tt := by unfold bGo; rw [upd_ne (by omega), upd_ne (by omega), upd_same]
  have u : ∀ k, k ≠ 1 → k ≠ 3 → k < 4 + 3 * bN b → bGo b s (nI v) (nI tt) k = b k := fun k a1 a2 a3 => by unfold bGo; rw [upd_ne (by omega), upd_ne (by omega), upd_ne (by omega), upd_ne (by omega), upd_ne (by omega)]
  have eN : bN (bGo b s (nI v) (nI tt)) = bN b + 1 := by unfold bN at u1 ⊢; rw [u1]; exact nIc (by unfold bN at h7; omega)
  refine ⟨fun i hi => ?_, fun k hk => ?_⟩
  · have h4 : i = 0 ∨ i = 1 ∨ i = 2 ∨ i = 3 := by omega
    rcases h4 with rfl | rfl | rfl | rfl
    · rw [upd_ne (by omega), upd_ne (by omega), u 0 (by omega) (by omega) (by omega)]; exact hR.1 0 (by omega)
    · rw [upd_ne (by omega), upd_same, u1]
    · rw [upd_ne (by omega), upd_ne (by omega), u 2 (by omega) (by omega) (by omega)]; exact hR.1 2 (by omega)
    · rw [upd_same, u3]
  · rw [eN] at hk
    by_cases e : k = bN b
    · subst e
      rw [upd_same]
      unfold pE
      rw [us, uw, uf, nIc (by omega), nIc (by omega), nIc (by omega), hP]
    · rw [upd_ne (by omega), hR.2 k (by omega), pE_cong (u _ (by omega) (by omega) (by omega)) (u _ (by omega) (by omega) (by omega)) (u _ (by omega) (by omega) (by omega))]
section LT
variable {d q wo dr pt al pa a t s n P v : Nat} {σ : aS} {Q : aQ} {fpt fal fpa b : Nat → Int32}
def lPt (fpt : Nat → Int32) (t s : Nat) : Nat → Int32 := upd (upd fpt t (fpt t + nI 1)) s (upd fpt t (fpt t + nI 1) s + nI 1)
theorem l_tail (hd : pt < al ∧ al < pa) (ha : a < 6) (hb : bOK b) (hn : bN b = n) (h7 : n ≤ 7) (h1 : 1 ≤ n) (hl : b (4 + 3 * (n - 1)) = nI t) (ht : t < 8) (hs : s < 8) (hP : fpa (8 * a + n) = nI P) (hP2 : P < 100000) (hv : P % 5000 = v) (hold : n % 2 = 0 → fpa (8 * a + n - 2) = nI (pE b (n - 2))) {l10 l11 : Option Value} : aX (d + 2) iL_round 315 [some (.int (nI a)), some (.ref q), some (.ref wo), some (.ref dr), some (.ref pt), some (.ref al), some (.ref pa), some (.int (nI n)), some (.int (nI (pE b (n - 1)))), some (.int (nI s)), l10, l11] [] (lA σ pt al pa fpt fal fpa) Q ↔ if n % 2 = 0 ∧ nI v = b (4 + 3 * (n - 2) + 1) then Q none (lA σ pt al pa (lPt fpt t s) fal fpa) else Q none (lA σ pt al pa fpt fal fpa) := by
  have hpa : (lA σ pt al pa fpt fal fpa).1 pa = some (eI 48 fpa) := lA_pa
  have hpt : ∀ f, (lA σ pt al pa f fal fpa).1 pt = some (eI 8 f) := fun f => lA_pt hd
  have hwp : ∀ f g, aput (lA σ pt al pa f fal fpa) pt (eI 8 g) = lA σ pt al pa g fal fpa := fun f g => lA_wpt hd
  have hlt := pE_lt hb (show n - 1 < bN b by omega)
  have hse := pE_seat hb (show n - 1 < bN b by omega)
  rw [hl] at hse
  by_cases e : n % 2 = 0
  · have hlt2 := pE_lt hb (show n - 2 < bN b by omega)
    have hwh := pE_what hb (show n - 2 < bN b by omega)
    have ho := hold e
    by_cases g : nI v = b (4 + 3 * (n - 2) + 1)
    · rw [if_pos ⟨e, g⟩]
      simp (disch := omega) only [sL_round_315, sL_round_317, sL_round_318, sL_round_319, sL_round_322, sL_round_322n, sL_round_324, sL_round_326, sL_round_327, sL_round_328, sL_round_330, sL_round_331, sL_round_332, sL_round_335, sL_round_335n, sL_round_337, sL_round_339, sL_round_340, sL_round_341, sL_round_343, sL_round_344, sL_round_345, sL_round_346, sL_round_347, sL_round_350, sL_round_353, sL_round_353n, sL_round_355, sL_round_357, sL_round_360, sL_round_361, sL_round_362, sL_round_363, sL_round_364, sL_round_365, sL_round_365n, sL_round_367, sL_round_369, sL_round_370, sL_round_371, sL_round_372, sL_round_373, sL_round_374, hpa, hpt, hwp, hP, hv, ho, l_what, l_seat, hse, hwh, e, g, lPt, aFld, aFds, aRow, aRowR, aRefs, aLn, if_true, List.getElem?_cons_zero, List.getElem?_cons_succ, List.set_cons_zero, List.set_cons_succ, List.length_cons, List.length_nil, Option.some.injEq, exists_eq_left', aput_same, aclr_none, aclr_int, aclr_ref, aclr_null, aret_some, aret_none, bz, bz0, bz1, true_and, and_true, vpT, nIc, nI_add, pk_mul, nI_sub', Nat.add_zero, Nat.zero_add, upd_same, upd_ne, if_false, not_true_eq_false, not_false_eq_true, ite_z, ite_o, eq_self, Bool.false_eq_true, nI_leT, nI_leF, nI_ltT, nI_ltF, nI_ne, and_self, false_and, and_false, nI_rem]
    · rw [if_neg (fun z => g z.2)]
      simp (disch := omega) only [sL_round_315, sL_round_317, sL_round_318, sL_round_319, sL_round_322, sL_round_322n, sL_round_324, sL_round_326, sL_round_327, sL_round_328, sL_round_330, sL_round_331, sL_round_332, sL_round_335, sL_round_335n, sL_round_337, sL_round_339, sL_round_340, sL_round_341, sL_round_343, sL_round_344, sL_round_345, sL_round_346, sL_round_347, sL_round_350, sL_round_353, sL_round_353n, sL_round_355, sL_round_357, sL_round_360, sL_round_361, sL_round_362, sL_round_363, sL_round_364, sL_round_365, sL_round_365n, sL_round_367, sL_round_369, sL_round_370, sL_round_371, sL_round_372, sL_round_373, sL_round_374, hpa, hP, hv, ho, l_what, hwh, e, g, aFld, aFds, aRow, aRowR, aRefs, aLn, if_true, List.getElem?_cons_zero, List.getElem?_cons_succ, List.set_cons_zero, List.set_cons_succ, List.length_cons, List.length_nil, Option.some.injEq, exists_eq_left', aput_same, aclr_none, aclr_int, aclr_ref, aclr_null, aret_some, aret_none, bz, bz0, bz1, true_and, and_true, vpT, nIc, nI_add, pk_mul, nI_sub', Nat.add_zero, Nat.zero_add, upd_same, upd_ne, if_false, not_true_eq_false, not_false_eq_true, ite_z, ite_o, eq_self, Bool.false_eq_true, nI_leT, nI_leF, nI_ltT, nI_ltF, nI_ne, and_self, false_and, and_false, nI_rem]
  · rw [if_neg (fun z => e z.1)]
    have e1 : n % 2 = 1 := by omega
    simp (disch := omega) only [sL_round_315, sL_round_317, sL_round_318, sL_round_319, sL_round_322, sL_round_322n, sL_round_324, sL_round_326, sL_round_327, sL_round_328, sL_round_330, sL_round_331, sL_round_332, sL_round_335, sL_round_335n, sL_round_337, sL_round_339, sL_round_340, sL_round_341, sL_round_343, sL_round_344, sL_round_345, sL_round_346, sL_round_347, sL_round_350, sL_round_353, sL_round_353n, sL_round_355, sL_round_357, sL_round_360, sL_round_361, sL_round_362, sL_round_363, sL_round_364, sL_round_365, sL_round_365n, sL_round_367, sL_round_369, sL_round_370, sL_round_371, sL_round_372, sL_round_373, sL_round_374, e1, n10, aFld, aFds, aRow, aRowR, aRefs, aLn, if_true, List.getElem?_cons_zero, List.getElem?_cons_succ, List.set_cons_zero, List.set_cons_succ, List.length_cons, List.length_nil, Option.some.injEq, exists_eq_left', aput_same, aclr_none, aclr_int, aclr_ref, aclr_null, aret_some, aret_none, bz, bz0, bz1, true_and, and_true, vpT, nIc, nI_add, pk_mul, nI_sub', Nat.add_zero, Nat.zero_add, upd_same, upd_ne, if_false, not_true_eq_false, not_false_eq_true, ite_z, ite_o, eq_self, Bool.false_eq_true, nI_leT, nI_leF, nI_ltT, nI_ltF, nI_ne, and_self, false_and, and_false, nI_rem]
end LT
