/-! THE CLASS: a table and an album are made -/
def pf (F : Nat → Option aE) (a : Nat) (e : aE) : Nat → Option aE := fun q => if q = a then some e else F q
theorem pf_same {F : Nat → Option aE} {a : Nat} {e : aE} : pf F a e a = some e := if_pos rfl
theorem pf_ne {F : Nat → Option aE} {a q : Nat} {e : aE} (h : q ≠ a) : pf F a e q = F q := if_neg h
theorem aput_mk {F : Nat → Option aE} {h s a : Nat} {e : aE} : aput (F, h, s) a e = (pf F a e, h, s) := rfl
theorem anew_mk {F : Nat → Option aE} {h s n : Nat} {e : aE} : anew (F, h, s) e n = (pf F h e, h + 1, s + n) := rfl
theorem nI_00 : (0 : Int32) = nI 0 := nI_0.symm
def iF (i k : Nat) : Int32 := if k < i then nI ((k * k * 37 + k * 113 + 5) % 4096) else 0
theorem iF_s (i : Nat) : upd (iF i) i (nI ((i * i * 37 + i * 113 + 5) % 4096)) = iF (i + 1) := by
  funext k
  unfold upd iF
  by_cases e : k = i
  · subst e
    rw [if_pos rfl, if_pos (by omega)]
  · rw [if_neg e]
    by_cases g : k < i
    · rw [if_pos g, if_pos (by omega)]
    · rw [if_neg g, if_neg (by omega)]
theorem iF_0 : iF 0 = fun _ => 0 := by
  funext k
  unfold iF
  rw [if_neg (by omega)]
def iD (i k : Nat) : Int32 := if k < i then nI 4095 else 0
theorem iD_s (i : Nat) : upd (iD i) i (nI 4095) = iD (i + 1) := by
  funext k
  unfold upd iD
  by_cases e : k = i
  · subst e
    rw [if_pos rfl, if_pos (by omega)]
  · rw [if_neg e]
    by_cases g : k < i
    · rw [if_pos g, if_pos (by omega)]
    · rw [if_neg g, if_neg (by omega)]
theorem iD_0 : iD 0 = fun _ => 0 := by
  funext k
  unfold iD
  rw [if_neg (by omega)]
/-- the state of a new object -/
def i0 (k : Nat) : Int32 := if k < 16 then nI ((k * k * 37 + k * 113 + 5) % 4096) else if 17 ≤ k ∧ k < 25 then nI 4095 else 0
theorem i0_z {k : Nat} (h : 25 ≤ k ∨ k = 16) : i0 k = nI 0 := by
  unfold i0
  rw [if_neg (by omega), if_neg (by omega), nI_0]
theorem i0_ok : mOK i0 := by
  refine ⟨⟨fun w hw => ⟨(w * w * 37 + w * 113 + 5) % 4096, if_pos hw, Nat.mod_lt _ (by decide)⟩, ⟨0, i0_z (Or.inr rfl), by omega⟩, fun s hs => ⟨4095, ?_, by omega⟩⟩, 0, i0_z (Or.inl (by omega)), by omega, fun a ha => absurd ha (Nat.not_lt_zero a)⟩
  unfold i0
  rw [if_neg (by omega), if_pos (by omega)]
theorem i0_K : mK i0 := mK_of i0_ok (i0_z (Or.inl (by omega))) (by omega) (fun a b ha => absurd ha (Nat.not_lt_zero a))
section CI1
variable {d : Nat} {Q : aQ}
theorem ci_alb {F : Nat → Option aE} {a s : Nat} (h0 : F a = some (eO 0 [.null, .null, .int 0, .int 0, .int 0, .int 0, .int 0])) (K : ∀ F', AlbC (F', a + 3, s + 16) a 0 0 0 (-6) 0 (fun _ => 0) (fun _ => 0) → (∀ q, q < a → F' q = F q) → Q none (F', a + 3, s + 16)) : aX d iX0_init 0 [some (.ref a)] [] (F, a + 1, s) Q := by
  simp (disch := omega) only [sX0_init_0, sX0_init_1, sX0_init_4, sX0_init_5, sX0_init_7, sX0_init_9, sX0_init_12, sX0_init_13, sX0_init_15, sX0_init_17, sX0_init_20, sX0_init_21, sX0_init_23, sX0_init_26, h0, aput_mk, anew_mk, pf_same, pf_ne, cF_l, cF_g0, cF_g1, cF_g2, cF_g3, cF_g4, cF_g5, tF_l, tF_g0, tF_g1, tF_g2, tF_g3, tF_g4, tF_g5, tF_s3, tF_s4, tF_s5, aFld, aFds, aRow, aRowR, aRefs, aLn, if_true, List.getElem?_cons_zero, List.getElem?_cons_succ, List.set_cons_zero, List.set_cons_succ, List.length_cons, List.length_nil, Option.some.injEq, exists_eq_left', aput_same, aclr_none, aclr_int, aclr_ref, aclr_null, aret_some, aret_none, bz, bz0, bz1, true_and, and_true, vpT, nIc, nI_add, pk_mul, nI_sub', Nat.add_zero, Nat.zero_add, upd_same, upd_ne, if_false, not_true_eq_false, not_false_eq_true, ite_z, ite_o, eq_self, Bool.false_eq_true, nI_leT, nI_leF, nI_ltT, nI_ltF, nI_ne, and_self, false_and, and_false, Nat.reduceAdd, Nat.reduceSub, Nat.reduceMul, Nat.reduceLT, Nat.reduceLeDiff, true_and]
  refine K _ ⟨?_, ?_, ?_⟩ (fun q hq => ?_)
  · simp (disch := omega) only [pf_same, pf_ne]
    rfl
  · simp (disch := omega) only [pf_same, pf_ne]
  · simp (disch := omega) only [pf_same, pf_ne]
  · simp (disch := omega) only [pf_same, pf_ne]
theorem ci_f_loop {σ : aS} {t : Nat} {fs : List Value} (h0 : σ.1 t = some (eO 5 (.ref (t + 1) :: fs))) : ∀ (k i : Nat) (Q : aQ), i + k = 16 → (aX d iX5_init 39 [some (.ref t), some (.int (nI i))] [] (aput σ (t + 1) (eI 16 (iF i))) Q ↔ aX d iX5_init 77 [some (.ref t), some (.int (nI 16))] [] (aput σ (t + 1) (eI 16 (iF 16))) Q)
  | 0, i, Q, h => by
    have e : i = 16 := by omega
    subst e
    have r0 : (aput σ (t + 1) (eI 16 (iF 16))).1 t = some (eO 5 (.ref (t + 1) :: fs)) := (aput_ne _ _ (by omega)).trans h0
    rw [sX5_init_39]
    simp (disch := omega) only [sX5_init_40, sX5_init_41, sX5_init_44, sX5_init_45, r0, cF_l, cF_g0, cF_g1, cF_g2, cF_g3, cF_g4, cF_g5, tF_l, tF_g0, tF_g1, tF_g2, tF_g3, tF_g4, tF_g5, tF_s3, tF_s4, tF_s5, aFld, aFds, aRow, aRowR, aRefs, aLn, if_true, List.getElem?_cons_zero, List.getElem?_cons_succ, List.set_cons_zero, List.set_cons_succ, List.length_cons, List.length_nil, Option.some.injEq, exists_eq_left', aput_same, aclr_none, aclr_int, aclr_ref, aclr_null, aret_some, aret_none, bz, bz0, bz1, true_and, and_true, vpT, nIc, nI_add, pk_mul, nI_sub', Nat.add_zero, Nat.zero_add, upd_same, upd_ne, if_false, not_true_eq_false, not_false_eq_true, ite_z, ite_o, eq_self, Bool.false_eq_true, nI_leT, nI_leF, nI_ltT, nI_ltF, nI_ne, and_self, false_and, and_false, Nat.reduceAdd, Nat.reduceSub, Nat.reduceMul, Nat.reduceLT, Nat.reduceLeDiff, true_and]
  | k + 1, i, Q, h => by
    have ih := ci_f_loop h0 k (i + 1) Q (by omega)
    have hii : i * i ≤ 15 * 15 := Nat.mul_le_mul (by omega) (by omega)
    have hX : i * i * 37 + i * 113 + 5 < 2147483648 := by omega
    have hrem := nI_rem hX (show 0 < 4096 by omega) (show 4096 < 2147483648 by omega)
    have r0 : ∀ {e : aE}, (aput σ (t + 1) e).1 t = some (eO 5 (.ref (t + 1) :: fs)) := fun {_} => (aput_ne _ _ (by omega)).trans h0
    rw [sX5_init_39, ← ih]
    simp (disch := omega) only [sX5_init_40, sX5_init_41, sX5_init_44, sX5_init_45, sX5_init_48, sX5_init_49, sX5_init_52, sX5_init_53, sX5_init_54, sX5_init_55, sX5_init_56, sX5_init_58, sX5_init_59, sX5_init_60, sX5_init_62, sX5_init_63, sX5_init_64, sX5_init_65, sX5_init_66, sX5_init_69, sX5_init_70, sX5_init_71, sX5_init_74, r0, hrem, aput_twice, iF_s, cF_l, cF_g0, cF_g1, cF_g2, cF_g3, cF_g4, cF_g5, tF_l, tF_g0, tF_g1, tF_g2, tF_g3, tF_g4, tF_g5, tF_s3, tF_s4, tF_s5, aFld, aFds, aRow, aRowR, aRefs, aLn, if_true, List.getElem?_cons_zero, List.getElem?_cons_succ, List.set_cons_zero, List.set_cons_succ, List.length_cons, List.length_nil, Option.some.injEq, exists_eq_left', aput_same, aclr_none, aclr_int, aclr_ref, aclr_null, aret_some, aret_none, bz, bz0, bz1, true_and, and_true, vpT, nIc, nI_add, pk_mul, nI_sub', Nat.add_zero, Nat.zero_add, upd_same, upd_ne, if_false, not_true_eq_false, not_false_eq_true, ite_z, ite_o, eq_self, Bool.false_eq_true, nI_leT, nI_leF, nI_ltT, nI_ltF, nI_ne, and_self, false_and, and_false, Nat.reduceAdd, Nat.reduceSub, Nat.reduceMul, Nat.reduceLT, Nat.reduceLeDiff, true_and]
theorem ci_d_loop {σ : aS} {t : Nat} {v : Value} {fs : List Value} (h0 : σ.1 t = some (eO 5 (v :: .ref (t + 2) :: fs))) : ∀ (k i : Nat) (Q : aQ), i + k = 8 → (aX d iX5_init 79 [some (.ref t), some (.int (nI i))] [] (aput σ (t + 2) (eI 8 (iD i))) Q ↔ aX d iX5_init 103 [some (.ref t), some (.int (nI 8))] [] (aput σ (t + 2) (eI 8 (iD 8))) Q)
  | 0, i, Q, h => by
    have e : i = 8 := by omega
    subst e
    have r0 : (aput σ (t + 2) (eI 8 (iD 8))).1 t = some (eO 5 (v :: .ref (t + 2) :: fs)) := (aput_ne _ _ (by omega)).trans h0
    rw [sX5_init_79]
    simp (disch := omega) only [sX5_init_80, sX5_init_81, sX5_init_84, sX5_init_85, r0, cF_l, cF_g0, cF_g1, cF_g2, cF_g3, cF_g4, cF_g5, tF_l, tF_g0, tF_g1, tF_g2, tF_g3, tF_g4, tF_g5, tF_s3, tF_s4, tF_s5, aFld, aFds, aRow, aRowR, aRefs, aLn, if_true, List.getElem?_cons_zero, List.getElem?_cons_succ, List.set_cons_zero, List.set_cons_succ, List.length_cons, List.length_nil, Option.some.injEq, exists_eq_left', aput_same, aclr_none, aclr_int, aclr_ref, aclr_null, aret_some, aret_none, bz, bz0, bz1, true_and, and_true, vpT, nIc, nI_add, pk_mul, nI_sub', Nat.add_zero, Nat.zero_add, upd_same, upd_ne, if_false, not_true_eq_false, not_false_eq_true, ite_z, ite_o, eq_self, Bool.false_eq_true, nI_leT, nI_leF, nI_ltT, nI_ltF, nI_ne, and_self, false_and, and_false, Nat.reduceAdd, Nat.reduceSub, Nat.reduceMul, Nat.reduceLT, Nat.reduceLeDiff, true_and]
  | k + 1, i, Q, h => by
    have ih := ci_d_loop h0 k (i + 1) Q (by omega)
    have r0 : ∀ {e : aE}, (aput σ (t + 2) e).1 t = some (eO 5 (v :: .ref (t + 2) :: fs)) := fun {_} => (aput_ne _ _ (by omega)).trans h0
    rw [sX5_init_79, ← ih]
    simp (disch := omega) only [sX5_init_80, sX5_init_81, sX5_init_84, sX5_init_85, sX5_init_88, sX5_init_89, sX5_init_92, sX5_init_93, sX5_init_96, sX5_init_97, sX5_init_100, r0, aput_twice, iD_s, cF_l, cF_g0, cF_g1, cF_g2, cF_g3, cF_g4, cF_g5, tF_l, tF_g0, tF_g1, tF_g2, tF_g3, tF_g4, tF_g5, tF_s3, tF_s4, tF_s5, aFld, aFds, aRow, aRowR, aRefs, aLn, if_true, List.getElem?_cons_zero, List.getElem?_cons_succ, List.set_cons_zero, List.set_cons_succ, List.length_cons, List.length_nil, Option.some.injEq, exists_eq_left', aput_same, aclr_none, aclr_int, aclr_ref, aclr_null, aret_some, aret_none, bz, bz0, bz1, true_and, and_true, vpT, nIc, nI_add, pk_mul, nI_sub', Nat.add_zero, Nat.zero_add, upd_same, upd_ne, if_false, not_true_eq_false, not_false_eq_true, ite_z, ite_o, eq_self, Bool.false_eq_true, nI_leT, nI_leF, nI_ltT, nI_ltF, nI_ne, and_self, false_and, and_false, Nat.reduceAdd, Nat.reduceSub, Nat.reduceMul, Nat.reduceLT, Nat.reduceLeDiff, true_and]
theorem va_up_same {f : Nat → Option Nat} {i : Nat} {v : Option Nat} : va_up f i v i = v := by unfold va_up; rw [if_pos rfl]
theorem ci_a_loop {t : Nat} {v0 v1 v2 : Value} {fs : List Value} {F0 : Nat → Option aE} : ∀ (k j s : Nat) (F : Nat → Option aE), j + k = 12 → F t = some (eO 5 (v0 :: v1 :: v2 :: .ref (t + 4) :: fs)) → (∃ G, F (t + 4) = some (eQ 1 12 G) ∧ ∀ i, i < j → G i = some (t + 5 + 3 * i)) → (∀ i, i < j → AlbC (F, t + 5 + 3 * j, s) (t + 5 + 3 * i) 0 0 0 (-6) 0 (fun _ => 0) (fun _ => 0)) → (∀ q, q < t + 5 → q ≠ t + 4 → F q = F0 q) → (∀ F' s', s' = s + 23 * k → (∃ G, F' (t + 4) = some (eQ 1 12 G) ∧ ∀ i, i < 12 → G i = some (t + 5 + 3 * i)) → (∀ i, i < 12 → AlbC (F', t + 41, s') (t + 5 + 3 * i) 0 0 0 (-6) 0 (fun _ => 0) (fun _ => 0)) → (∀ q, q < t + 5 → q ≠ t + 4 → F' q = F0 q) → Q none (F', t + 41, s')) → aX (d + 1) iX5_init 105 [some (.ref t), some (.int (nI j))] [] (F, t + 5 + 3 * j, s) Q
  | 0, j, s, F, h, h0, ⟨G, hG, hG2⟩, hA, hF, K => by
    have e : j = 12 := by omega
    subst e
    have := K F s (by omega) ⟨G, hG, hG2⟩ hA hF
    rw [sX5_init_105]
    simp (disch := omega) only [sX5_init_106, sX5_init_107, sX5_init_110, sX5_init_111, sX5_init_114, sX5_init_115, sX5_init_118, sX5_init_119, sX5_init_122, sX5_init_122i, sX5_init_123, sX5_init_126, sX5_init_127, sX5_init_130, sX5_init_133, h0, hG, aput_mk, anew_mk, pf_same, pf_ne, cF_l, cF_g0, cF_g1, cF_g2, cF_g3, cF_g4, cF_g5, tF_l, tF_g0, tF_g1, tF_g2, tF_g3, tF_g4, tF_g5, tF_s3, tF_s4, tF_s5, aFld, aFds, aRow, aRowR, aRefs, aLn, if_true, List.getElem?_cons_zero, List.getElem?_cons_succ, List.set_cons_zero, List.set_cons_succ, List.length_cons, List.length_nil, Option.some.injEq, exists_eq_left', aput_same, aclr_none, aclr_int, aclr_ref, aclr_null, aret_some, aret_none, bz, bz0, bz1, true_and, and_true, vpT, nIc, nI_add, pk_mul, nI_sub', Nat.add_zero, Nat.zero_add, upd_same, upd_ne, if_false, not_true_eq_false, not_false_eq_true, ite_z, ite_o, eq_self, Bool.false_eq_true, nI_leT, nI_leF, nI_ltT, nI_ltF, nI_ne, and_self, false_and, and_false, Nat.reduceAdd, Nat.reduceSub, Nat.reduceMul, Nat.reduceLT, Nat.reduceLeDiff, true_and]
    exact this
  | k + 1, j, s, F, h, h0, ⟨G, hG, hG2⟩, hA, hF, K => by
    have ih := ci_a_loop (t := t) (v0 := v0) (v1 := v1) (v2 := v2) (fs := fs) (F0 := F0) k (j + 1) (s + 7 + 16)
    have hn : pf F (t + 5 + 3 * j) (eO 0 [.null, .null, .int 0, .int 0, .int 0, .int 0, .int 0]) (t + 5 + 3 * j) = some (eO 0 [.null, .null, .int 0, .int 0, .int 0, .int 0, .int 0]) := pf_same
    have hI : aIs (pf F (t + 5 + 3 * j) (eO 0 [.null, .null, .int 0, .int 0, .int 0, .int 0, .int 0]), t + 5 + 3 * j + 1, s + 7) (t + 5 + 3 * j) 0 = True := aIsT hn
    rw [sX5_init_105]
    simp (disch := omega) only [sX5_init_106, sX5_init_107, sX5_init_110, sX5_init_111, sX5_init_114, sX5_init_115, sX5_init_118, sX5_init_119, sX5_init_122, sX5_init_122i, sX5_init_123, h0, hG, hI, aput_mk, anew_mk, pf_same, pf_ne, cF_l, cF_g0, cF_g1, cF_g2, cF_g3, cF_g4, cF_g5, tF_l, tF_g0, tF_g1, tF_g2, tF_g3, tF_g4, tF_g5, tF_s3, tF_s4, tF_s5, aFld, aFds, aRow, aRowR, aRefs, aLn, if_true, List.getElem?_cons_zero, List.getElem?_cons_succ, List.set_cons_zero, List.set_cons_succ, List.length_cons, List.length_nil, Option.some.injEq, exists_eq_left', aput_same, aclr_none, aclr_int, aclr_ref, aclr_null, aret_some, aret_none, bz, bz0, bz1, true_and, and_true, vpT, nIc, nI_add, pk_mul, nI_sub', Nat.add_zero, Nat.zero_add, upd_same, upd_ne, if_false, not_true_eq_false, not_false_eq_true, ite_z, ite_o, eq_self, Bool.false_eq_true, nI_leT, nI_leF, nI_ltT, nI_ltF, nI_ne, and_self, false_and, and_false, Nat.reduceAdd, Nat.reduceSub, Nat.reduceMul, Nat.reduceLT, Nat.reduceLeDiff, true_and]
    refine ci_alb hn (fun F' hA' hF' => ?_)
    have g4 : F' (t + 4) = some (eQ 1 12 G) := (hF' _ (by omega)).trans ((pf_ne (by omega)).trans hG)
    have hin : vp_in (nI j) 12 := vp_in_nI (by omega) (by omega)
    have hr := sX5_init_126 (d := d + 1) (σ := (F', t + 5 + 3 * j + 3, s + 7 + 16)) (Q := Q) (i := nI j) (ls := [some (.ref t), some (.int (nI j))]) (st := []) g4 hA'.1 hin ⟨rfl, rfl⟩
    simp (disch := omega) only [sX5_init_126, hr, aput_mk, anew_mk, pf_same, pf_ne, cF_l, cF_g0, cF_g1, cF_g2, cF_g3, cF_g4, cF_g5, tF_l, tF_g0, tF_g1, tF_g2, tF_g3, tF_g4, tF_g5, tF_s3, tF_s4, tF_s5, aFld, aFds, aRow, aRowR, aRefs, aLn, if_true, List.getElem?_cons_zero, List.getElem?_cons_succ, List.set_cons_zero, List.set_cons_succ, List.length_cons, List.length_nil, Option.some.injEq, exists_eq_left', aput_same, aclr_none, aclr_int, aclr_ref, aclr_null, aret_some, aret_none, bz, bz0, bz1, true_and, and_true, vpT, nIc, nI_add, pk_mul, nI_sub', Nat.add_zero, Nat.zero_add, upd_same, upd_ne, if_false, not_true_eq_false, not_false_eq_true, ite_z, ite_o, eq_self, Bool.false_eq_true, nI_leT, nI_leF, nI_ltT, nI_ltF, nI_ne, and_self, false_and, and_false, Nat.reduceAdd, Nat.reduceSub, Nat.reduceMul, Nat.reduceLT, Nat.reduceLeDiff, true_and]
    simp (disch := omega) only [sX5_init_127, sX5_init_130, aput_mk, anew_mk, pf_same, pf_ne, cF_l, cF_g0, cF_g1, cF_g2, cF_g3, cF_g4, cF_g5, tF_l, tF_g0, tF_g1, tF_g2, tF_g3, tF_g4, tF_g5, tF_s3, tF_s4, tF_s5, aFld, aFds, aRow, aRowR, aRefs, aLn, if_true, List.getElem?_cons_zero, List.getElem?_cons_succ, List.set_cons_zero, List.set_cons_succ, List.length_cons, List.length_nil, Option.some.injEq, exists_eq_left', aput_same, aclr_none, aclr_int, aclr_ref, aclr_null, aret_some, aret_none, bz, bz0, bz1, true_and, and_true, vpT, nIc, nI_add, pk_mul, nI_sub', Nat.add_zero, Nat.zero_add, upd_same, upd_ne, if_false, not_true_eq_false, not_false_eq_true, ite_z, ite_o, eq_self, Bool.false_eq_true, nI_leT, nI_leF, nI_ltT, nI_ltF, nI_ne, and_self, false_and, and_false, Nat.reduceAdd, Nat.reduceSub, Nat.reduceMul, Nat.reduceLT, Nat.reduceLeDiff, true_and]
    have hh := ih (pf F' (t + 4) (eQ 1 12 (va_up G j (some (t + 5 + 3 * j))))) (by omega) ?_ ⟨_, pf_same, fun i hi => ?_⟩ (fun i hi => ?_) (fun q hq hq4 => ?_) (fun F2 s2 y0 y1 y2 y3 => K F2 s2 (by omega) y1 y2 y3)
    · rw [show t + 5 + 3 * (j + 1) = t + 5 + 3 * j + 3 by omega] at hh
      exact hh
    · exact (pf_ne (by omega)).trans ((hF' _ (by omega)).trans ((pf_ne (by omega)).trans h0))
    · by_cases e : i = j
      · subst e; exact va_up_same
      · rw [va_up_ne _ _ e]; exact hG2 i (by omega)
    · by_cases e : i = j
      · subst e
        exact ⟨(pf_ne (by omega)).trans hA'.1, (pf_ne (by omega)).trans hA'.2.1, (pf_ne (by omega)).trans hA'.2.2⟩
      · have hx := hA i (by omega)
        have hk : ∀ q, q < t + 5 + 3 * j → q ≠ t + 4 → pf F' (t + 4) (eQ 1 12 (va_up G j (some (t + 5 + 3 * j)))) q = F q := fun q hq hq4 => (pf_ne hq4).trans ((hF' q (by omega)).trans (pf_ne (by omega)))
        exact ⟨(hk _ (by omega) (by omega)).trans hx.1, (hk _ (by omega) (by omega)).trans hx.2.1, (hk _ (by omega) (by omega)).trans hx.2.2⟩
    · exact (pf_ne hq4).trans ((hF' q (by omega)).trans ((pf_ne (by omega)).trans (hF q hq hq4)))
theorem ci_tab_mid {F F1 : Nat → Option aE} {t s : Nat} (h0 : F1 t = some (eO 5 [.ref (t + 1), .ref (t + 2), .ref (t + 3), .ref (t + 4), .int 0, .int 0, .int 0])) (h1 : F1 (t + 1) = some (eI 16 (fun _ => 0))) (h2 : F1 (t + 2) = some (eI 8 (fun _ => 0))) (h3 : F1 (t + 3) = some (eI 8 (fun _ => 0))) (h4 : F1 (t + 4) = some (eQ 1 12 (fun _ => none))) (hF : ∀ q, q < t → F1 q = F q) (K : ∀ F', TabR (F', t + 41, s + 320) t i0 → (∀ q, q < t → F' q = F q) → Q none (F', t + 41, s + 320)) : aX (d + 1) iX5_init 39 [some (.ref t), some (.int (nI 0))] [] (F1, t + 5, s + 44) Q := by
  have e1 := ci_f_loop (d := d + 1) (σ := (F1, t + 5, s + 44)) (t := t) h0 16 0 Q rfl
  rw [iF_0, aput_self (σ := (F1, t + 5, s + 44)) h1] at e1
  rw [e1]
  simp (disch := omega) only [sX5_init_77, sX5_init_78, aclr_ref, aclr_int]
  have r0 : (aput (F1, t + 5, s + 44) (t + 1) (eI 16 (iF 16))).1 t = some (eO 5 [.ref (t + 1), .ref (t + 2), .ref (t + 3), .ref (t + 4), .int 0, .int 0, .int 0]) := (aput_ne _ _ (by omega)).trans h0
  have r2 : (aput (F1, t + 5, s + 44) (t + 1) (eI 16 (iF 16))).1 (t + 2) = some (eI 8 (fun _ => 0)) := (aput_ne _ _ (by omega)).trans h2
  have e2 := ci_d_loop (d := d + 1) (σ := aput (F1, t + 5, s + 44) (t + 1) (eI 16 (iF 16))) (t := t) r0 8 0 Q rfl
  rw [iD_0, aput_self r2] at e2
  rw [e2]
  simp (disch := omega) only [sX5_init_103, sX5_init_104, aclr_ref, aclr_int]
  have hpn : ∀ q, q ≠ t + 1 → q ≠ t + 2 → pf (pf F1 (t + 1) (eI 16 (iF 16))) (t + 2) (eI 8 (iD 8)) q = F1 q := fun q g1 g2 => (pf_ne g2).trans (pf_ne g1)
  refine ci_a_loop (t := t) (v0 := .ref (t + 1)) (v1 := .ref (t + 2)) (v2 := .ref (t + 3)) (fs := [.int 0, .int 0, .int 0]) (F0 := pf (pf F1 (t + 1) (eI 16 (iF 16))) (t + 2) (eI 8 (iD 8))) 12 0 (s + 44) (pf (pf F1 (t + 1) (eI 16 (iF 16))) (t + 2) (eI 8 (iD 8))) rfl ((hpn _ (by omega) (by omega)).trans h0) ⟨_, (hpn _ (by omega) (by omega)).trans h4, fun i hi => absurd hi (Nat.not_lt_zero i)⟩ (fun i hi => absurd hi (Nat.not_lt_zero i)) (fun _ _ _ => rfl) (fun F' s' hs' hG hA hF' => ?_)
  have hs2 : s' = s + 320 := by omega
  subst hs2
  refine K F' ⟨?_, ⟨iF 16, ?_, fun w hw => ?_⟩, ⟨iD 8, ?_, fun w hw => ?_⟩, ⟨fun _ => 0, ?_, fun w hw => ?_⟩, hG, fun j hj => ⟨_, _, _, _, _, _, _, hA j hj, fun h => ?_⟩⟩ (fun q hq => ?_)
  · rw [i0_z (Or.inr rfl), i0_z (Or.inl (by omega)), i0_z (Or.inl (by omega)), nI_0]
    exact (hF' _ (by omega) (by omega)).trans ((hpn _ (by omega) (by omega)).trans h0)
  · exact (hF' _ (by omega) (by omega)).trans ((pf_ne (by omega)).trans pf_same)
  · unfold iF i0
    rw [if_pos hw, if_pos hw]
  · exact (hF' _ (by omega) (by omega)).trans pf_same
  · unfold iD i0
    rw [if_pos hw, if_neg (by omega), if_pos (by omega)]
  · exact (hF' _ (by omega) (by omega)).trans ((hpn _ (by omega) (by omega)).trans h3)
  · rw [i0_z (Or.inl (by omega)), nI_0]
  · rw [i0_z (Or.inl (by omega)), nIc (by omega)] at h
    exact absurd h (Nat.not_lt_zero _)
  · exact (hF' _ (by omega) (by omega)).trans ((hpn _ (by omega) (by omega)).trans (hF q hq))
theorem ci_tab {F : Nat → Option aE} {t s : Nat} (h0 : F t = some (eO 5 [.null, .null, .null, .null, .int 0, .int 0, .int 0])) (K : ∀ F', TabR (F', t + 41, s + 320) t i0 → (∀ q, q < t → F' q = F q) → Q none (F', t + 41, s + 320)) : aX (d + 1) iX5_init 0 [some (.ref t), none] [] (F, t + 1, s) Q := by
  simp (disch := omega) only [sX5_init_0, sX5_init_1, sX5_init_4, sX5_init_5, sX5_init_7, sX5_init_9, sX5_init_12, sX5_init_13, sX5_init_15, sX5_init_17, sX5_init_20, sX5_init_21, sX5_init_23, sX5_init_25, sX5_init_28, sX5_init_29, sX5_init_31, sX5_init_34, sX5_init_37, sX5_init_38, h0, aput_mk, anew_mk, pf_same, pf_ne, cF_l, cF_g0, cF_g1, cF_g2, cF_g3, cF_g4, cF_g5, tF_l, tF_g0, tF_g1, tF_g2, tF_g3, tF_g4, tF_g5, tF_s3, tF_s4, tF_s5, aFld, aFds, aRow, aRowR, aRefs, aLn, if_true, List.getElem?_cons_zero, List.getElem?_cons_succ, List.set_cons_zero, List.set_cons_succ, List.length_cons, List.length_nil, Option.some.injEq, exists_eq_left', aput_same, aclr_none, aclr_int, aclr_ref, aclr_null, aret_some, aret_none, bz, bz0, bz1, true_and, and_true, vpT, nIc, nI_add, pk_mul, nI_sub', Nat.add_zero, Nat.zero_add, upd_same, upd_ne, if_false, not_true_eq_false, not_false_eq_true, ite_z, ite_o, eq_self, Bool.false_eq_true, nI_leT, nI_leF, nI_ltT, nI_ltF, nI_ne, and_self, false_and, and_false, Nat.reduceAdd, Nat.reduceSub, Nat.reduceMul, Nat.reduceLT, Nat.reduceLeDiff, true_and]
  refine ci_tab_mid (F := F) ?_ ?_ ?_ ?_ ?_ (fun q hq => ?_) K
  · simp (disch := omega) only [pf_same, pf_ne]
  · simp (disch := omega) only [pf_same, pf_ne]
  · simp (disch := omega) only [pf_same, pf_ne]
  · simp (disch := omega) only [pf_same, pf_ne]
  · simp (disch := omega) only [pf_same, pf_ne]
  · simp (disch := omega) only [pf_same, pf_ne]
end CI1
