/-! THE CLASS: what a table answers; bits are counted -/
def uS (x : Int32) (k : Nat) : Int32 := (x.toUInt32 >>> ((nI k).toUInt32 &&& Int32.toUInt32 31)).toInt32
def jB1 (v : Int32) : Int32 := v - (uS v 1 &&& 1431655765)
def jB2 (v : Int32) : Int32 := (v &&& 858993459) + (uS v 2 &&& 858993459)
def jB3 (v : Int32) : Int32 := v + uS v 4 &&& 252645135
def jB4 (v : Int32) : Int32 := v + uS v 8
def jB5 (v : Int32) : Int32 := v + uS v 16 &&& nI 63
def jBc (v : Int32) : Int32 := jB5 (jB4 (jB3 (jB2 (jB1 v))))
theorem jBc_all : ∀ h, h < 64 → ∀ l, l < 64 → jBc (nI (64 * h + l)) = mBits (nI (64 * h + l)) 12 ∧ (nI 13 ≤ jBc (nI (64 * h + l)) → False) := by decide +kernel
theorem jBc_eq {v : Nat} (h : v < 4096) : jBc (nI v) = mBits (nI v) 12 := by
  have := (jBc_all (v / 64) (by omega) (v % 64) (by omega)).1
  rw [show 64 * (v / 64) + v % 64 = v by omega] at this
  exact this
theorem mBits_13 {v : Nat} (h : v < 4096) : (nI 13 ≤ mBits (nI v) 12) = False := by
  have := (jBc_all (v / 64) (by omega) (v % 64) (by omega)).2
  rw [show 64 * (v / 64) + v % 64 = v by omega, jBc_eq h] at this
  exact eq_false this
theorem xor_4096 {x y : Nat} (hx : x < 4096) (hy : y < 4096) : ∃ z, nI x ^^^ nI y = nI z ∧ z < 4096 := by
  refine ⟨x ^^^ y, ?_, Nat.xor_lt_two_pow (n := 12) hx hy⟩
  apply b_ext
  intro i hi
  rw [b_xor]
  unfold bt nI
  show ((BitVec.ofNat 32 x).getLsbD i ^^ (BitVec.ofNat 32 y).getLsbD i) = (BitVec.ofNat 32 (x ^^^ y)).getLsbD i
  rw [BitVec.getLsbD_ofNat, BitVec.getLsbD_ofNat, BitVec.getLsbD_ofNat, Nat.testBit_xor]
  simp [hi]
def tF (t : Nat) (pl ac ro : Int32) : List Value := [.ref (t + 2), .ref (t + 3), .ref (t + 4), .int pl, .int ac, .int ro]
section CT
variable {d : Nat} {σ : aS} {Q : aQ} {t a n : Nat} {ft dr f g : Nat → Int32} {ow hw tn tp pl ac ro x : Int32}
theorem tF_l : (tF t pl ac ro).length = 6 := rfl
theorem tF_g0 : (tF t pl ac ro)[0]? = some (.ref (t + 2)) := rfl
theorem tF_g1 : (tF t pl ac ro)[1]? = some (.ref (t + 3)) := rfl
theorem tF_g2 : (tF t pl ac ro)[2]? = some (.ref (t + 4)) := rfl
theorem tF_g3 : (tF t pl ac ro)[3]? = some (.int pl) := rfl
theorem tF_g4 : (tF t pl ac ro)[4]? = some (.int ac) := rfl
theorem tF_g5 : (tF t pl ac ro)[5]? = some (.int ro) := rfl
theorem tF_s3 : (tF t pl ac ro).set 3 (.int x) = tF t x ac ro := rfl
theorem tF_s4 : (tF t pl ac ro).set 4 (.int x) = tF t pl x ro := rfl
theorem tF_s5 : (tF t pl ac ro).set 5 (.int x) = tF t pl ac x := rfl
theorem j_bitCount {v : Int32} : aX d iJ6_bitCount_0f7a4 0 [some (.int v)] [] σ Q ↔ Q (some (.int (jBc v))) σ := by
  simp (disch := omega) only [sJ6_bitCount_0f7a4_0, sJ6_bitCount_0f7a4_1, sJ6_bitCount_0f7a4_2, sJ6_bitCount_0f7a4_3, sJ6_bitCount_0f7a4_4, sJ6_bitCount_0f7a4_7, sJ6_bitCount_0f7a4_8, sJ6_bitCount_0f7a4_9, sJ6_bitCount_0f7a4_10, sJ6_bitCount_0f7a4_11, sJ6_bitCount_0f7a4_14, sJ6_bitCount_0f7a4_15, sJ6_bitCount_0f7a4_16, sJ6_bitCount_0f7a4_17, sJ6_bitCount_0f7a4_18, sJ6_bitCount_0f7a4_21, sJ6_bitCount_0f7a4_22, sJ6_bitCount_0f7a4_23, sJ6_bitCount_0f7a4_24, sJ6_bitCount_0f7a4_25, sJ6_bitCount_0f7a4_26, sJ6_bitCount_0f7a4_27, sJ6_bitCount_0f7a4_28, sJ6_bitCount_0f7a4_29, sJ6_bitCount_0f7a4_32, sJ6_bitCount_0f7a4_33, sJ6_bitCount_0f7a4_34, sJ6_bitCount_0f7a4_35, sJ6_bitCount_0f7a4_36, sJ6_bitCount_0f7a4_38, sJ6_bitCount_0f7a4_39, sJ6_bitCount_0f7a4_40, sJ6_bitCount_0f7a4_41, sJ6_bitCount_0f7a4_42, sJ6_bitCount_0f7a4_43, sJ6_bitCount_0f7a4_45, sJ6_bitCount_0f7a4_46, sJ6_bitCount_0f7a4_47, sJ6_bitCount_0f7a4_48, sJ6_bitCount_0f7a4_49, sJ6_bitCount_0f7a4_51, sJ6_bitCount_0f7a4_52, aFld, aFds, aRow, aRowR, aRefs, aLn, if_true, List.getElem?_cons_zero, List.getElem?_cons_succ, List.set_cons_zero, List.set_cons_succ, List.length_cons, List.length_nil, Option.some.injEq, exists_eq_left', aput_same, aclr_none, aclr_int, aclr_ref, aclr_null, aret_some, aret_none, bz, bz0, bz1, true_and, and_true, vpT, nIc, nI_add, pk_mul, nI_sub', Nat.add_zero, Nat.zero_add, upd_same, upd_ne, if_false, not_true_eq_false, not_false_eq_true, ite_z, ite_o, eq_self, Bool.false_eq_true, nI_leT, nI_leF, nI_ltT, nI_ltF, nI_ne, and_self, false_and, and_false]
  rfl
theorem ct_isTaken {s : Nat} (h0 : σ.1 t = some (eO 5 (.ref (t + 1) :: tF t pl ac ro))) (hs : s < 32) : aX d iX5_isTaken 0 [some (.ref t), some (.int (nI s))] [] σ Q ↔ Q (some (.int (if bt pl s = true then nI 1 else nI 0))) σ := by
  have hN : narrow .boolean (.int (nI 1)) = .int (nI 1) := by decide
  have hN0 : narrow .boolean (.int (nI 0)) = .int (nI 0) := by decide
  cases h : bt pl s <;> simp (disch := omega) only [sX5_isTaken_0, sX5_isTaken_1, sX5_isTaken_4, sX5_isTaken_5, sX5_isTaken_6, sX5_isTaken_7, sX5_isTaken_8, sX5_isTaken_11, sX5_isTaken_12, sX5_isTaken_15, sX5_isTaken_16, h0, b_and1, hN, hN0, h, Bool.true_eq_false, tF_l, tF_g0, tF_g1, tF_g2, tF_g3, tF_g4, tF_g5, tF_s3, tF_s4, tF_s5, aFld, aFds, aRow, aRowR, aRefs, aLn, if_true, List.getElem?_cons_zero, List.getElem?_cons_succ, List.set_cons_zero, List.set_cons_succ, List.length_cons, List.length_nil, Option.some.injEq, exists_eq_left', aput_same, aclr_none, aclr_int, aclr_ref, aclr_null, aret_some, aret_none, bz, bz0, bz1, true_and, and_true, vpT, nIc, nI_add, pk_mul, nI_sub', Nat.add_zero, Nat.zero_add, upd_same, upd_ne, if_false, not_true_eq_false, not_false_eq_true, ite_z, ite_o, eq_self, Bool.false_eq_true, nI_leT, nI_leF, nI_ltT, nI_ltF, nI_ne, and_self, false_and, and_false, Nat.reduceAdd, Nat.reduceSub, Nat.reduceMul, Nat.reduceLT, Nat.reduceLeDiff, true_and]
theorem ct_mostLike_loop (h0 : σ.1 t = some (eO 5 (.ref (t + 1) :: tF t pl ac ro))) (h1 : σ.1 (t + 1) = some (eI 16 ft)) (hf : ∀ w, w < 16 → ∃ x, ft w = nI x ∧ x < 4096) {v : Nat} (hv : v < 4096) : ∀ (k i : Nat) (l5 : Option Value) (Q : aQ), i + k = 16 → 1 ≤ i → (aX (d + 1) iX5_mostLike 8 [some (.ref t), some (.int (nI v)), some (.int (nI (mG ft (nI v) i))), some (.int (mBits (ft (mG ft (nI v) i) ^^^ nI v) 12)), some (.int (nI i)), l5] [] σ Q ↔ Q (some (.int (nI (mG ft (nI v) 16)))) σ)
  | 0, i, l5, Q, h, hi => by
    have e : i = 16 := by omega
    subst e
    rw [sX5_mostLike_8]
    simp (disch := omega) only [sX5_mostLike_0, sX5_mostLike_1, sX5_mostLike_2, sX5_mostLike_4, sX5_mostLike_5, sX5_mostLike_6, sX5_mostLike_10, sX5_mostLike_11, sX5_mostLike_14, sX5_mostLike_15, sX5_mostLike_18, sX5_mostLike_19, sX5_mostLike_22, sX5_mostLike_24, sX5_mostLike_25, sX5_mostLike_26, sX5_mostLike_27, sX5_mostLike_30, sX5_mostLike_32, sX5_mostLike_34, sX5_mostLike_35, sX5_mostLike_38, sX5_mostLike_40, sX5_mostLike_41, sX5_mostLike_43, sX5_mostLike_44, sX5_mostLike_47, sX5_mostLike_50, sX5_mostLike_51, h0, h1, tF_l, tF_g0, tF_g1, tF_g2, tF_g3, tF_g4, tF_g5, tF_s3, tF_s4, tF_s5, aFld, aFds, aRow, aRowR, aRefs, aLn, if_true, List.getElem?_cons_zero, List.getElem?_cons_succ, List.set_cons_zero, List.set_cons_succ, List.length_cons, List.length_nil, Option.some.injEq, exists_eq_left', aput_same, aclr_none, aclr_int, aclr_ref, aclr_null, aret_some, aret_none, bz, bz0, bz1, true_and, and_true, vpT, nIc, nI_add, pk_mul, nI_sub', Nat.add_zero, Nat.zero_add, upd_same, upd_ne, if_false, not_true_eq_false, not_false_eq_true, ite_z, ite_o, eq_self, Bool.false_eq_true, nI_leT, nI_leF, nI_ltT, nI_ltF, nI_ne, and_self, false_and, and_false, Nat.reduceAdd, Nat.reduceSub, Nat.reduceMul, Nat.reduceLT, Nat.reduceLeDiff, true_and]
  | k + 1, i, l5, Q, h, hi => by
    obtain ⟨x, hx, hx2⟩ := hf i (by omega)
    obtain ⟨z, hz, hz2⟩ := xor_4096 hx2 hv
    have hb : jBc (ft i ^^^ nI v) = mBits (ft i ^^^ nI v) 12 := by rw [hx, hz, jBc_eq hz2]
    have ih := fun l5 => ct_mostLike_loop h0 h1 hf hv k (i + 1) l5 Q (by omega) (by omega)
    rw [mG_succ ft (nI v) hi] at ih
    rw [sX5_mostLike_8]
    by_cases g1 : mBits (ft (mG ft (nI v) i) ^^^ nI v) 12 ≤ mBits (ft i ^^^ nI v) 12
    · have g2 : ¬ mBits (ft i ^^^ nI v) 12 < mBits (ft (mG ft (nI v) i) ^^^ nI v) 12 := Int32.not_lt.mpr g1
      rw [if_neg g2] at ih
      simp (disch := omega) only [sX5_mostLike_0, sX5_mostLike_1, sX5_mostLike_2, sX5_mostLike_4, sX5_mostLike_5, sX5_mostLike_6, sX5_mostLike_10, sX5_mostLike_11, sX5_mostLike_14, sX5_mostLike_15, sX5_mostLike_18, sX5_mostLike_19, sX5_mostLike_22, sX5_mostLike_24, sX5_mostLike_25, sX5_mostLike_26, sX5_mostLike_27, sX5_mostLike_30, sX5_mostLike_32, sX5_mostLike_34, sX5_mostLike_35, sX5_mostLike_38, sX5_mostLike_40, sX5_mostLike_41, sX5_mostLike_43, sX5_mostLike_44, sX5_mostLike_47, sX5_mostLike_50, sX5_mostLike_51, h0, h1, j_bitCount, hb, g1, tF_l, tF_g0, tF_g1, tF_g2, tF_g3, tF_g4, tF_g5, tF_s3, tF_s4, tF_s5, aFld, aFds, aRow, aRowR, aRefs, aLn, if_true, List.getElem?_cons_zero, List.getElem?_cons_succ, List.set_cons_zero, List.set_cons_succ, List.length_cons, List.length_nil, Option.some.injEq, exists_eq_left', aput_same, aclr_none, aclr_int, aclr_ref, aclr_null, aret_some, aret_none, bz, bz0, bz1, true_and, and_true, vpT, nIc, nI_add, pk_mul, nI_sub', Nat.add_zero, Nat.zero_add, upd_same, upd_ne, if_false, not_true_eq_false, not_false_eq_true, ite_z, ite_o, eq_self, Bool.false_eq_true, nI_leT, nI_leF, nI_ltT, nI_ltF, nI_ne, and_self, false_and, and_false, Nat.reduceAdd, Nat.reduceSub, Nat.reduceMul, Nat.reduceLT, Nat.reduceLeDiff, true_and]
      exact ih _
    · have g2 : mBits (ft i ^^^ nI v) 12 < mBits (ft (mG ft (nI v) i) ^^^ nI v) 12 := Int32.not_le.mp g1
      rw [if_pos g2] at ih
      simp (disch := omega) only [sX5_mostLike_0, sX5_mostLike_1, sX5_mostLike_2, sX5_mostLike_4, sX5_mostLike_5, sX5_mostLike_6, sX5_mostLike_10, sX5_mostLike_11, sX5_mostLike_14, sX5_mostLike_15, sX5_mostLike_18, sX5_mostLike_19, sX5_mostLike_22, sX5_mostLike_24, sX5_mostLike_25, sX5_mostLike_26, sX5_mostLike_27, sX5_mostLike_30, sX5_mostLike_32, sX5_mostLike_34, sX5_mostLike_35, sX5_mostLike_38, sX5_mostLike_40, sX5_mostLike_41, sX5_mostLike_43, sX5_mostLike_44, sX5_mostLike_47, sX5_mostLike_50, sX5_mostLike_51, h0, h1, j_bitCount, hb, g1, tF_l, tF_g0, tF_g1, tF_g2, tF_g3, tF_g4, tF_g5, tF_s3, tF_s4, tF_s5, aFld, aFds, aRow, aRowR, aRefs, aLn, if_true, List.getElem?_cons_zero, List.getElem?_cons_succ, List.set_cons_zero, List.set_cons_succ, List.length_cons, List.length_nil, Option.some.injEq, exists_eq_left', aput_same, aclr_none, aclr_int, aclr_ref, aclr_null, aret_some, aret_none, bz, bz0, bz1, true_and, and_true, vpT, nIc, nI_add, pk_mul, nI_sub', Nat.add_zero, Nat.zero_add, upd_same, upd_ne, if_false, not_true_eq_false, not_false_eq_true, ite_z, ite_o, eq_self, Bool.false_eq_true, nI_leT, nI_leF, nI_ltT, nI_ltF, nI_ne, and_self, false_and, and_false, Nat.reduceAdd, Nat.reduceSub, Nat.reduceMul, Nat.reduceLT, Nat.reduceLeDiff, true_and]
      exact ih _
theorem ct_mostLike (h0 : σ.1 t = some (eO 5 (.ref (t + 1) :: tF t pl ac ro))) (h1 : σ.1 (t + 1) = some (eI 16 ft)) (hf : ∀ w, w < 16 → ∃ x, ft w = nI x ∧ x < 4096) {v : Nat} (hv : v < 4096) : aX (d + 1) iX5_mostLike 0 [some (.ref t), some (.int (nI v)), none, none, none, none] [] σ Q ↔ Q (some (.int (nI (mG ft (nI v) 16)))) σ := by
  obtain ⟨x, hx, hx2⟩ := hf 0 (by omega)
  obtain ⟨z, hz, hz2⟩ := xor_4096 hx2 hv
  have hb : jBc (ft 0 ^^^ nI v) = mBits (ft 0 ^^^ nI v) 12 := by rw [hx, hz, jBc_eq hz2]
  have h13 : (nI 13 ≤ mBits (ft 0 ^^^ nI v) 12) = False := by rw [hx, hz]; exact mBits_13 hz2
  have ih := ct_mostLike_loop (d := d) h0 h1 hf hv 15 1 (some (.int (mBits (ft 0 ^^^ nI v) 12))) Q (by omega) (by omega)
  rw [show mG ft (nI v) 1 = 0 by simp [mG]] at ih
  simp only [sX5_mostLike_0, sX5_mostLike_1, sX5_mostLike_2, sX5_mostLike_4, sX5_mostLike_5, sX5_mostLike_6, aFld, aFds, aRow, aRowR, aRefs, aLn, if_true, List.getElem?_cons_zero, List.getElem?_cons_succ, List.set_cons_zero, List.set_cons_succ, List.length_cons, List.length_nil, Option.some.injEq, exists_eq_left', aput_same, aclr_none, aclr_int, aclr_ref, aclr_null, aret_some, aret_none, bz, bz0, bz1, true_and, and_true, vpT, nIc, nI_add, pk_mul, nI_sub', Nat.add_zero, Nat.zero_add, upd_same, upd_ne, if_false, not_true_eq_false, not_false_eq_true, ite_z, ite_o, eq_self, Bool.false_eq_true, nI_leT, nI_leF, nI_ltT, nI_ltF, nI_ne, and_self, false_and, and_false]
  rw [sX5_mostLike_8]
  simp (disch := omega) only [sX5_mostLike_0, sX5_mostLike_1, sX5_mostLike_2, sX5_mostLike_4, sX5_mostLike_5, sX5_mostLike_6, sX5_mostLike_10, sX5_mostLike_11, sX5_mostLike_14, sX5_mostLike_15, sX5_mostLike_18, sX5_mostLike_19, sX5_mostLike_22, sX5_mostLike_24, sX5_mostLike_25, sX5_mostLike_26, sX5_mostLike_27, sX5_mostLike_30, sX5_mostLike_32, sX5_mostLike_34, sX5_mostLike_35, sX5_mostLike_38, sX5_mostLike_40, sX5_mostLike_41, sX5_mostLike_43, sX5_mostLike_44, sX5_mostLike_47, sX5_mostLike_50, sX5_mostLike_51, h0, h1, j_bitCount, hb, h13, tF_l, tF_g0, tF_g1, tF_g2, tF_g3, tF_g4, tF_g5, tF_s3, tF_s4, tF_s5, aFld, aFds, aRow, aRowR, aRefs, aLn, if_true, List.getElem?_cons_zero, List.getElem?_cons_succ, List.set_cons_zero, List.set_cons_succ, List.length_cons, List.length_nil, Option.some.injEq, exists_eq_left', aput_same, aclr_none, aclr_int, aclr_ref, aclr_null, aret_some, aret_none, bz, bz0, bz1, true_and, and_true, vpT, nIc, nI_add, pk_mul, nI_sub', Nat.add_zero, Nat.zero_add, upd_same, upd_ne, if_false, not_true_eq_false, not_false_eq_true, ite_z, ite_o, eq_self, Bool.false_eq_true, nI_leT, nI_leF, nI_ltT, nI_ltF, nI_ne, and_self, false_and, and_false, Nat.reduceAdd, Nat.reduceSub, Nat.reduceMul, Nat.reduceLT, Nat.reduceLeDiff, true_and]
  exact ih
theorem ct_difference (h0 : σ.1 t = some (eO 5 (.ref (t + 1) :: tF t pl ac ro))) (h1 : σ.1 (t + 1) = some (eI 16 ft)) {v w : Nat} (hv : v < 16) (hw : w < 16) : aX (d + 1) iX5_difference 0 [some (.ref t), some (.int (nI v)), some (.int (nI w))] [] σ Q ↔ Q (some (.int (jBc (ft v ^^^ ft w)))) σ := by
  simp (disch := omega) only [sX5_difference_0, sX5_difference_1, sX5_difference_4, sX5_difference_5, sX5_difference_8, sX5_difference_9, sX5_difference_12, sX5_difference_13, sX5_difference_16, sX5_difference_17, sX5_difference_20, h0, ch_valueAt h1, j_bitCount, tF_l, tF_g0, tF_g1, tF_g2, tF_g3, tF_g4, tF_g5, tF_s3, tF_s4, tF_s5, aFld, aFds, aRow, aRowR, aRefs, aLn, if_true, List.getElem?_cons_zero, List.getElem?_cons_succ, List.set_cons_zero, List.set_cons_succ, List.length_cons, List.length_nil, Option.some.injEq, exists_eq_left', aput_same, aclr_none, aclr_int, aclr_ref, aclr_null, aret_some, aret_none, bz, bz0, bz1, true_and, and_true, vpT, nIc, nI_add, pk_mul, nI_sub', Nat.add_zero, Nat.zero_add, upd_same, upd_ne, if_false, not_true_eq_false, not_false_eq_true, ite_z, ite_o, eq_self, Bool.false_eq_true, nI_leT, nI_leF, nI_ltT, nI_ltF, nI_ne, and_self, false_and, and_false, Nat.reduceAdd, Nat.reduceSub, Nat.reduceMul, Nat.reduceLT, Nat.reduceLeDiff, true_and]
/-- who gets it next: the class's own look round the table -/
theorem ct_nextSeat_loop {ps sm : Int32} {st : Nat → Int32} (hps : ∀ q, q < 8 → bt ps q = (mTk st (nI q) && !bt sm q)) {s : Nat} (hs : s < 8) {x : Value} {y : Option Value} : ∀ (k i : Nat) (Q : aQ), i + k = 8 → (aX d iX5_nextSeat 20 [some x, y, some (.int ps), some (.int (nI ((s + i) % 8))), some (.int (nI i))] [] σ Q ↔ Q (some (.int (mNx st sm s k))) σ)
  | 0, i, Q, h => by
    have e : i = 8 := by omega
    subst e
    rw [sX5_nextSeat_20]
    simp (disch := omega) only [sX5_nextSeat_22, sX5_nextSeat_24, sX5_nextSeat_59, sX5_nextSeat_61, mNx, tF_l, tF_g0, tF_g1, tF_g2, tF_g3, tF_g4, tF_g5, tF_s3, tF_s4, tF_s5, aFld, aFds, aRow, aRowR, aRefs, aLn, if_true, List.getElem?_cons_zero, List.getElem?_cons_succ, List.set_cons_zero, List.set_cons_succ, List.length_cons, List.length_nil, Option.some.injEq, exists_eq_left', aput_same, aclr_none, aclr_int, aclr_ref, aclr_null, aret_some, aret_none, bz, bz0, bz1, true_and, and_true, vpT, nIc, nI_add, pk_mul, nI_sub', Nat.add_zero, Nat.zero_add, upd_same, upd_ne, if_false, not_true_eq_false, not_false_eq_true, ite_z, ite_o, eq_self, Bool.false_eq_true, nI_leT, nI_leF, nI_ltT, nI_ltF, nI_ne, and_self, false_and, and_false, Nat.reduceAdd, Nat.reduceSub, Nat.reduceMul, Nat.reduceLT, Nat.reduceLeDiff, true_and]
  | k + 1, i, Q, h => by
    have ih := ct_nextSeat_loop hps hs (x := x) (y := y) k (i + 1) Q (by omega)
    have hq := hps ((s + (i + 1)) % 8) (by omega)
    rw [mNx, show 8 - k = i + 1 by omega]
    rw [sX5_nextSeat_20]
    have hc : (mTk st (nI ((s + (i + 1)) % 8)) = true ∧ sm >>> (nI ((s + (i + 1)) % 8) &&& 31) &&& nI 1 = nI 0) = (bt ps ((s + (i + 1)) % 8) = true) := by
      rw [b_shr1_0 sm (show (s + (i + 1)) % 8 < 32 by omega), hq]
      cases mTk st (nI ((s + (i + 1)) % 8)) <;> cases bt sm ((s + (i + 1)) % 8) <;> simp
    have hb := b_and1 ps (show (s + (i + 1)) % 8 < 32 by omega)
    by_cases g : (s + i) % 8 = 7
    · have e : (s + (i + 1)) % 8 = 0 := by omega
      rw [e] at hb hc ih ⊢
      by_cases gb : bt ps 0 = true
      · rw [if_pos (hc.mpr gb)]
        simp (disch := omega) only [sX5_nextSeat_22, sX5_nextSeat_24, sX5_nextSeat_27, sX5_nextSeat_28, sX5_nextSeat_29, sX5_nextSeat_30, sX5_nextSeat_32, sX5_nextSeat_35, sX5_nextSeat_36, sX5_nextSeat_37, sX5_nextSeat_38, sX5_nextSeat_41, sX5_nextSeat_42, sX5_nextSeat_43, sX5_nextSeat_44, sX5_nextSeat_45, sX5_nextSeat_46, sX5_nextSeat_47, sX5_nextSeat_48, sX5_nextSeat_51, sX5_nextSeat_52, g, hb, gb, Bool.true_eq_false, tF_l, tF_g0, tF_g1, tF_g2, tF_g3, tF_g4, tF_g5, tF_s3, tF_s4, tF_s5, aFld, aFds, aRow, aRowR, aRefs, aLn, if_true, List.getElem?_cons_zero, List.getElem?_cons_succ, List.set_cons_zero, List.set_cons_succ, List.length_cons, List.length_nil, Option.some.injEq, exists_eq_left', aput_same, aclr_none, aclr_int, aclr_ref, aclr_null, aret_some, aret_none, bz, bz0, bz1, true_and, and_true, vpT, nIc, nI_add, pk_mul, nI_sub', Nat.add_zero, Nat.zero_add, upd_same, upd_ne, if_false, not_true_eq_false, not_false_eq_true, ite_z, ite_o, eq_self, Bool.false_eq_true, nI_leT, nI_leF, nI_ltT, nI_ltF, nI_ne, and_self, false_and, and_false, Nat.reduceAdd, Nat.reduceSub, Nat.reduceMul, Nat.reduceLT, Nat.reduceLeDiff, true_and]
      · rw [if_neg (fun z => gb (hc.mp z)), ← ih]
        simp (disch := omega) only [sX5_nextSeat_22, sX5_nextSeat_24, sX5_nextSeat_27, sX5_nextSeat_28, sX5_nextSeat_29, sX5_nextSeat_30, sX5_nextSeat_32, sX5_nextSeat_35, sX5_nextSeat_36, sX5_nextSeat_37, sX5_nextSeat_38, sX5_nextSeat_41, sX5_nextSeat_42, sX5_nextSeat_43, sX5_nextSeat_44, sX5_nextSeat_45, sX5_nextSeat_46, sX5_nextSeat_47, sX5_nextSeat_48, sX5_nextSeat_51, sX5_nextSeat_52, sX5_nextSeat_53, sX5_nextSeat_56, g, hb, Bool.eq_false_iff.mpr gb, tF_l, tF_g0, tF_g1, tF_g2, tF_g3, tF_g4, tF_g5, tF_s3, tF_s4, tF_s5, aFld, aFds, aRow, aRowR, aRefs, aLn, if_true, List.getElem?_cons_zero, List.getElem?_cons_succ, List.set_cons_zero, List.set_cons_succ, List.length_cons, List.length_nil, Option.some.injEq, exists_eq_left', aput_same, aclr_none, aclr_int, aclr_ref, aclr_null, aret_some, aret_none, bz, bz0, bz1, true_and, and_true, vpT, nIc, nI_add, pk_mul, nI_sub', Nat.add_zero, Nat.zero_add, upd_same, upd_ne, if_false, not_true_eq_false, not_false_eq_true, ite_z, ite_o, eq_self, Bool.false_eq_true, nI_leT, nI_leF, nI_ltT, nI_ltF, nI_ne, and_self, false_and, and_false, Nat.reduceAdd, Nat.reduceSub, Nat.reduceMul, Nat.reduceLT, Nat.reduceLeDiff, true_and]
    · have e : (s + (i + 1)) % 8 = (s + i) % 8 + 1 := by omega
      rw [e] at hb hc ih ⊢
      have g8 : (s + i) % 8 < 7 := by omega
      by_cases gb : bt ps ((s + i) % 8 + 1) = true
      · rw [if_pos (hc.mpr gb)]
        simp (disch := omega) only [sX5_nextSeat_22, sX5_nextSeat_24, sX5_nextSeat_27, sX5_nextSeat_28, sX5_nextSeat_29, sX5_nextSeat_30, sX5_nextSeat_32, sX5_nextSeat_35, sX5_nextSeat_36, sX5_nextSeat_37, sX5_nextSeat_38, sX5_nextSeat_41, sX5_nextSeat_42, sX5_nextSeat_43, sX5_nextSeat_44, sX5_nextSeat_45, sX5_nextSeat_46, sX5_nextSeat_47, sX5_nextSeat_48, sX5_nextSeat_51, sX5_nextSeat_52, hb, gb, Bool.true_eq_false, tF_l, tF_g0, tF_g1, tF_g2, tF_g3, tF_g4, tF_g5, tF_s3, tF_s4, tF_s5, aFld, aFds, aRow, aRowR, aRefs, aLn, if_true, List.getElem?_cons_zero, List.getElem?_cons_succ, List.set_cons_zero, List.set_cons_succ, List.length_cons, List.length_nil, Option.some.injEq, exists_eq_left', aput_same, aclr_none, aclr_int, aclr_ref, aclr_null, aret_some, aret_none, bz, bz0, bz1, true_and, and_true, vpT, nIc, nI_add, pk_mul, nI_sub', Nat.add_zero, Nat.zero_add, upd_same, upd_ne, if_false, not_true_eq_false, not_false_eq_true, ite_z, ite_o, eq_self, Bool.false_eq_true, nI_leT, nI_leF, nI_ltT, nI_ltF, nI_ne, and_self, false_and, and_false, Nat.reduceAdd, Nat.reduceSub, Nat.reduceMul, Nat.reduceLT, Nat.reduceLeDiff, true_and]
      · rw [if_neg (fun z => gb (hc.mp z)), ← ih]
        simp (disch := omega) only [sX5_nextSeat_22, sX5_nextSeat_24, sX5_nextSeat_27, sX5_nextSeat_28, sX5_nextSeat_29, sX5_nextSeat_30, sX5_nextSeat_32, sX5_nextSeat_35, sX5_nextSeat_36, sX5_nextSeat_37, sX5_nextSeat_38, sX5_nextSeat_41, sX5_nextSeat_42, sX5_nextSeat_43, sX5_nextSeat_44, sX5_nextSeat_45, sX5_nextSeat_46, sX5_nextSeat_47, sX5_nextSeat_48, sX5_nextSeat_51, sX5_nextSeat_52, sX5_nextSeat_53, sX5_nextSeat_56, hb, Bool.eq_false_iff.mpr gb, tF_l, tF_g0, tF_g1, tF_g2, tF_g3, tF_g4, tF_g5, tF_s3, tF_s4, tF_s5, aFld, aFds, aRow, aRowR, aRefs, aLn, if_true, List.getElem?_cons_zero, List.getElem?_cons_succ, List.set_cons_zero, List.set_cons_succ, List.length_cons, List.length_nil, Option.some.injEq, exists_eq_left', aput_same, aclr_none, aclr_int, aclr_ref, aclr_null, aret_some, aret_none, bz, bz0, bz1, true_and, and_true, vpT, nIc, nI_add, pk_mul, nI_sub', Nat.add_zero, Nat.zero_add, upd_same, upd_ne, if_false, not_true_eq_false, not_false_eq_true, ite_z, ite_o, eq_self, Bool.false_eq_true, nI_leT, nI_leF, nI_ltT, nI_ltF, nI_ne, and_self, false_and, and_false, Nat.reduceAdd, Nat.reduceSub, Nat.reduceMul, Nat.reduceLT, Nat.reduceLeDiff, true_and]
end CT
