/-! THE REFERENCE: reading a text -/
def pOK (pd : Nat → Int32) (L : Nat) : Prop := L ≤ 80 ∧ ∀ q, q < L → ∃ c, pd q = nI c ∧ 33 ≤ c ∧ c ≤ 126
def cK (pd : Nat → Int32) (L q : Nat) : Nat := if q < L then (pd q).toNatClampNeg else 0
def cR (c : Nat) : Int32 := if c = 0 then -1 else nI c
def dg (lo hi c : Nat) : Bool := decide (48 + lo ≤ c ∧ c ≤ 48 + hi)
theorem cK_lt {pd : Nat → Int32} {L q : Nat} (hp : pOK pd L) (h : q < L) : pd q = nI (cK pd L q) ∧ 33 ≤ cK pd L q ∧ cK pd L q ≤ 126 := by
  obtain ⟨c, hc, h1, h2⟩ := hp.2 q h
  unfold cK
  rw [if_pos h, hc, nIc (by omega)]
  exact ⟨rfl, h1, h2⟩
theorem cK_ge {pd : Nat → Int32} {L q : Nat} (h : L ≤ q) : cK pd L q = 0 := if_neg (by omega)
theorem cK_le {pd : Nat → Int32} {L : Nat} (hp : pOK pd L) (q : Nat) : cK pd L q ≤ 126 := by
  rcases Nat.lt_or_ge q L with h | h
  · exact (cK_lt hp h).2.2
  · rw [cK_ge h]; omega
theorem cK_pos {pd : Nat → Int32} {L q : Nat} (h : cK pd L q ≠ 0) : q < L := by
  rcases Nat.lt_or_ge q L with g | g
  · exact g
  · exact absurd (cK_ge g) h
theorem cR_eq {c c0 : Nat} (h : c ≤ 126) (h0 : 1 ≤ c0) (h1 : c0 ≤ 126) : (cR c = nI c0) = (c = c0) := by
  unfold cR
  by_cases g : c = 0
  · subst g
    refine propext ⟨fun e => ?_, fun e => ?_⟩
    · exact absurd e ((by decide +kernel : ∀ c0, c0 ≤ 126 → ¬ (-1 : Int32) = nI c0) c0 h1)
    · omega
  · rw [if_neg g, nI_eqL (by omega) (by omega)]
theorem cR_dg {c lo hi : Nat} (h : c ≤ 126) (h1 : lo ≤ 9) (h2 : hi ≤ 9) : (nI lo ≤ cR c - nI 48 ∧ cR c - nI 48 ≤ nI hi) = (dg lo hi c = true) := by
  have := (by decide +kernel : ∀ c, c < 127 → ∀ lo, lo < 10 → ∀ hi, hi < 10 → (decide (nI lo ≤ cR c - nI 48 ∧ cR c - nI 48 ≤ nI hi)) = dg lo hi c) c (by omega) lo (by omega) hi (by omega)
  rw [← this, decide_eq_true_eq]
theorem cR_dg2 {c : Nat} (h : c ≤ 126) : (nI 48 ≤ cR c ∧ cR c ≤ nI 57) = (dg 0 9 c = true) := by
  have := (by decide +kernel : ∀ c, c < 127 → (decide (nI 48 ≤ cR c ∧ cR c ≤ nI 57)) = dg 0 9 c) c (by omega)
  rw [← this, decide_eq_true_eq]
theorem cR_sub {c lo hi : Nat} (h : dg lo hi c = true) : cR c - nI 48 = nI (c - 48) := by
  unfold dg at h
  rw [decide_eq_true_eq] at h
  unfold cR
  rw [if_neg (by omega)]
  exact nI_sub' (by omega)
theorem dg_le {lo hi c : Nat} (h : dg lo hi c = true) : 48 + lo ≤ c ∧ c ≤ 48 + hi := by
  unfold dg at h
  exact decide_eq_true_eq.mp h
/-- the reference's own numbers, one by one -/
def pN (k : Nat → Nat) : Nat → Nat → Nat → Nat × Nat
  | 0, v, p => (v, p)
  | f + 1, v, p => if v = 0 then (v, p) else if dg 0 9 (k p) = true then pN k f (10 * v + (k p - 48)) (p + 1) else (v, p)
theorem pN_le (k : Nat → Nat) : ∀ f v p, (pN k f v p).2 ≤ p + f ∧ p ≤ (pN k f v p).2
  | 0, v, p => ⟨Nat.le_refl p, Nat.le_refl p⟩
  | f + 1, v, p => by
    have ih := pN_le k f (10 * v + (k p - 48)) (p + 1)
    rw [pN]
    split
    · exact ⟨by simp, by simp⟩
    · split
      · exact ⟨by omega, by omega⟩
      · exact ⟨by simp, by simp⟩
def nV (k : Nat → Nat) (p : Nat) : Nat := (pN k 3 (k p - 48) (p + 1)).1
def nE (k : Nat → Nat) (p : Nat) : Nat := (pN k 3 (k p - 48) (p + 1)).2
theorem nE_le (k : Nat → Nat) (p : Nat) : nE k p ≤ p + 4 ∧ p + 1 ≤ nE k p := by
  have := pN_le k 3 (k p - 48) (p + 1)
  unfold nE
  omega
theorem pN_lt {k : Nat → Nat} : ∀ f v p, (pN k f v p).1 < (v + 1) * 10 ^ f
  | 0, v, p => by rw [pN]; simp
  | f + 1, v, p => by
    have h0 : v < (v + 1) * 10 ^ (f + 1) := Nat.lt_of_lt_of_le (Nat.lt_succ_self v) (Nat.le_mul_of_pos_right _ (Nat.pow_pos (by decide)))
    rw [pN]
    split
    · exact h0
    · split
      · rename_i h1 h2
        have hg := dg_le h2
        refine Nat.lt_of_lt_of_le (pN_lt f _ (p + 1)) ?_
        rw [Nat.pow_succ, Nat.mul_comm (10 ^ f) 10, ← Nat.mul_assoc]
        exact Nat.mul_le_mul_right _ (by omega)
      · exact h0
theorem nV_lt {k : Nat → Nat} {p : Nat} (h : dg 0 9 (k p) = true) : nV k p < 10000 := by
  have hg := dg_le h
  have := pN_lt (k := k) 3 (k p - 48) (p + 1)
  have h2 : (k p - 48 + 1) * 10 ^ 3 ≤ 10 * 10 ^ 3 := Nat.mul_le_mul_right _ (by omega)
  unfold nV
  omega
def pO : Type := Bool × Nat × Int32 × Int32 × Int32
def rOk (r : pO) : Bool := r.1
def rPos (r : pO) : Nat := r.2.1
def rLe (r : pO) : Int32 := r.2.2.1
def rFi (r : pO) : Int32 := r.2.2.2.1
def rSe (r : pO) : Int32 := r.2.2.2.2
def mkO (ok : Bool) (pos : Nat) (le fi se : Int32) : pO := (ok, pos, le, fi, se)
def rd (k : Nat → Nat) (p : Nat) (fi se : Int32) : pO :=
  if k p = 43 then
    if dg 0 7 (k (p + 1)) = true then
      if k (p + 1 + 1) = 61 then
        if dg 0 9 (k (p + 1 + 1 + 1)) = true then mkO true (nE k (p + 1 + 1 + 1)) (nI 43) (nI (k (p + 1) - 48)) (nI (nV k (p + 1 + 1 + 1)))
        else mkO false (p + 1 + 1 + 1) (nI 43) (nI (k (p + 1) - 48)) (-1)
      else mkO true (p + 1 + 1) (nI 43) (nI (k (p + 1) - 48)) (-6)
    else mkO false (p + 1) (nI 43) (-1) (-6)
  else if k p = 45 then
    if dg 0 7 (k (p + 1)) = true then mkO true (p + 1 + 1) (nI 45) (nI (k (p + 1) - 48)) se else mkO false (p + 1) (nI 45) (-1) se
  else if k p = 98 then
    if dg 0 7 (k (p + 1)) = true then
      if k (p + 1 + 1) = 61 then
        if dg 0 9 (k (p + 1 + 1 + 1)) = true then mkO true (nE k (p + 1 + 1 + 1)) (nI 98) (nI (k (p + 1) - 48)) (nI (nV k (p + 1 + 1 + 1)))
        else mkO false (p + 1 + 1 + 1) (nI 98) (nI (k (p + 1) - 48)) (-1)
      else mkO false (p + 1 + 1) (nI 98) (nI (k (p + 1) - 48)) (-1)
    else mkO false (p + 1) (nI 98) (-1) (-1)
  else if k p = 99 then mkO true (p + 1) (nI 99) fi se
  else if k p = 114 then
    if dg 1 9 (k (p + 1)) = true then mkO true (p + 1 + 1) (nI 114) (nI (k (p + 1) - 48)) se else mkO true (p + 1) (nI 114) (nI 1) se
  else if k p = 116 then
    if dg 0 9 (k (p + 1)) = true then
      if k (nE k (p + 1)) = 61 then
        if dg 0 9 (k (nE k (p + 1) + 1)) = true then mkO true (nE k (nE k (p + 1) + 1)) (nI 116) (nI (nV k (p + 1))) (nI (nV k (nE k (p + 1) + 1)))
        else mkO false (nE k (p + 1) + 1) (nI 116) (nI (nV k (p + 1))) (-1)
      else mkO false (nE k (p + 1)) (nI 116) (nI (nV k (p + 1))) (-1)
    else mkO false (p + 1) (nI 116) (-1) (-1)
  else mkO false p (cR (k p)) fi se
section MX2
variable {d : Nat} {σ : aS} {Q : aQ} {m : Nat} {st kp hi sl sv pd : Nat → Int32} {at' le fi se : Int32} {rc L p : Nat}
theorem mF_fold {rc' pl' : Int32} : [Value.ref (m + 2), Value.ref (m + 3), Value.int rc', Value.ref (m + 4), Value.ref (m + 5), Value.ref (m + 6), Value.int pl', Value.int at', Value.int le, Value.int fi, Value.int se] = mF m rc' pl' at' le fi se := rfl
theorem mp_char (hp : pOK pd L) (hb : p < 1000) : aX d iX7_character 0 [some (.ref m), some (.int (nI p))] [] (mT σ m (mF m (nI rc) (nI L) at' le fi se) kp hi sl sv pd st) Q ↔ Q (some (.int (cR (cK pd L p)))) (mT σ m (mF m (nI rc) (nI L) at' le fi se) kp hi sl sv pd st) := by
  have h80 := hp.1
  rcases Nat.lt_or_ge p L with h | h
  · obtain ⟨h1, h2, h3⟩ := cK_lt hp h
    have e : cR (cK pd L p) = pd p := by rw [h1]; exact if_neg (by omega)
    rw [e]
    simp (disch := omega) only [sX7_character_0, sX7_character_1, sX7_character_2, sX7_character_5, sX7_character_8, sX7_character_9, sX7_character_12, sX7_character_13, sX7_character_14, sX7_character_17, sX7_character_18, mT_0, mT_1, mT_2, mT_3, mT_4, mT_5, mT_6, mT_w0, mT_w1, mT_w2, mT_w3, mT_w4, mT_w5, mT_w6, mF, aFld, aFds, aRow, aRowR, aRefs, aLn, if_true, List.getElem?_cons_zero, List.getElem?_cons_succ, List.set_cons_zero, List.set_cons_succ, List.length_cons, List.length_nil, Option.some.injEq, exists_eq_left', aput_same, aclr_none, aclr_int, aclr_ref, aclr_null, aret_some, aret_none, bz, bz0, bz1, true_and, and_true, vpT, nIc, nI_add, pk_mul, nI_sub', Nat.add_zero, Nat.zero_add, upd_same, upd_ne, if_false, not_true_eq_false, not_false_eq_true, ite_z, ite_o, eq_self, Bool.false_eq_true, nI_leT, nI_leF, nI_ltT, nI_ltF, nI_ne, and_self, false_and, and_false, Nat.reduceAdd, Nat.reduceSub, Nat.reduceMul, Nat.reduceLT, Nat.reduceLeDiff, true_and]
  · simp (disch := omega) only [sX7_character_0, sX7_character_1, sX7_character_2, sX7_character_5, sX7_character_8, sX7_character_9, sX7_character_12, sX7_character_13, sX7_character_14, sX7_character_17, sX7_character_18, cK_ge, cR, mT_0, mT_1, mT_2, mT_3, mT_4, mT_5, mT_6, mT_w0, mT_w1, mT_w2, mT_w3, mT_w4, mT_w5, mT_w6, mF, aFld, aFds, aRow, aRowR, aRefs, aLn, if_true, List.getElem?_cons_zero, List.getElem?_cons_succ, List.set_cons_zero, List.set_cons_succ, List.length_cons, List.length_nil, Option.some.injEq, exists_eq_left', aput_same, aclr_none, aclr_int, aclr_ref, aclr_null, aret_some, aret_none, bz, bz0, bz1, true_and, and_true, vpT, nIc, nI_add, pk_mul, nI_sub', Nat.add_zero, Nat.zero_add, upd_same, upd_ne, if_false, not_true_eq_false, not_false_eq_true, ite_z, ite_o, eq_self, Bool.false_eq_true, nI_leT, nI_leF, nI_ltT, nI_ltF, nI_ne, and_self, false_and, and_false, Nat.reduceAdd, Nat.reduceSub, Nat.reduceMul, Nat.reduceLT, Nat.reduceLeDiff, true_and]
theorem mp_next (hp : pOK pd L) (hb : p < 1000) {c0 : Nat} (h0 : 1 ≤ c0) (h1 : c0 ≤ 126) : aX (d + 1) iX7_isNext 0 [some (.ref m), some (.int (nI c0)), none] [] (mT σ m (mF m (nI rc) (nI L) (nI p) le fi se) kp hi sl sv pd st) Q ↔ if cK pd L p = c0 then Q (some (.int (nI 1))) (mT σ m (mF m (nI rc) (nI L) (nI (p + 1)) le fi se) kp hi sl sv pd st) else Q (some (.int (nI 0))) (mT σ m (mF m (nI rc) (nI L) (nI p) le fi se) kp hi sl sv pd st) := by
  have hk := cK_le hp p
  by_cases g : cK pd L p = c0
  · rw [if_pos g]
    have e : cR c0 = nI c0 := if_neg (by omega)
    simp (disch := omega) only [sX7_isNext_0, sX7_isNext_1, sX7_isNext_2, sX7_isNext_5, sX7_isNext_8, sX7_isNext_9, sX7_isNext_12, sX7_isNext_13, sX7_isNext_16, sX7_isNext_17, sX7_isNext_18, sX7_isNext_19, sX7_isNext_19i, sX7_isNext_20, sX7_isNext_23, sX7_isNext_24, sX7_isNext_27, sX7_isNext_28, sX7_isNext_31, sX7_isNext_32, sX7_isNext_33, sX7_isNext_36, sX7_isNext_37, aIsT mT_0, mT_0, mF, aFld, aFds, aRow, aRowR, aRefs, aLn, if_true, List.getElem?_cons_zero, List.getElem?_cons_succ, List.set_cons_zero, List.set_cons_succ, List.length_cons, List.length_nil, Option.some.injEq, exists_eq_left', aput_same, aclr_none, aclr_int, aclr_ref, aclr_null, aret_some, aret_none, bz, bz0, bz1, true_and, and_true, vpT, nIc, nI_add, pk_mul, nI_sub', Nat.add_zero, Nat.zero_add, upd_same, upd_ne, if_false, not_true_eq_false, not_false_eq_true, ite_z, ite_o, eq_self, Bool.false_eq_true, nI_leT, nI_leF, nI_ltT, nI_ltF, nI_ne, and_self, false_and, and_false, Nat.reduceAdd, Nat.reduceSub, Nat.reduceMul, Nat.reduceLT, Nat.reduceLeDiff, true_and]
    simp (disch := omega) only [mF_fold, mp_char hp hb, g, e]
    simp (disch := omega) only [sX7_isNext_0, sX7_isNext_1, sX7_isNext_2, sX7_isNext_5, sX7_isNext_8, sX7_isNext_9, sX7_isNext_12, sX7_isNext_13, sX7_isNext_16, sX7_isNext_17, sX7_isNext_18, sX7_isNext_19, sX7_isNext_19i, sX7_isNext_20, sX7_isNext_23, sX7_isNext_24, sX7_isNext_27, sX7_isNext_28, sX7_isNext_31, sX7_isNext_32, sX7_isNext_33, sX7_isNext_36, sX7_isNext_37, mT_0, mT_1, mT_2, mT_3, mT_4, mT_5, mT_6, mT_w0, mT_w1, mT_w2, mT_w3, mT_w4, mT_w5, mT_w6, mF, aFld, aFds, aRow, aRowR, aRefs, aLn, if_true, List.getElem?_cons_zero, List.getElem?_cons_succ, List.set_cons_zero, List.set_cons_succ, List.length_cons, List.length_nil, Option.some.injEq, exists_eq_left', aput_same, aclr_none, aclr_int, aclr_ref, aclr_null, aret_some, aret_none, bz, bz0, bz1, true_and, and_true, vpT, nIc, nI_add, pk_mul, nI_sub', Nat.add_zero, Nat.zero_add, upd_same, upd_ne, if_false, not_true_eq_false, not_false_eq_true, ite_z, ite_o, eq_self, Bool.false_eq_true, nI_leT, nI_leF, nI_ltT, nI_ltF, nI_ne, and_self, false_and, and_false, Nat.reduceAdd, Nat.reduceSub, Nat.reduceMul, Nat.reduceLT, Nat.reduceLeDiff, true_and]
  · rw [if_neg g]
    simp (disch := omega) only [sX7_isNext_0, sX7_isNext_1, sX7_isNext_2, sX7_isNext_5, sX7_isNext_8, sX7_isNext_9, sX7_isNext_12, sX7_isNext_13, sX7_isNext_16, sX7_isNext_17, sX7_isNext_18, sX7_isNext_19, sX7_isNext_19i, sX7_isNext_20, sX7_isNext_23, sX7_isNext_24, sX7_isNext_27, sX7_isNext_28, sX7_isNext_31, sX7_isNext_32, sX7_isNext_33, sX7_isNext_36, sX7_isNext_37, aIsT mT_0, mT_0, mF, aFld, aFds, aRow, aRowR, aRefs, aLn, if_true, List.getElem?_cons_zero, List.getElem?_cons_succ, List.set_cons_zero, List.set_cons_succ, List.length_cons, List.length_nil, Option.some.injEq, exists_eq_left', aput_same, aclr_none, aclr_int, aclr_ref, aclr_null, aret_some, aret_none, bz, bz0, bz1, true_and, and_true, vpT, nIc, nI_add, pk_mul, nI_sub', Nat.add_zero, Nat.zero_add, upd_same, upd_ne, if_false, not_true_eq_false, not_false_eq_true, ite_z, ite_o, eq_self, Bool.false_eq_true, nI_leT, nI_leF, nI_ltT, nI_ltF, nI_ne, and_self, false_and, and_false, Nat.reduceAdd, Nat.reduceSub, Nat.reduceMul, Nat.reduceLT, Nat.reduceLeDiff, true_and]
    simp (disch := omega) only [mF_fold, mp_char hp hb]
    simp (disch := omega) only [sX7_isNext_0, sX7_isNext_1, sX7_isNext_2, sX7_isNext_5, sX7_isNext_8, sX7_isNext_9, sX7_isNext_12, sX7_isNext_13, sX7_isNext_16, sX7_isNext_17, sX7_isNext_18, sX7_isNext_19, sX7_isNext_19i, sX7_isNext_20, sX7_isNext_23, sX7_isNext_24, sX7_isNext_27, sX7_isNext_28, sX7_isNext_31, sX7_isNext_32, sX7_isNext_33, sX7_isNext_36, sX7_isNext_37, cR_eq, g, mT_0, mT_1, mT_2, mT_3, mT_4, mT_5, mT_6, mT_w0, mT_w1, mT_w2, mT_w3, mT_w4, mT_w5, mT_w6, mF, aFld, aFds, aRow, aRowR, aRefs, aLn, if_true, List.getElem?_cons_zero, List.getElem?_cons_succ, List.set_cons_zero, List.set_cons_succ, List.length_cons, List.length_nil, Option.some.injEq, exists_eq_left', aput_same, aclr_none, aclr_int, aclr_ref, aclr_null, aret_some, aret_none, bz, bz0, bz1, true_and, and_true, vpT, nIc, nI_add, pk_mul, nI_sub', Nat.add_zero, Nat.zero_add, upd_same, upd_ne, if_false, not_true_eq_false, not_false_eq_true, ite_z, ite_o, eq_self, Bool.false_eq_true, nI_leT, nI_leF, nI_ltT, nI_ltF, nI_ne, and_self, false_and, and_false, Nat.reduceAdd, Nat.reduceSub, Nat.reduceMul, Nat.reduceLT, Nat.reduceLeDiff, true_and]
theorem mp_digit (hp : pOK pd L) (hb : p < 1000) {lo hi' : Nat} (h0 : lo ≤ 9) (h1 : hi' ≤ 9) : aX (d + 1) iX7_takeDigit 0 [some (.ref m), some (.int (nI lo)), some (.int (nI hi')), none] [] (mT σ m (mF m (nI rc) (nI L) (nI p) le fi se) kp hi sl sv pd st) Q ↔ if dg lo hi' (cK pd L p) = true then Q (some (.int (nI (cK pd L p - 48)))) (mT σ m (mF m (nI rc) (nI L) (nI (p + 1)) le fi se) kp hi sl sv pd st) else Q (some (.int (-1))) (mT σ m (mF m (nI rc) (nI L) (nI p) le fi se) kp hi sl sv pd st) := by
  have hk := cK_le hp p
  simp (disch := omega) only [sX7_takeDigit_0, sX7_takeDigit_1, sX7_takeDigit_2, sX7_takeDigit_5, sX7_takeDigit_8, sX7_takeDigit_10, sX7_takeDigit_11, sX7_takeDigit_12, sX7_takeDigit_13, sX7_takeDigit_14, sX7_takeDigit_15, sX7_takeDigit_18, sX7_takeDigit_21, sX7_takeDigit_22, sX7_takeDigit_23, sX7_takeDigit_24, sX7_takeDigit_24i, sX7_takeDigit_25, sX7_takeDigit_28, sX7_takeDigit_29, sX7_takeDigit_30, sX7_takeDigit_33, sX7_takeDigit_34, aIsT mT_0, mT_0, mF, aFld, aFds, aRow, aRowR, aRefs, aLn, if_true, List.getElem?_cons_zero, List.getElem?_cons_succ, List.set_cons_zero, List.set_cons_succ, List.length_cons, List.length_nil, Option.some.injEq, exists_eq_left', aput_same, aclr_none, aclr_int, aclr_ref, aclr_null, aret_some, aret_none, bz, bz0, bz1, true_and, and_true, vpT, nIc, nI_add, pk_mul, nI_sub', Nat.add_zero, Nat.zero_add, upd_same, upd_ne, if_false, not_true_eq_false, not_false_eq_true, ite_z, ite_o, eq_self, Bool.false_eq_true, nI_leT, nI_leF, nI_ltT, nI_ltF, nI_ne, and_self, false_and, and_false, Nat.reduceAdd, Nat.reduceSub, Nat.reduceMul, Nat.reduceLT, Nat.reduceLeDiff, true_and]
  simp (disch := omega) only [mF_fold, mp_char hp hb]
  by_cases g : dg lo hi' (cK pd L p) = true
  · have hg := dg_le g
    simp (disch := omega) only [sX7_takeDigit_0, sX7_takeDigit_1, sX7_takeDigit_2, sX7_takeDigit_5, sX7_takeDigit_8, sX7_takeDigit_10, sX7_takeDigit_11, sX7_takeDigit_12, sX7_takeDigit_13, sX7_takeDigit_14, sX7_takeDigit_15, sX7_takeDigit_18, sX7_takeDigit_21, sX7_takeDigit_22, sX7_takeDigit_23, sX7_takeDigit_24, sX7_takeDigit_24i, sX7_takeDigit_25, sX7_takeDigit_28, sX7_takeDigit_29, sX7_takeDigit_30, sX7_takeDigit_33, sX7_takeDigit_34, mm_within, cR_sub g, not_true_eq_false, mT_0, mT_1, mT_2, mT_3, mT_4, mT_5, mT_6, mT_w0, mT_w1, mT_w2, mT_w3, mT_w4, mT_w5, mT_w6, mF, aFld, aFds, aRow, aRowR, aRefs, aLn, if_true, List.getElem?_cons_zero, List.getElem?_cons_succ, List.set_cons_zero, List.set_cons_succ, List.length_cons, List.length_nil, Option.some.injEq, exists_eq_left', aput_same, aclr_none, aclr_int, aclr_ref, aclr_null, aret_some, aret_none, bz, bz0, bz1, true_and, and_true, vpT, nIc, nI_add, pk_mul, nI_sub', Nat.add_zero, Nat.zero_add, upd_same, upd_ne, if_false, not_true_eq_false, not_false_eq_true, ite_z, ite_o, eq_self, Bool.false_eq_true, nI_leT, nI_leF, nI_ltT, nI_ltF, nI_ne, and_self, false_and, and_false, Nat.reduceAdd, Nat.reduceSub, Nat.reduceMul, Nat.reduceLT, Nat.reduceLeDiff, true_and]
    rw [if_pos g]
  · simp (disch := omega) only [sX7_takeDigit_0, sX7_takeDigit_1, sX7_takeDigit_2, sX7_takeDigit_5, sX7_takeDigit_8, sX7_takeDigit_10, sX7_takeDigit_11, sX7_takeDigit_12, sX7_takeDigit_13, sX7_takeDigit_14, sX7_takeDigit_15, sX7_takeDigit_18, sX7_takeDigit_21, sX7_takeDigit_22, sX7_takeDigit_23, sX7_takeDigit_24, sX7_takeDigit_24i, sX7_takeDigit_25, sX7_takeDigit_28, sX7_takeDigit_29, sX7_takeDigit_30, sX7_takeDigit_33, sX7_takeDigit_34, mm_within, cR_dg, g, mT_0, mT_1, mT_2, mT_3, mT_4, mT_5, mT_6, mT_w0, mT_w1, mT_w2, mT_w3, mT_w4, mT_w5, mT_w6, mF, aFld, aFds, aRow, aRowR, aRefs, aLn, if_true, List.getElem?_cons_zero, List.getElem?_cons_succ, List.set_cons_zero, List.set_cons_succ, List.length_cons, List.length_nil, Option.some.injEq, exists_eq_left', aput_same, aclr_none, aclr_int, aclr_ref, aclr_null, aret_some, aret_none, bz, bz0, bz1, true_and, and_true, vpT, nIc, nI_add, pk_mul, nI_sub', Nat.add_zero, Nat.zero_add, upd_same, upd_ne, if_false, not_true_eq_false, not_false_eq_true, ite_z, ite_o, eq_self, Bool.false_eq_true, nI_leT, nI_leF, nI_ltT, nI_ltF, nI_ne, and_self, false_and, and_false, Nat.reduceAdd, Nat.reduceSub, Nat.reduceMul, Nat.reduceLT, Nat.reduceLeDiff, true_and]
section MFL
variable {rc' pl' x : Int32}
theorem mF_l : (mF m rc' pl' at' le fi se).length = 11 := rfl
theorem mF_g6 : (mF m rc' pl' at' le fi se)[6]? = some (.int pl') := rfl
theorem mF_g7 : (mF m rc' pl' at' le fi se)[7]? = some (.int at') := rfl
theorem mF_g8 : (mF m rc' pl' at' le fi se)[8]? = some (.int le) := rfl
theorem mF_g9 : (mF m rc' pl' at' le fi se)[9]? = some (.int fi) := rfl
theorem mF_g10 : (mF m rc' pl' at' le fi se)[10]? = some (.int se) := rfl
theorem mF_s6 : (mF m rc' pl' at' le fi se).set 6 (.int x) = mF m rc' x at' le fi se := rfl
theorem mF_s7 : (mF m rc' pl' at' le fi se).set 7 (.int x) = mF m rc' pl' x le fi se := rfl
theorem mF_s8 : (mF m rc' pl' at' le fi se).set 8 (.int x) = mF m rc' pl' at' x fi se := rfl
theorem mF_s9 : (mF m rc' pl' at' le fi se).set 9 (.int x) = mF m rc' pl' at' le x se := rfl
theorem mF_s10 : (mF m rc' pl' at' le fi se).set 10 (.int x) = mF m rc' pl' at' le fi x := rfl
end MFL
theorem mp_num_stop (hp : pOK pd L) {v : Nat} (hv : v = 0 ∨ 1000 ≤ v) (hv2 : v < 100000) : aX (d + 2) iX7_takeNumber 8 [some (.ref m), some (.int (nI v))] [] (mT σ m (mF m (nI rc) (nI L) (nI p) le fi se) kp hi sl sv pd st) Q ↔ Q (some (.int (nI v))) (mT σ m (mF m (nI rc) (nI L) (nI p) le fi se) kp hi sl sv pd st) := by
  rcases hv with h | h
  · subst h
    simp (disch := omega) only [sX7_takeNumber_8, sX7_takeNumber_9, sX7_takeNumber_53, sX7_takeNumber_54, aFld, aFds, aRow, aRowR, aRefs, aLn, if_true, List.getElem?_cons_zero, List.getElem?_cons_succ, List.set_cons_zero, List.set_cons_succ, List.length_cons, List.length_nil, Option.some.injEq, exists_eq_left', aput_same, aclr_none, aclr_int, aclr_ref, aclr_null, aret_some, aret_none, bz, bz0, bz1, true_and, and_true, vpT, nIc, nI_add, pk_mul, nI_sub', Nat.add_zero, Nat.zero_add, upd_same, upd_ne, if_false, not_true_eq_false, not_false_eq_true, ite_z, ite_o, eq_self, Bool.false_eq_true, nI_leT, nI_leF, nI_ltT, nI_ltF, nI_ne, and_self, false_and, and_false]
  · simp (disch := omega) only [sX7_takeNumber_8, sX7_takeNumber_9, sX7_takeNumber_12, sX7_takeNumber_13, sX7_takeNumber_16, sX7_takeNumber_53, sX7_takeNumber_54, aFld, aFds, aRow, aRowR, aRefs, aLn, if_true, List.getElem?_cons_zero, List.getElem?_cons_succ, List.set_cons_zero, List.set_cons_succ, List.length_cons, List.length_nil, Option.some.injEq, exists_eq_left', aput_same, aclr_none, aclr_int, aclr_ref, aclr_null, aret_some, aret_none, bz, bz0, bz1, true_and, and_true, vpT, nIc, nI_add, pk_mul, nI_sub', Nat.add_zero, Nat.zero_add, upd_same, upd_ne, if_false, not_true_eq_false, not_false_eq_true, ite_z, ite_o, eq_self, Bool.false_eq_true, nI_leT, nI_leF, nI_ltT, nI_ltF, nI_ne, and_self, false_and, and_false]
theorem mp_num_step (hp : pOK pd L) (hb : p < 1000) {v : Nat} (h1 : 1 ≤ v) (h2 : v < 1000) : aX (d + 2) iX7_takeNumber 8 [some (.ref m), some (.int (nI v))] [] (mT σ m (mF m (nI rc) (nI L) (nI p) le fi se) kp hi sl sv pd st) Q ↔ if dg 0 9 (cK pd L p) = true then aX (d + 2) iX7_takeNumber 8 [some (.ref m), some (.int (nI (10 * v + (cK pd L p - 48))))] [] (mT σ m (mF m (nI rc) (nI L) (nI (p + 1)) le fi se) kp hi sl sv pd st) Q else Q (some (.int (nI v))) (mT σ m (mF m (nI rc) (nI L) (nI p) le fi se) kp hi sl sv pd st) := by
  have hk := cK_le hp p
  rw [sX7_takeNumber_8]
  simp (disch := omega) only [sX7_takeNumber_9, sX7_takeNumber_12, sX7_takeNumber_13, sX7_takeNumber_16, sX7_takeNumber_19, sX7_takeNumber_20, sX7_takeNumber_21, aIsT mT_0, mT_0, mF, aFld, aFds, aRow, aRowR, aRefs, aLn, if_true, List.getElem?_cons_zero, List.getElem?_cons_succ, List.set_cons_zero, List.set_cons_succ, List.length_cons, List.length_nil, Option.some.injEq, exists_eq_left', aput_same, aclr_none, aclr_int, aclr_ref, aclr_null, aret_some, aret_none, bz, bz0, bz1, true_and, and_true, vpT, nIc, nI_add, pk_mul, nI_sub', Nat.add_zero, Nat.zero_add, upd_same, upd_ne, if_false, not_true_eq_false, not_false_eq_true, ite_z, ite_o, eq_self, Bool.false_eq_true, nI_leT, nI_leF, nI_ltT, nI_ltF, nI_ne, and_self, false_and, and_false, Nat.reduceAdd, Nat.reduceSub, Nat.reduceMul, Nat.reduceLT, Nat.reduceLeDiff, true_and]
  simp (disch := omega) only [sX7_takeNumber_24, aIsT mT_0, mF_fold, mp_char hp hb, aFld, aFds, aRow, aRowR, aRefs, aLn, if_true, List.getElem?_cons_zero, List.getElem?_cons_succ, List.set_cons_zero, List.set_cons_succ, List.length_cons, List.length_nil, Option.some.injEq, exists_eq_left', aput_same, aclr_none, aclr_int, aclr_ref, aclr_null, aret_some, aret_none, bz, bz0, bz1, true_and, and_true, vpT, nIc, nI_add, pk_mul, nI_sub', Nat.add_zero, Nat.zero_add, upd_same, upd_ne, if_false, not_true_eq_false, not_false_eq_true, ite_z, ite_o, eq_self, Bool.false_eq_true, nI_leT, nI_leF, nI_ltT, nI_ltF, nI_ne, and_self, false_and, and_false]
  by_cases g : dg 0 9 (cK pd L p) = true
  · simp (disch := omega) only [sX7_takeNumber_27, sX7_takeNumber_29, sX7_takeNumber_31, sX7_takeNumber_34, sX7_takeNumber_37, sX7_takeNumber_39, sX7_takeNumber_40, sX7_takeNumber_41, sX7_takeNumber_42, sX7_takeNumber_43, sX7_takeNumber_45, sX7_takeNumber_48, sX7_takeNumber_49, sX7_takeNumber_50, mm_within, cR_dg2, aIsT mT_0, mp_digit hp hb, g, aFld, aFds, aRow, aRowR, aRefs, aLn, if_true, List.getElem?_cons_zero, List.getElem?_cons_succ, List.set_cons_zero, List.set_cons_succ, List.length_cons, List.length_nil, Option.some.injEq, exists_eq_left', aput_same, aclr_none, aclr_int, aclr_ref, aclr_null, aret_some, aret_none, bz, bz0, bz1, true_and, and_true, vpT, nIc, nI_add, pk_mul, nI_sub', Nat.add_zero, Nat.zero_add, upd_same, upd_ne, if_false, not_true_eq_false, not_false_eq_true, ite_z, ite_o, eq_self, Bool.false_eq_true, nI_leT, nI_leF, nI_ltT, nI_ltF, nI_ne, and_self, false_and, and_false]
  · simp (disch := omega) only [sX7_takeNumber_27, sX7_takeNumber_29, sX7_takeNumber_31, sX7_takeNumber_34, sX7_takeNumber_37, sX7_takeNumber_39, sX7_takeNumber_40, sX7_takeNumber_41, sX7_takeNumber_42, sX7_takeNumber_43, sX7_takeNumber_45, sX7_takeNumber_48, sX7_takeNumber_49, sX7_takeNumber_50, sX7_takeNumber_53, sX7_takeNumber_54, mm_within, cR_dg2, g, aFld, aFds, aRow, aRowR, aRefs, aLn, if_true, List.getElem?_cons_zero, List.getElem?_cons_succ, List.set_cons_zero, List.set_cons_succ, List.length_cons, List.length_nil, Option.some.injEq, exists_eq_left', aput_same, aclr_none, aclr_int, aclr_ref, aclr_null, aret_some, aret_none, bz, bz0, bz1, true_and, and_true, vpT, nIc, nI_add, pk_mul, nI_sub', Nat.add_zero, Nat.zero_add, upd_same, upd_ne, if_false, not_true_eq_false, not_false_eq_true, ite_z, ite_o, eq_self, Bool.false_eq_true, nI_leT, nI_leF, nI_ltT, nI_ltF, nI_ne, and_self, false_and, and_false]
theorem mp_num_loop (hp : pOK pd L) : ∀ (f v p : Nat) (Q : aQ), (f = 3 ∧ v < 10 ∨ f = 2 ∧ (v = 0 ∨ 10 ≤ v ∧ v < 100) ∨ f = 1 ∧ (v = 0 ∨ 100 ≤ v ∧ v < 1000) ∨ f = 0 ∧ (v = 0 ∨ 1000 ≤ v ∧ v < 10000)) → p + f < 1000 → (aX (d + 2) iX7_takeNumber 8 [some (.ref m), some (.int (nI v))] [] (mT σ m (mF m (nI rc) (nI L) (nI p) le fi se) kp hi sl sv pd st) Q ↔ Q (some (.int (nI (pN (cK pd L) f v p).1))) (mT σ m (mF m (nI rc) (nI L) (nI (pN (cK pd L) f v p).2) le fi se) kp hi sl sv pd st))
  | 0, v, p, Q, h, hb => by
    rw [mp_num_stop hp (by omega) (by omega), pN]
  | f + 1, v, p, Q, h, hb => by
    rw [pN]
    by_cases h0 : v = 0
    · rw [if_pos h0, mp_num_stop hp (Or.inl h0) (by omega)]
    · rw [if_neg h0, mp_num_step hp (by omega) (by omega) (by omega)]
      by_cases g : dg 0 9 (cK pd L p) = true
      · have hg := dg_le g
        rw [if_pos g, if_pos g]
        exact mp_num_loop hp f _ (p + 1) Q (by omega) (by omega)
      · rw [if_neg g, if_neg g]
theorem mp_num (hp : pOK pd L) (hb : p < 990) : aX (d + 2) iX7_takeNumber 0 [some (.ref m), none] [] (mT σ m (mF m (nI rc) (nI L) (nI p) le fi se) kp hi sl sv pd st) Q ↔ if dg 0 9 (cK pd L p) = true then Q (some (.int (nI (nV (cK pd L) p)))) (mT σ m (mF m (nI rc) (nI L) (nI (nE (cK pd L) p)) le fi se) kp hi sl sv pd st) else Q (some (.int (-1))) (mT σ m (mF m (nI rc) (nI L) (nI p) le fi se) kp hi sl sv pd st) := by
  by_cases g : dg 0 9 (cK pd L p) = true
  · have hg := dg_le g
    have hl := mp_num_loop (d := d) (σ := σ) (m := m) (st := st) (kp := kp) (hi := hi) (sl := sl) (sv := sv) (le := le) (fi := fi) (se := se) (rc := rc) hp 3 (cK pd L p - 48) (p + 1) Q (by omega) (by omega)
    simp (disch := omega) only [sX7_takeNumber_0, sX7_takeNumber_1, sX7_takeNumber_2, sX7_takeNumber_4, sX7_takeNumber_7, aIsT mT_0, mp_digit hp (show p < 1000 by omega), g, aFld, aFds, aRow, aRowR, aRefs, aLn, if_true, List.getElem?_cons_zero, List.getElem?_cons_succ, List.set_cons_zero, List.set_cons_succ, List.length_cons, List.length_nil, Option.some.injEq, exists_eq_left', aput_same, aclr_none, aclr_int, aclr_ref, aclr_null, aret_some, aret_none, bz, bz0, bz1, true_and, and_true, vpT, nIc, nI_add, pk_mul, nI_sub', Nat.add_zero, Nat.zero_add, upd_same, upd_ne, if_false, not_true_eq_false, not_false_eq_true, ite_z, ite_o, eq_self, Bool.false_eq_true, nI_leT, nI_leF, nI_ltT, nI_ltF, nI_ne, and_self, false_and, and_false]
    exact hl
  · have h1 : ((-1 : Int32) ≤ nI 0) = True := eq_true (by decide)
    simp (disch := omega) only [sX7_takeNumber_0, sX7_takeNumber_1, sX7_takeNumber_2, sX7_takeNumber_4, sX7_takeNumber_7, sX7_takeNumber_8, sX7_takeNumber_9, sX7_takeNumber_53, sX7_takeNumber_54, aIsT mT_0, mp_digit hp (show p < 1000 by omega), g, h1, aFld, aFds, aRow, aRowR, aRefs, aLn, if_true, List.getElem?_cons_zero, List.getElem?_cons_succ, List.set_cons_zero, List.set_cons_succ, List.length_cons, List.length_nil, Option.some.injEq, exists_eq_left', aput_same, aclr_none, aclr_int, aclr_ref, aclr_null, aret_some, aret_none, bz, bz0, bz1, true_and, and_true, vpT, nIc, nI_add, pk_mul, nI_sub', Nat.add_zero, Nat.zero_add, upd_same, upd_ne, if_false, not_true_eq_false, not_false_eq_true, ite_z, ite_o, eq_self, Bool.false_eq_true, nI_leT, nI_leF, nI_ltT, nI_ltF, nI_ne, and_self, false_and, and_false]
theorem cR_k {c c0 : Nat} (h : c = c0) (h0 : 1 ≤ c0) : cR c = nI c0 := by subst h; exact if_neg (by omega)
theorem mp_reads (hp : pOK pd L) (hb : p < 900) : aX (d + 3) iX7_readsOrder 0 [some (.ref m)] [] (mT σ m (mF m (nI rc) (nI L) (nI p) le fi se) kp hi sl sv pd st) Q ↔ Q (some (.int (if rOk (rd (cK pd L) p fi se) = true then nI 1 else nI 0))) (mT σ m (mF m (nI rc) (nI L) (nI (rPos (rd (cK pd L) p fi se))) (rLe (rd (cK pd L) p fi se)) (rFi (rd (cK pd L) p fi se)) (rSe (rd (cK pd L) p fi se))) kp hi sl sv pd st) := by
  have hk := cK_le hp p
  have hm1 : ((-1 : Int32) < nI 0) = True := eq_true (by decide)
  have hm2 : (nI 0 ≤ (-1 : Int32)) = False := eq_false (by decide)
  have hm6 : ((-6 : Int32) = -1) = False := eq_false (by decide)
  have hx : ∀ x : Nat, x < 100000 → (nI x = -1) = False := fun x hx => by
    refine eq_false (fun e => ?_)
    have := nI_le (Nat.zero_le x) (show x < 2147483648 by omega)
    rw [e] at this
    exact absurd this (by decide)
  have hr : ∀ {o : Bool} {ps : Nat} {a b c : Int32}, rOk (mkO o ps a b c) = o ∧ rPos (mkO o ps a b c) = ps ∧ rLe (mkO o ps a b c) = a ∧ rFi (mkO o ps a b c) = b ∧ rSe (mkO o ps a b c) = c := fun {_ _ _ _ _} => ⟨rfl, rfl, rfl, rfl, rfl⟩
  have hE1 := nE_le (cK pd L) (p + 1)
  have hE3 := nE_le (cK pd L) (p + 1 + 1 + 1)
  have hEE := nE_le (cK pd L) (nE (cK pd L) (p + 1) + 1)
  have hz : nI 1 = nI 0 ↔ False := ⟨fun e => absurd e (by decide), fun e => e.elim⟩
  have hN : narrow .boolean (.int (nI 1)) = .int (nI 1) := by decide
  have hN0 : narrow .boolean (.int (nI 0)) = .int (nI 0) := by decide
  have hmm : ((-1 : Int32) = -1) = True := eq_true rfl
  simp (disch := omega) only [sX7_readsOrder_0, sX7_readsOrder_1, sX7_readsOrder_2, sX7_readsOrder_3, sX7_readsOrder_6, sX7_readsOrder_9, sX7_readsOrder_12, sX7_readsOrder_13, sX7_readsOrder_13i, sX7_readsOrder_14, sX7_readsOrder_17, sX7_readsOrder_18, sX7_readsOrder_19, sX7_readsOrder_22, sX7_readsOrder_23, aIsT mT_0, mp_char hp, mT_0, mT_w0, mF_l, mF_g6, mF_g7, mF_g8, mF_g9, mF_g10, mF_s6, mF_s7, mF_s8, mF_s9, mF_s10, aFld, aFds, aRow, aRowR, aRefs, aLn, if_true, List.getElem?_cons_zero, List.getElem?_cons_succ, List.set_cons_zero, List.set_cons_succ, List.length_cons, List.length_nil, Option.some.injEq, exists_eq_left', aput_same, aclr_none, aclr_int, aclr_ref, aclr_null, aret_some, aret_none, bz, bz0, bz1, true_and, and_true, vpT, nIc, nI_add, pk_mul, nI_sub', Nat.add_zero, Nat.zero_add, upd_same, upd_ne, if_false, not_true_eq_false, not_false_eq_true, ite_z, ite_o, eq_self, Bool.false_eq_true, nI_leT, nI_leF, nI_ltT, nI_ltF, nI_ne, and_self, false_and, and_false, Nat.reduceAdd, Nat.reduceSub, Nat.reduceMul, Nat.reduceLT, Nat.reduceLeDiff, true_and]
  unfold rd
  by_cases g43 : cK pd L p = 43
  · have hc : cR (cK pd L p) = nI 43 := cR_k g43 (by omega)
    rw [if_pos g43]
    by_cases gd : dg 0 7 (cK pd L (p + 1)) = true
    · have hgd := dg_le gd
      by_cases ge : cK pd L (p + 1 + 1) = 61
      · skip
        by_cases gn : dg 0 9 (cK pd L (p + 1 + 1 + 1)) = true
        · have hgn := nV_lt gn
          simp (disch := omega) only [hc, sX7_readsOrder_26_43, sX7_readsOrder_84, sX7_readsOrder_85, sX7_readsOrder_86, sX7_readsOrder_87, sX7_readsOrder_89, sX7_readsOrder_92, sX7_readsOrder_95, sX7_readsOrder_96, sX7_readsOrder_97, sX7_readsOrder_100, sX7_readsOrder_103, sX7_readsOrder_104, sX7_readsOrder_106, sX7_readsOrder_109, sX7_readsOrder_112, sX7_readsOrder_113, sX7_readsOrder_116, sX7_readsOrder_119, sX7_readsOrder_121, sX7_readsOrder_124, sX7_readsOrder_125, sX7_readsOrder_128, sX7_readsOrder_131, sX7_readsOrder_132, sX7_readsOrder_135, sX7_readsOrder_136, sX7_readsOrder_139, sX7_readsOrder_140, sX7_readsOrder_143, sX7_readsOrder_144, gd, ge, gn, hr, hm1, hm2, hm6, hmm, hx, hz, hN, hN0, aIsT mT_0, mp_digit hp, mp_next hp, mp_num hp, mT_0, mT_w0, mF_l, mF_g6, mF_g7, mF_g8, mF_g9, mF_g10, mF_s6, mF_s7, mF_s8, mF_s9, mF_s10, aFld, aFds, aRow, aRowR, aRefs, aLn, if_true, List.getElem?_cons_zero, List.getElem?_cons_succ, List.set_cons_zero, List.set_cons_succ, List.length_cons, List.length_nil, Option.some.injEq, exists_eq_left', aput_same, aclr_none, aclr_int, aclr_ref, aclr_null, aret_some, aret_none, bz, bz0, bz1, true_and, and_true, vpT, nIc, nI_add, pk_mul, nI_sub', Nat.add_zero, Nat.zero_add, upd_same, upd_ne, if_false, not_true_eq_false, not_false_eq_true, ite_z, ite_o, eq_self, Bool.false_eq_true, nI_leT, nI_leF, nI_ltT, nI_ltF, nI_ne, and_self, false_and, and_false, Nat.reduceAdd, Nat.reduceSub, Nat.reduceMul, Nat.reduceLT, Nat.reduceLeDiff, true_and]
        · simp (disch := omega) only [hc, sX7_readsOrder_26_43, sX7_readsOrder_84, sX7_readsOrder_85, sX7_readsOrder_86, sX7_readsOrder_87, sX7_readsOrder_89, sX7_readsOrder_92, sX7_readsOrder_95, sX7_readsOrder_96, sX7_readsOrder_97, sX7_readsOrder_100, sX7_readsOrder_103, sX7_readsOrder_104, sX7_readsOrder_106, sX7_readsOrder_109, sX7_readsOrder_112, sX7_readsOrder_113, sX7_readsOrder_116, sX7_readsOrder_119, sX7_readsOrder_121, sX7_readsOrder_124, sX7_readsOrder_125, sX7_readsOrder_128, sX7_readsOrder_131, sX7_readsOrder_132, sX7_readsOrder_135, sX7_readsOrder_136, sX7_readsOrder_139, sX7_readsOrder_140, sX7_readsOrder_143, sX7_readsOrder_144, gd, ge, gn, hr, hm1, hm2, hm6, hmm, hx, hz, hN, hN0, aIsT mT_0, mp_digit hp, mp_next hp, mp_num hp, mT_0, mT_w0, mF_l, mF_g6, mF_g7, mF_g8, mF_g9, mF_g10, mF_s6, mF_s7, mF_s8, mF_s9, mF_s10, aFld, aFds, aRow, aRowR, aRefs, aLn, if_true, List.getElem?_cons_zero, List.getElem?_cons_succ, List.set_cons_zero, List.set_cons_succ, List.length_cons, List.length_nil, Option.some.injEq, exists_eq_left', aput_same, aclr_none, aclr_int, aclr_ref, aclr_null, aret_some, aret_none, bz, bz0, bz1, true_and, and_true, vpT, nIc, nI_add, pk_mul, nI_sub', Nat.add_zero, Nat.zero_add, upd_same, upd_ne, if_false, not_true_eq_false, not_false_eq_true, ite_z, ite_o, eq_self, Bool.false_eq_true, nI_leT, nI_leF, nI_ltT, nI_ltF, nI_ne, and_self, false_and, and_false, Nat.reduceAdd, Nat.reduceSub, Nat.reduceMul, Nat.reduceLT, Nat.reduceLeDiff, true_and]
      · simp (disch := omega) only [hc, sX7_readsOrder_26_43, sX7_readsOrder_84, sX7_readsOrder_85, sX7_readsOrder_86, sX7_readsOrder_87, sX7_readsOrder_89, sX7_readsOrder_92, sX7_readsOrder_95, sX7_readsOrder_96, sX7_readsOrder_97, sX7_readsOrder_100, sX7_readsOrder_103, sX7_readsOrder_104, sX7_readsOrder_106, sX7_readsOrder_109, sX7_readsOrder_112, sX7_readsOrder_113, sX7_readsOrder_116, sX7_readsOrder_119, sX7_readsOrder_121, sX7_readsOrder_124, sX7_readsOrder_125, sX7_readsOrder_128, sX7_readsOrder_131, sX7_readsOrder_132, sX7_readsOrder_135, sX7_readsOrder_136, sX7_readsOrder_139, sX7_readsOrder_140, sX7_readsOrder_143, sX7_readsOrder_144, gd, ge, hr, hm1, hm2, hm6, hmm, hx, hz, hN, hN0, aIsT mT_0, mp_digit hp, mp_next hp, mp_num hp, mT_0, mT_w0, mF_l, mF_g6, mF_g7, mF_g8, mF_g9, mF_g10, mF_s6, mF_s7, mF_s8, mF_s9, mF_s10, aFld, aFds, aRow, aRowR, aRefs, aLn, if_true, List.getElem?_cons_zero, List.getElem?_cons_succ, List.set_cons_zero, List.set_cons_succ, List.length_cons, List.length_nil, Option.some.injEq, exists_eq_left', aput_same, aclr_none, aclr_int, aclr_ref, aclr_null, aret_some, aret_none, bz, bz0, bz1, true_and, and_true, vpT, nIc, nI_add, pk_mul, nI_sub', Nat.add_zero, Nat.zero_add, upd_same, upd_ne, if_false, not_true_eq_false, not_false_eq_true, ite_z, ite_o, eq_self, Bool.false_eq_true, nI_leT, nI_leF, nI_ltT, nI_ltF, nI_ne, and_self, false_and, and_false, Nat.reduceAdd, Nat.reduceSub, Nat.reduceMul, Nat.reduceLT, Nat.reduceLeDiff, true_and]
    · simp (disch := omega) only [hc, sX7_readsOrder_26_43, sX7_readsOrder_84, sX7_readsOrder_85, sX7_readsOrder_86, sX7_readsOrder_87, sX7_readsOrder_89, sX7_readsOrder_92, sX7_readsOrder_95, sX7_readsOrder_96, sX7_readsOrder_97, sX7_readsOrder_100, sX7_readsOrder_103, sX7_readsOrder_104, sX7_readsOrder_106, sX7_readsOrder_109, sX7_readsOrder_112, sX7_readsOrder_113, sX7_readsOrder_116, sX7_readsOrder_119, sX7_readsOrder_121, sX7_readsOrder_124, sX7_readsOrder_125, sX7_readsOrder_128, sX7_readsOrder_131, sX7_readsOrder_132, sX7_readsOrder_135, sX7_readsOrder_136, sX7_readsOrder_139, sX7_readsOrder_140, sX7_readsOrder_143, sX7_readsOrder_144, gd, hr, hm1, hm2, hm6, hmm, hx, hz, hN, hN0, aIsT mT_0, mp_digit hp, mp_next hp, mp_num hp, mT_0, mT_w0, mF_l, mF_g6, mF_g7, mF_g8, mF_g9, mF_g10, mF_s6, mF_s7, mF_s8, mF_s9, mF_s10, aFld, aFds, aRow, aRowR, aRefs, aLn, if_true, List.getElem?_cons_zero, List.getElem?_cons_succ, List.set_cons_zero, List.set_cons_succ, List.length_cons, List.length_nil, Option.some.injEq, exists_eq_left', aput_same, aclr_none, aclr_int, aclr_ref, aclr_null, aret_some, aret_none, bz, bz0, bz1, true_and, and_true, vpT, nIc, nI_add, pk_mul, nI_sub', Nat.add_zero, Nat.zero_add, upd_same, upd_ne, if_false, not_true_eq_false, not_false_eq_true, ite_z, ite_o, eq_self, Bool.false_eq_true, nI_leT, nI_leF, nI_ltT, nI_ltF, nI_ne, and_self, false_and, and_false, Nat.reduceAdd, Nat.reduceSub, Nat.reduceMul, Nat.reduceLT, Nat.reduceLeDiff, true_and]
  · skip
    by_cases g45 : cK pd L p = 45
    · have hc : cR (cK pd L p) = nI 45 := cR_k g45 (by omega)
      rw [if_neg g43, if_pos g45]
      by_cases gd : dg 0 7 (cK pd L (p + 1)) = true
      · have hgd := dg_le gd
        simp (disch := omega) only [hc, sX7_readsOrder_26_45, sX7_readsOrder_145, sX7_readsOrder_146, sX7_readsOrder_147, sX7_readsOrder_148, sX7_readsOrder_150, sX7_readsOrder_153, sX7_readsOrder_156, sX7_readsOrder_157, sX7_readsOrder_160, sX7_readsOrder_163, sX7_readsOrder_164, sX7_readsOrder_167, sX7_readsOrder_168, gd, hr, hm1, hm2, hm6, hmm, hx, hz, hN, hN0, aIsT mT_0, mp_digit hp, mp_next hp, mp_num hp, mT_0, mT_w0, mF_l, mF_g6, mF_g7, mF_g8, mF_g9, mF_g10, mF_s6, mF_s7, mF_s8, mF_s9, mF_s10, aFld, aFds, aRow, aRowR, aRefs, aLn, if_true, List.getElem?_cons_zero, List.getElem?_cons_succ, List.set_cons_zero, List.set_cons_succ, List.length_cons, List.length_nil, Option.some.injEq, exists_eq_left', aput_same, aclr_none, aclr_int, aclr_ref, aclr_null, aret_some, aret_none, bz, bz0, bz1, true_and, and_true, vpT, nIc, nI_add, pk_mul, nI_sub', Nat.add_zero, Nat.zero_add, upd_same, upd_ne, if_false, not_true_eq_false, not_false_eq_true, ite_z, ite_o, eq_self, Bool.false_eq_true, nI_leT, nI_leF, nI_ltT, nI_ltF, nI_ne, and_self, false_and, and_false, Nat.reduceAdd, Nat.reduceSub, Nat.reduceMul, Nat.reduceLT, Nat.reduceLeDiff, true_and]
      · simp (disch := omega) only [hc, sX7_readsOrder_26_45, sX7_readsOrder_145, sX7_readsOrder_146, sX7_readsOrder_147, sX7_readsOrder_148, sX7_readsOrder_150, sX7_readsOrder_153, sX7_readsOrder_156, sX7_readsOrder_157, sX7_readsOrder_160, sX7_readsOrder_163, sX7_readsOrder_164, sX7_readsOrder_167, sX7_readsOrder_168, gd, hr, hm1, hm2, hm6, hmm, hx, hz, hN, hN0, aIsT mT_0, mp_digit hp, mp_next hp, mp_num hp, mT_0, mT_w0, mF_l, mF_g6, mF_g7, mF_g8, mF_g9, mF_g10, mF_s6, mF_s7, mF_s8, mF_s9, mF_s10, aFld, aFds, aRow, aRowR, aRefs, aLn, if_true, List.getElem?_cons_zero, List.getElem?_cons_succ, List.set_cons_zero, List.set_cons_succ, List.length_cons, List.length_nil, Option.some.injEq, exists_eq_left', aput_same, aclr_none, aclr_int, aclr_ref, aclr_null, aret_some, aret_none, bz, bz0, bz1, true_and, and_true, vpT, nIc, nI_add, pk_mul, nI_sub', Nat.add_zero, Nat.zero_add, upd_same, upd_ne, if_false, not_true_eq_false, not_false_eq_true, ite_z, ite_o, eq_self, Bool.false_eq_true, nI_leT, nI_leF, nI_ltT, nI_ltF, nI_ne, and_self, false_and, and_false, Nat.reduceAdd, Nat.reduceSub, Nat.reduceMul, Nat.reduceLT, Nat.reduceLeDiff, true_and]
    · skip
      by_cases g98 : cK pd L p = 98
      · have hc : cR (cK pd L p) = nI 98 := cR_k g98 (by omega)
        rw [if_neg g43, if_neg g45, if_pos g98]
        by_cases gd : dg 0 7 (cK pd L (p + 1)) = true
        · have hgd := dg_le gd
          by_cases ge : cK pd L (p + 1 + 1) = 61
          · skip
            by_cases gn : dg 0 9 (cK pd L (p + 1 + 1 + 1)) = true
            · have hgn := nV_lt gn
              simp (disch := omega) only [hc, sX7_readsOrder_26_98, sX7_readsOrder_169, sX7_readsOrder_170, sX7_readsOrder_171, sX7_readsOrder_172, sX7_readsOrder_174, sX7_readsOrder_177, sX7_readsOrder_180, sX7_readsOrder_181, sX7_readsOrder_182, sX7_readsOrder_185, sX7_readsOrder_188, sX7_readsOrder_189, sX7_readsOrder_191, sX7_readsOrder_194, sX7_readsOrder_197, sX7_readsOrder_198, sX7_readsOrder_201, sX7_readsOrder_204, sX7_readsOrder_205, sX7_readsOrder_208, sX7_readsOrder_209, sX7_readsOrder_212, sX7_readsOrder_215, sX7_readsOrder_216, sX7_readsOrder_219, sX7_readsOrder_220, gd, ge, gn, hr, hm1, hm2, hm6, hmm, hx, hz, hN, hN0, aIsT mT_0, mp_digit hp, mp_next hp, mp_num hp, mT_0, mT_w0, mF_l, mF_g6, mF_g7, mF_g8, mF_g9, mF_g10, mF_s6, mF_s7, mF_s8, mF_s9, mF_s10, aFld, aFds, aRow, aRowR, aRefs, aLn, if_true, List.getElem?_cons_zero, List.getElem?_cons_succ, List.set_cons_zero, List.set_cons_succ, List.length_cons, List.length_nil, Option.some.injEq, exists_eq_left', aput_same, aclr_none, aclr_int, aclr_ref, aclr_null, aret_some, aret_none, bz, bz0, bz1, true_and, and_true, vpT, nIc, nI_add, pk_mul, nI_sub', Nat.add_zero, Nat.zero_add, upd_same, upd_ne, if_false, not_true_eq_false, not_false_eq_true, ite_z, ite_o, eq_self, Bool.false_eq_true, nI_leT, nI_leF, nI_ltT, nI_ltF, nI_ne, and_self, false_and, and_false, Nat.reduceAdd, Nat.reduceSub, Nat.reduceMul, Nat.reduceLT, Nat.reduceLeDiff, true_and]
            · simp (disch := omega) only [hc, sX7_readsOrder_26_98, sX7_readsOrder_169, sX7_readsOrder_170, sX7_readsOrder_171, sX7_readsOrder_172, sX7_readsOrder_174, sX7_readsOrder_177, sX7_readsOrder_180, sX7_readsOrder_181, sX7_readsOrder_182, sX7_readsOrder_185, sX7_readsOrder_188, sX7_readsOrder_189, sX7_readsOrder_191, sX7_readsOrder_194, sX7_readsOrder_197, sX7_readsOrder_198, sX7_readsOrder_201, sX7_readsOrder_204, sX7_readsOrder_205, sX7_readsOrder_208, sX7_readsOrder_209, sX7_readsOrder_212, sX7_readsOrder_215, sX7_readsOrder_216, sX7_readsOrder_219, sX7_readsOrder_220, gd, ge, gn, hr, hm1, hm2, hm6, hmm, hx, hz, hN, hN0, aIsT mT_0, mp_digit hp, mp_next hp, mp_num hp, mT_0, mT_w0, mF_l, mF_g6, mF_g7, mF_g8, mF_g9, mF_g10, mF_s6, mF_s7, mF_s8, mF_s9, mF_s10, aFld, aFds, aRow, aRowR, aRefs, aLn, if_true, List.getElem?_cons_zero, List.getElem?_cons_succ, List.set_cons_zero, List.set_cons_succ, List.length_cons, List.length_nil, Option.some.injEq, exists_eq_left', aput_same, aclr_none, aclr_int, aclr_ref, aclr_null, aret_some, aret_none, bz, bz0, bz1, true_and, and_true, vpT, nIc, nI_add, pk_mul, nI_sub', Nat.add_zero, Nat.zero_add, upd_same, upd_ne, if_false, not_true_eq_false, not_false_eq_true, ite_z, ite_o, eq_self, Bool.false_eq_true, nI_leT, nI_leF, nI_ltT, nI_ltF, nI_ne, and_self, false_and, and_false, Nat.reduceAdd, Nat.reduceSub, Nat.reduceMul, Nat.reduceLT, Nat.reduceLeDiff, true_and]
          · simp (disch := omega) only [hc, sX7_readsOrder_26_98, sX7_readsOrder_169, sX7_readsOrder_170, sX7_readsOrder_171, sX7_readsOrder_172, sX7_readsOrder_174, sX7_readsOrder_177, sX7_readsOrder_180, sX7_readsOrder_181, sX7_readsOrder_182, sX7_readsOrder_185, sX7_readsOrder_188, sX7_readsOrder_189, sX7_readsOrder_191, sX7_readsOrder_194, sX7_readsOrder_197, sX7_readsOrder_198, sX7_readsOrder_201, sX7_readsOrder_204, sX7_readsOrder_205, sX7_readsOrder_208, sX7_readsOrder_209, sX7_readsOrder_212, sX7_readsOrder_215, sX7_readsOrder_216, sX7_readsOrder_219, sX7_readsOrder_220, gd, ge, hr, hm1, hm2, hm6, hmm, hx, hz, hN, hN0, aIsT mT_0, mp_digit hp, mp_next hp, mp_num hp, mT_0, mT_w0, mF_l, mF_g6, mF_g7, mF_g8, mF_g9, mF_g10, mF_s6, mF_s7, mF_s8, mF_s9, mF_s10, aFld, aFds, aRow, aRowR, aRefs, aLn, if_true, List.getElem?_cons_zero, List.getElem?_cons_succ, List.set_cons_zero, List.set_cons_succ, List.length_cons, List.length_nil, Option.some.injEq, exists_eq_left', aput_same, aclr_none, aclr_int, aclr_ref, aclr_null, aret_some, aret_none, bz, bz0, bz1, true_and, and_true, vpT, nIc, nI_add, pk_mul, nI_sub', Nat.add_zero, Nat.zero_add, upd_same, upd_ne, if_false, not_true_eq_false, not_false_eq_true, ite_z, ite_o, eq_self, Bool.false_eq_true, nI_leT, nI_leF, nI_ltT, nI_ltF, nI_ne, and_self, false_and, and_false, Nat.reduceAdd, Nat.reduceSub, Nat.reduceMul, Nat.reduceLT, Nat.reduceLeDiff, true_and]
        · simp (disch := omega) only [hc, sX7_readsOrder_26_98, sX7_readsOrder_169, sX7_readsOrder_170, sX7_readsOrder_171, sX7_readsOrder_172, sX7_readsOrder_174, sX7_readsOrder_177, sX7_readsOrder_180, sX7_readsOrder_181, sX7_readsOrder_182, sX7_readsOrder_185, sX7_readsOrder_188, sX7_readsOrder_189, sX7_readsOrder_191, sX7_readsOrder_194, sX7_readsOrder_197, sX7_readsOrder_198, sX7_readsOrder_201, sX7_readsOrder_204, sX7_readsOrder_205, sX7_readsOrder_208, sX7_readsOrder_209, sX7_readsOrder_212, sX7_readsOrder_215, sX7_readsOrder_216, sX7_readsOrder_219, sX7_readsOrder_220, gd, hr, hm1, hm2, hm6, hmm, hx, hz, hN, hN0, aIsT mT_0, mp_digit hp, mp_next hp, mp_num hp, mT_0, mT_w0, mF_l, mF_g6, mF_g7, mF_g8, mF_g9, mF_g10, mF_s6, mF_s7, mF_s8, mF_s9, mF_s10, aFld, aFds, aRow, aRowR, aRefs, aLn, if_true, List.getElem?_cons_zero, List.getElem?_cons_succ, List.set_cons_zero, List.set_cons_succ, List.length_cons, List.length_nil, Option.some.injEq, exists_eq_left', aput_same, aclr_none, aclr_int, aclr_ref, aclr_null, aret_some, aret_none, bz, bz0, bz1, true_and, and_true, vpT, nIc, nI_add, pk_mul, nI_sub', Nat.add_zero, Nat.zero_add, upd_same, upd_ne, if_false, not_true_eq_false, not_false_eq_true, ite_z, ite_o, eq_self, Bool.false_eq_true, nI_leT, nI_leF, nI_ltT, nI_ltF, nI_ne, and_self, false_and, and_false, Nat.reduceAdd, Nat.reduceSub, Nat.reduceMul, Nat.reduceLT, Nat.reduceLeDiff, true_and]
      · skip
        by_cases g99 : cK pd L p = 99
        · have hc : cR (cK pd L p) = nI 99 := cR_k g99 (by omega)
          rw [if_neg g43, if_neg g45, if_neg g98, if_pos g99]
          simp (disch := omega) only [hc, sX7_readsOrder_26_99, sX7_readsOrder_302, sX7_readsOrder_303, hr, hm1, hm2, hm6, hmm, hx, hz, hN, hN0, aIsT mT_0, mp_digit hp, mp_next hp, mp_num hp, mT_0, mT_w0, mF_l, mF_g6, mF_g7, mF_g8, mF_g9, mF_g10, mF_s6, mF_s7, mF_s8, mF_s9, mF_s10, aFld, aFds, aRow, aRowR, aRefs, aLn, if_true, List.getElem?_cons_zero, List.getElem?_cons_succ, List.set_cons_zero, List.set_cons_succ, List.length_cons, List.length_nil, Option.some.injEq, exists_eq_left', aput_same, aclr_none, aclr_int, aclr_ref, aclr_null, aret_some, aret_none, bz, bz0, bz1, true_and, and_true, vpT, nIc, nI_add, pk_mul, nI_sub', Nat.add_zero, Nat.zero_add, upd_same, upd_ne, if_false, not_true_eq_false, not_false_eq_true, ite_z, ite_o, eq_self, Bool.false_eq_true, nI_leT, nI_leF, nI_ltT, nI_ltF, nI_ne, and_self, false_and, and_false, Nat.reduceAdd, Nat.reduceSub, Nat.reduceMul, Nat.reduceLT, Nat.reduceLeDiff, true_and]
        · skip
          by_cases g114 : cK pd L p = 114
          · have hc : cR (cK pd L p) = nI 114 := cR_k g114 (by omega)
            rw [if_neg g43, if_neg g45, if_neg g98, if_neg g99, if_pos g114]
            by_cases gd : dg 1 9 (cK pd L (p + 1)) = true
            · have hgd := dg_le gd
              simp (disch := omega) only [hc, sX7_readsOrder_26_114, sX7_readsOrder_221, sX7_readsOrder_222, sX7_readsOrder_223, sX7_readsOrder_224, sX7_readsOrder_226, sX7_readsOrder_229, sX7_readsOrder_232, sX7_readsOrder_233, sX7_readsOrder_234, sX7_readsOrder_237, sX7_readsOrder_240, sX7_readsOrder_241, sX7_readsOrder_244, sX7_readsOrder_245, sX7_readsOrder_248, sX7_readsOrder_251, sX7_readsOrder_252, gd, hr, hm1, hm2, hm6, hmm, hx, hz, hN, hN0, aIsT mT_0, mp_digit hp, mp_next hp, mp_num hp, mT_0, mT_w0, mF_l, mF_g6, mF_g7, mF_g8, mF_g9, mF_g10, mF_s6, mF_s7, mF_s8, mF_s9, mF_s10, aFld, aFds, aRow, aRowR, aRefs, aLn, if_true, List.getElem?_cons_zero, List.getElem?_cons_succ, List.set_cons_zero, List.set_cons_succ, List.length_cons, List.length_nil, Option.some.injEq, exists_eq_left', aput_same, aclr_none, aclr_int, aclr_ref, aclr_null, aret_some, aret_none, bz, bz0, bz1, true_and, and_true, vpT, nIc, nI_add, pk_mul, nI_sub', Nat.add_zero, Nat.zero_add, upd_same, upd_ne, if_false, not_true_eq_false, not_false_eq_true, ite_z, ite_o, eq_self, Bool.false_eq_true, nI_leT, nI_leF, nI_ltT, nI_ltF, nI_ne, and_self, false_and, and_false, Nat.reduceAdd, Nat.reduceSub, Nat.reduceMul, Nat.reduceLT, Nat.reduceLeDiff, true_and]
            · simp (disch := omega) only [hc, sX7_readsOrder_26_114, sX7_readsOrder_221, sX7_readsOrder_222, sX7_readsOrder_223, sX7_readsOrder_224, sX7_readsOrder_226, sX7_readsOrder_229, sX7_readsOrder_232, sX7_readsOrder_233, sX7_readsOrder_234, sX7_readsOrder_237, sX7_readsOrder_240, sX7_readsOrder_241, sX7_readsOrder_244, sX7_readsOrder_245, sX7_readsOrder_248, sX7_readsOrder_251, sX7_readsOrder_252, gd, hr, hm1, hm2, hm6, hmm, hx, hz, hN, hN0, aIsT mT_0, mp_digit hp, mp_next hp, mp_num hp, mT_0, mT_w0, mF_l, mF_g6, mF_g7, mF_g8, mF_g9, mF_g10, mF_s6, mF_s7, mF_s8, mF_s9, mF_s10, aFld, aFds, aRow, aRowR, aRefs, aLn, if_true, List.getElem?_cons_zero, List.getElem?_cons_succ, List.set_cons_zero, List.set_cons_succ, List.length_cons, List.length_nil, Option.some.injEq, exists_eq_left', aput_same, aclr_none, aclr_int, aclr_ref, aclr_null, aret_some, aret_none, bz, bz0, bz1, true_and, and_true, vpT, nIc, nI_add, pk_mul, nI_sub', Nat.add_zero, Nat.zero_add, upd_same, upd_ne, if_false, not_true_eq_false, not_false_eq_true, ite_z, ite_o, eq_self, Bool.false_eq_true, nI_leT, nI_leF, nI_ltT, nI_ltF, nI_ne, and_self, false_and, and_false, Nat.reduceAdd, Nat.reduceSub, Nat.reduceMul, Nat.reduceLT, Nat.reduceLeDiff, true_and]
          · skip
            by_cases g116 : cK pd L p = 116
            · have hc : cR (cK pd L p) = nI 116 := cR_k g116 (by omega)
              rw [if_neg g43, if_neg g45, if_neg g98, if_neg g99, if_neg g114, if_pos g116]
              by_cases gn : dg 0 9 (cK pd L (p + 1)) = true
              · have hgn := nV_lt gn
                by_cases ge : cK pd L (nE (cK pd L) (p + 1)) = 61
                · skip
                  by_cases go : dg 0 9 (cK pd L (nE (cK pd L) (p + 1) + 1)) = true
                  · have hgo := nV_lt go
                    simp (disch := omega) only [hc, sX7_readsOrder_26_116, sX7_readsOrder_253, sX7_readsOrder_254, sX7_readsOrder_255, sX7_readsOrder_258, sX7_readsOrder_261, sX7_readsOrder_262, sX7_readsOrder_263, sX7_readsOrder_266, sX7_readsOrder_269, sX7_readsOrder_270, sX7_readsOrder_272, sX7_readsOrder_275, sX7_readsOrder_278, sX7_readsOrder_279, sX7_readsOrder_282, sX7_readsOrder_285, sX7_readsOrder_286, sX7_readsOrder_289, sX7_readsOrder_290, sX7_readsOrder_293, sX7_readsOrder_296, sX7_readsOrder_297, sX7_readsOrder_300, sX7_readsOrder_301, gn, ge, go, hr, hm1, hm2, hm6, hmm, hx, hz, hN, hN0, aIsT mT_0, mp_digit hp, mp_next hp, mp_num hp, mT_0, mT_w0, mF_l, mF_g6, mF_g7, mF_g8, mF_g9, mF_g10, mF_s6, mF_s7, mF_s8, mF_s9, mF_s10, aFld, aFds, aRow, aRowR, aRefs, aLn, if_true, List.getElem?_cons_zero, List.getElem?_cons_succ, List.set_cons_zero, List.set_cons_succ, List.length_cons, List.length_nil, Option.some.injEq, exists_eq_left', aput_same, aclr_none, aclr_int, aclr_ref, aclr_null, aret_some, aret_none, bz, bz0, bz1, true_and, and_true, vpT, nIc, nI_add, pk_mul, nI_sub', Nat.add_zero, Nat.zero_add, upd_same, upd_ne, if_false, not_true_eq_false, not_false_eq_true, ite_z, ite_o, eq_self, Bool.false_eq_true, nI_leT, nI_leF, nI_ltT, nI_ltF, nI_ne, and_self, false_and, and_false, Nat.reduceAdd, Nat.reduceSub, Nat.reduceMul, Nat.reduceLT, Nat.reduceLeDiff, true_and]
                  · simp (disch := omega) only [hc, sX7_readsOrder_26_116, sX7_readsOrder_253, sX7_readsOrder_254, sX7_readsOrder_255, sX7_readsOrder_258, sX7_readsOrder_261, sX7_readsOrder_262, sX7_readsOrder_263, sX7_readsOrder_266, sX7_readsOrder_269, sX7_readsOrder_270, sX7_readsOrder_272, sX7_readsOrder_275, sX7_readsOrder_278, sX7_readsOrder_279, sX7_readsOrder_282, sX7_readsOrder_285, sX7_readsOrder_286, sX7_readsOrder_289, sX7_readsOrder_290, sX7_readsOrder_293, sX7_readsOrder_296, sX7_readsOrder_297, sX7_readsOrder_300, sX7_readsOrder_301, gn, ge, go, hr, hm1, hm2, hm6, hmm, hx, hz, hN, hN0, aIsT mT_0, mp_digit hp, mp_next hp, mp_num hp, mT_0, mT_w0, mF_l, mF_g6, mF_g7, mF_g8, mF_g9, mF_g10, mF_s6, mF_s7, mF_s8, mF_s9, mF_s10, aFld, aFds, aRow, aRowR, aRefs, aLn, if_true, List.getElem?_cons_zero, List.getElem?_cons_succ, List.set_cons_zero, List.set_cons_succ, List.length_cons, List.length_nil, Option.some.injEq, exists_eq_left', aput_same, aclr_none, aclr_int, aclr_ref, aclr_null, aret_some, aret_none, bz, bz0, bz1, true_and, and_true, vpT, nIc, nI_add, pk_mul, nI_sub', Nat.add_zero, Nat.zero_add, upd_same, upd_ne, if_false, not_true_eq_false, not_false_eq_true, ite_z, ite_o, eq_self, Bool.false_eq_true, nI_leT, nI_leF, nI_ltT, nI_ltF, nI_ne, and_self, false_and, and_false, Nat.reduceAdd, Nat.reduceSub, Nat.reduceMul, Nat.reduceLT, Nat.reduceLeDiff, true_and]
                · simp (disch := omega) only [hc, sX7_readsOrder_26_116, sX7_readsOrder_253, sX7_readsOrder_254, sX7_readsOrder_255, sX7_readsOrder_258, sX7_readsOrder_261, sX7_readsOrder_262, sX7_readsOrder_263, sX7_readsOrder_266, sX7_readsOrder_269, sX7_readsOrder_270, sX7_readsOrder_272, sX7_readsOrder_275, sX7_readsOrder_278, sX7_readsOrder_279, sX7_readsOrder_282, sX7_readsOrder_285, sX7_readsOrder_286, sX7_readsOrder_289, sX7_readsOrder_290, sX7_readsOrder_293, sX7_readsOrder_296, sX7_readsOrder_297, sX7_readsOrder_300, sX7_readsOrder_301, gn, ge, hr, hm1, hm2, hm6, hmm, hx, hz, hN, hN0, aIsT mT_0, mp_digit hp, mp_next hp, mp_num hp, mT_0, mT_w0, mF_l, mF_g6, mF_g7, mF_g8, mF_g9, mF_g10, mF_s6, mF_s7, mF_s8, mF_s9, mF_s10, aFld, aFds, aRow, aRowR, aRefs, aLn, if_true, List.getElem?_cons_zero, List.getElem?_cons_succ, List.set_cons_zero, List.set_cons_succ, List.length_cons, List.length_nil, Option.some.injEq, exists_eq_left', aput_same, aclr_none, aclr_int, aclr_ref, aclr_null, aret_some, aret_none, bz, bz0, bz1, true_and, and_true, vpT, nIc, nI_add, pk_mul, nI_sub', Nat.add_zero, Nat.zero_add, upd_same, upd_ne, if_false, not_true_eq_false, not_false_eq_true, ite_z, ite_o, eq_self, Bool.false_eq_true, nI_leT, nI_leF, nI_ltT, nI_ltF, nI_ne, and_self, false_and, and_false, Nat.reduceAdd, Nat.reduceSub, Nat.reduceMul, Nat.reduceLT, Nat.reduceLeDiff, true_and]
              · simp (disch := omega) only [hc, sX7_readsOrder_26_116, sX7_readsOrder_253, sX7_readsOrder_254, sX7_readsOrder_255, sX7_readsOrder_258, sX7_readsOrder_261, sX7_readsOrder_262, sX7_readsOrder_263, sX7_readsOrder_266, sX7_readsOrder_269, sX7_readsOrder_270, sX7_readsOrder_272, sX7_readsOrder_275, sX7_readsOrder_278, sX7_readsOrder_279, sX7_readsOrder_282, sX7_readsOrder_285, sX7_readsOrder_286, sX7_readsOrder_289, sX7_readsOrder_290, sX7_readsOrder_293, sX7_readsOrder_296, sX7_readsOrder_297, sX7_readsOrder_300, sX7_readsOrder_301, gn, hr, hm1, hm2, hm6, hmm, hx, hz, hN, hN0, aIsT mT_0, mp_digit hp, mp_next hp, mp_num hp, mT_0, mT_w0, mF_l, mF_g6, mF_g7, mF_g8, mF_g9, mF_g10, mF_s6, mF_s7, mF_s8, mF_s9, mF_s10, aFld, aFds, aRow, aRowR, aRefs, aLn, if_true, List.getElem?_cons_zero, List.getElem?_cons_succ, List.set_cons_zero, List.set_cons_succ, List.length_cons, List.length_nil, Option.some.injEq, exists_eq_left', aput_same, aclr_none, aclr_int, aclr_ref, aclr_null, aret_some, aret_none, bz, bz0, bz1, true_and, and_true, vpT, nIc, nI_add, pk_mul, nI_sub', Nat.add_zero, Nat.zero_add, upd_same, upd_ne, if_false, not_true_eq_false, not_false_eq_true, ite_z, ite_o, eq_self, Bool.false_eq_true, nI_leT, nI_leF, nI_ltT, nI_ltF, nI_ne, and_self, false_and, and_false, Nat.reduceAdd, Nat.reduceSub, Nat.reduceMul, Nat.reduceLT, Nat.reduceLeDiff, true_and]
            · skip
              rw [if_neg g43, if_neg g45, if_neg g98, if_neg g99, if_neg g114, if_neg g116]
              have hd : ∀ c0, 1 ≤ c0 → c0 ≤ 126 → ¬ cK pd L p = c0 → ¬ cR (cK pd L p) = nI c0 := fun c0 h1 h2 h3 e => h3 ((cR_eq hk h1 h2).mp e)
              rw [sX7_readsOrder_26_d (hd 43 (by omega) (by omega) g43) (hd 45 (by omega) (by omega) g45) (hd 98 (by omega) (by omega) g98) (hd 99 (by omega) (by omega) g99) (hd 114 (by omega) (by omega) g114) (hd 116 (by omega) (by omega) g116)]
              simp (disch := omega) only [sX7_readsOrder_304, sX7_readsOrder_305, sX7_readsOrder_305i, sX7_readsOrder_306, sX7_readsOrder_309, sX7_readsOrder_310, sX7_readsOrder_311, sX7_readsOrder_314, sX7_readsOrder_315, Nat.add_sub_cancel, hr, hm1, hm2, hm6, hmm, hx, hz, hN, hN0, aIsT mT_0, mp_digit hp, mp_next hp, mp_num hp, mT_0, mT_w0, mF_l, mF_g6, mF_g7, mF_g8, mF_g9, mF_g10, mF_s6, mF_s7, mF_s8, mF_s9, mF_s10, aFld, aFds, aRow, aRowR, aRefs, aLn, if_true, List.getElem?_cons_zero, List.getElem?_cons_succ, List.set_cons_zero, List.set_cons_succ, List.length_cons, List.length_nil, Option.some.injEq, exists_eq_left', aput_same, aclr_none, aclr_int, aclr_ref, aclr_null, aret_some, aret_none, bz, bz0, bz1, true_and, and_true, vpT, nIc, nI_add, pk_mul, nI_sub', Nat.add_zero, Nat.zero_add, upd_same, upd_ne, if_false, not_true_eq_false, not_false_eq_true, ite_z, ite_o, eq_self, Bool.false_eq_true, nI_leT, nI_leF, nI_ltT, nI_ltF, nI_ne, and_self, false_and, and_false, Nat.reduceAdd, Nat.reduceSub, Nat.reduceMul, Nat.reduceLT, Nat.reduceLeDiff, true_and]
end MX2
