/-! ===== lN n to 2^64: shifts, and, or, masks, one bit ===== -/
theorem wb_tb (n : Nat) : (lN n).toBitVec = BitVec.ofNat 64 n := rfl
theorem wb_inj {a b : Int64} (h : a.toBitVec = b.toBitVec) : a = b := Int64.toBitVec_inj.mp h
theorem wb_tn {n : Nat} (h : n < 2 ^ 64) : (lN n).toBitVec.toNat = n := by rw [wb_tb, BitVec.toNat_ofNat, Nat.mod_eq_of_lt h]
theorem wb_of (x : Int64) : ∃ n, n < 2 ^ 64 ∧ x = lN n := ⟨x.toBitVec.toNat, x.toBitVec.isLt, wb_inj (by rw [wb_tb]; simp)⟩
theorem wb_of32 (x : Int32) : ∃ n, n < 2 ^ 32 ∧ x = nI n := ⟨x.toBitVec.toNat, x.toBitVec.isLt, Int32.toBitVec_inj.mp (by show _ = BitVec.ofNat 32 _; simp)⟩
theorem wb_c : ∀ k, k < 64 → ((nI k).toInt64 &&& 63) = lN k := by decide +kernel
theorem wb_cu : ∀ k, k < 64 → ((nI k).toInt64.toUInt64 &&& Int64.toUInt64 63) = UInt64.ofNat k := by decide +kernel
theorem wb_sm : ∀ k, k < 64 → (BitVec.ofNat 64 k).smod 64 = BitVec.ofNat 64 k := by decide +kernel
theorem wb_pw {a b : Nat} (h : a ≤ b) : 2 ^ b = 2 ^ a * 2 ^ (b - a) := by rw [← Nat.pow_add]; congr 1; omega
theorem wb_lt2 {a b : Nat} (h : a < b) : 2 ^ a < 2 ^ b := Nat.pow_lt_pow_right (by decide) h
theorem wb_mod (n : Nat) : lN n = lN (n % 2 ^ 64) := wb_inj (by rw [wb_tb, wb_tb]; apply BitVec.eq_of_toNat_eq; rw [BitVec.toNat_ofNat, BitVec.toNat_ofNat, Nat.mod_mod])
theorem wb_shr {n k : Nat} (hn : n < 2 ^ 64) (hk : k < 64) : ((lN n).toUInt64 >>> ((nI k).toInt64.toUInt64 &&& Int64.toUInt64 63)).toInt64 = lN (n / 2 ^ k) := by
  rw [wb_cu k hk]
  apply wb_inj
  apply BitVec.eq_of_toNat_eq
  show ((lN n).toUInt64 >>> UInt64.ofNat k).toNat = (BitVec.ofNat 64 _).toNat
  have h1 : (UInt64.ofNat k).toNat = k := by
    show (BitVec.ofNat 64 k).toNat = k
    rw [BitVec.toNat_ofNat, Nat.mod_eq_of_lt (by omega)]
  have h2 : (lN n).toUInt64.toNat = n := wb_tn hn
  rw [UInt64.toNat_shiftRight, h1, h2, Nat.mod_eq_of_lt hk, Nat.shiftRight_eq_div_pow, BitVec.toNat_ofNat, Nat.mod_eq_of_lt (Nat.lt_of_le_of_lt (Nat.div_le_self _ _) hn)]
theorem wb_shl (n : Nat) {k : Nat} (hk : k < 64) : lN n <<< ((nI k).toInt64 &&& 63) = lN (n * 2 ^ k) := by
  rw [wb_c k hk]
  apply wb_inj
  rw [Int64.toBitVec_shiftLeft, wb_tb, wb_tb, wb_tb, wb_sm k hk]
  apply BitVec.eq_of_toNat_eq
  rw [BitVec.shiftLeft_eq', BitVec.toNat_shiftLeft, BitVec.toNat_ofNat, BitVec.toNat_ofNat, BitVec.toNat_ofNat, Nat.mod_eq_of_lt (show k < 2 ^ 64 by omega), Nat.shiftLeft_eq, Nat.mul_mod, Nat.mod_mod, ← Nat.mul_mod]
theorem wb_and {a b : Nat} (ha : a < 2 ^ 64) (hb : b < 2 ^ 64) : lN a &&& lN b = lN (a &&& b) := by
  apply wb_inj
  rw [Int64.toBitVec_and, wb_tb, wb_tb, wb_tb]
  apply BitVec.eq_of_toNat_eq
  rw [BitVec.toNat_and, BitVec.toNat_ofNat, BitVec.toNat_ofNat, BitVec.toNat_ofNat, Nat.mod_eq_of_lt ha, Nat.mod_eq_of_lt hb, Nat.mod_eq_of_lt (Nat.and_lt_two_pow _ hb)]
theorem wb_or {a b : Nat} (ha : a < 2 ^ 64) (hb : b < 2 ^ 64) : lN a ||| lN b = lN (a ||| b) := by
  apply wb_inj
  rw [Int64.toBitVec_or, wb_tb, wb_tb, wb_tb]
  apply BitVec.eq_of_toNat_eq
  rw [BitVec.toNat_or, BitVec.toNat_ofNat, BitVec.toNat_ofNat, BitVec.toNat_ofNat, Nat.mod_eq_of_lt ha, Nat.mod_eq_of_lt hb, Nat.mod_eq_of_lt (Nat.or_lt_two_pow ha hb)]
theorem wb_mask {n k : Nat} (hn : n < 2 ^ 64) (hk : k < 64) : lN n &&& lN (2 ^ k - 1) = lN (n % 2 ^ k) := by
  rw [wb_and hn (by have := wb_lt2 hk; omega), Nat.and_two_pow_sub_one_eq_mod]
theorem wb_a1 {n : Nat} (hn : n < 2 ^ 64) : lN n &&& 1 = lN (n % 2) := wb_mask (k := 1) hn (by decide)
theorem wb_bit {n k : Nat} (hn : n < 2 ^ 64) (hk : k < 64) : ((lN n).toUInt64 >>> ((nI k).toInt64.toUInt64 &&& Int64.toUInt64 63)).toInt64 &&& 1 = lN (n / 2 ^ k % 2) := by
  rw [wb_shr hn hk, wb_a1 (Nat.lt_of_le_of_lt (Nat.div_le_self _ _) hn)]
/-! THE REFERENCE: put -/
def pR (n i : Nat) : Nat := n / 256 ^ i
theorem pR_z (n : Nat) : pR n 0 = n := by unfold pR; simp
theorem pR_s (n i : Nat) : pR n i / 256 = pR n (i + 1) := by unfold pR; rw [Nat.div_div_eq_div_mul, Nat.pow_succ]
theorem pR_lt {n : Nat} (hn : n < 2 ^ 64) (i : Nat) : pR n i < 2 ^ 64 := Nat.lt_of_le_of_lt (Nat.div_le_self _ _) hn
theorem pR_8 {n : Nat} (hn : n < 2 ^ 64) : pR n 8 = 0 := Nat.div_eq_of_lt hn
theorem lN_32 {a : Nat} (h : a < 256) : (lN a).toInt32 = nI a := (by decide +kernel : ∀ a, a < 256 → (lN a).toInt32 = nI a) a h
theorem lN_and {n : Nat} (hn : n < 2 ^ 64) (i : Nat) : lN (pR n i) &&& lN 255 = lN (pR n i % 256) := wb_mask (k := 8) (pR_lt hn i) (by decide)
theorem lN_up {n : Nat} (hn : n < 2 ^ 64) (i : Nat) : ((lN (pR n i)).toUInt64 >>> ((nI 8).toInt64.toUInt64 &&& Int64.toUInt64 63)).toInt64 = lN (pR n (i + 1)) := by
  rw [wb_shr (pR_lt hn i) (by decide), ← pR_s]
theorem lN_at {n : Nat} (hn : n < 2 ^ 64) {k : Nat} (hk : k < 8) : ((lN n).toUInt64 >>> ((nI (8 * k)).toInt64.toUInt64 &&& Int64.toUInt64 63)).toInt64 = lN (pR n k) := by
  rw [wb_shr hn (by omega), Nat.pow_mul]
  rfl
theorem lN_inj {a b : Nat} (ha : a < 2 ^ 64) (hb : b < 2 ^ 64) (h : lN a = lN b) : a = b := by
  have := congrArg (fun x : Int64 => x.toBitVec.toNat) h
  simp only [wb_tn ha, wb_tn hb] at this
  exact this
theorem lN_cmp {a : Nat} (ha : a < 2 ^ 64) : (lg_cmp (lN a) (lN 0) = nI 0) = (a = 0) := by
  unfold lg_cmp
  by_cases h : a = 0
  · subst h
    exact propext ⟨fun _ => rfl, fun _ => by decide⟩
  · refine propext ⟨fun g => ?_, fun g => absurd g h⟩
    by_cases h1 : lN a > lN 0
    · rw [if_pos h1] at g; exact absurd g (by decide)
    · rw [if_neg h1, if_neg (fun e => h (lN_inj ha (by decide) e))] at g; exact absurd g (by decide)
/-- how many characters a number holds; 0: it is not well formed -/
def pC (n : Nat) : Nat → Nat → Nat
  | 0, i => i
  | k + 1, i => if pR n i = 0 then i else if 33 ≤ pR n i % 256 ∧ pR n i % 256 ≤ 126 then pC n k (i + 1) else 0
theorem pC_le (n : Nat) : ∀ k i, pC n k i ≤ i + k
  | 0, i => Nat.le_refl i
  | k + 1, i => by
    have ih := pC_le n k (i + 1)
    rw [pC]
    split
    · omega
    · split <;> omega
def mPd (pd : Nat → Int32) (L n z : Nat) : Nat → Nat → Int32
  | 0 => pd
  | i + 1 => upd (mPd pd L n z i) (L + i) (nI (pR n (z - 1 - i) % 256))
theorem mPd_at (pd : Nat → Int32) (L n z : Nat) : ∀ i q, mPd pd L n z i q = if L ≤ q ∧ q < L + i then nI (pR n (z - 1 - (q - L)) % 256) else pd q
  | 0, q => by rw [mPd, if_neg (by omega)]
  | i + 1, q => by
    rw [mPd]
    by_cases h : q = L + i
    · subst h
      rw [upd_same, if_pos (by omega), show L + i - L = i by omega]
    · rw [upd_ne h, mPd_at pd L n z i q]
      by_cases h2 : L ≤ q ∧ q < L + i
      · rw [if_pos h2, if_pos (by omega)]
      · rw [if_neg h2, if_neg (by omega)]
def pK : Nat → Int32
  | 0 => -1
  | j + 1 => nI j
theorem pK_m (j : Nat) : nI j + -1 = pK j := by
  cases j with
  | zero => decide
  | succ j => rw [pk_m1]; rfl
section MP2
variable {d : Nat} {σ : aS} {Q : aQ} {m n : Nat} {st kp hi sl sv pd : Nat → Int32} {at' le fi se : Int32} {rc L : Nat}
theorem mp_put0 (hn : n < 2 ^ 64) : ∀ (k i : Nat) (Q : aQ), i + k = 8 → (aX (d + 1) iX7_put 8 [some (.ref m), some (.long (lN n)), none, some (.int (nI i)), some (.long (lN (pR n i))), none, some (.int (nI 0)), none] [] σ Q ↔ Q (some (.int (-2))) σ)
  | 0, i, Q, h => by
    have e : i = 8 := by omega
    subst e
    rw [sX7_put_8]
    simp (disch := omega) only [sX7_put_9, sX7_put_11, sX7_put_14, sX7_put_16, sX7_put_19, sX7_put_20, sX7_put_21, sX7_put_22, sX7_put_25, sX7_put_27, sX7_put_30, sX7_put_32, sX7_put_35, sX7_put_36, sX7_put_37, sX7_put_39, sX7_put_41, sX7_put_44, sX7_put_47, sX7_put_48, sX7_put_51, sX7_put_52, sX7_put_54, sX7_put_56, sX7_put_58, sX7_put_59, sX7_put_61, sX7_put_64, sX7_put_67, sX7_put_68, sX7_put_71, sX7_put_73, sX7_put_76, sX7_put_78, sX7_put_79, sX7_put_80, sX7_put_83, sX7_put_85, aFld, aFds, aRow, aRowR, aRefs, aLn, if_true, List.getElem?_cons_zero, List.getElem?_cons_succ, List.set_cons_zero, List.set_cons_succ, List.length_cons, List.length_nil, Option.some.injEq, exists_eq_left', aput_same, aclr_none, aclr_int, aclr_ref, aclr_null, aret_some, aret_none, bz, bz0, bz1, true_and, and_true, vpT, nIc, nI_add, pk_mul, nI_sub', Nat.add_zero, Nat.zero_add, upd_same, upd_ne, if_false, not_true_eq_false, not_false_eq_true, ite_z, ite_o, eq_self, Bool.false_eq_true, nI_leT, nI_leF, nI_ltT, nI_ltF, nI_ne, and_self, false_and, and_false]
  | k + 1, i, Q, h => by
    have ih := mp_put0 hn k (i + 1) Q (by omega)
    rw [sX7_put_8]
    by_cases g : pR n i % 256 = 0
    · simp (disch := omega) only [sX7_put_9, sX7_put_11, sX7_put_14, sX7_put_16, sX7_put_19, sX7_put_20, sX7_put_21, sX7_put_22, sX7_put_67, sX7_put_68, sX7_put_71, sX7_put_73, sX7_put_76, sX7_put_78, sX7_put_79, sX7_put_80, sX7_put_83, sX7_put_85, lN_and hn, lN_cmp, g, aFld, aFds, aRow, aRowR, aRefs, aLn, if_true, List.getElem?_cons_zero, List.getElem?_cons_succ, List.set_cons_zero, List.set_cons_succ, List.length_cons, List.length_nil, Option.some.injEq, exists_eq_left', aput_same, aclr_none, aclr_int, aclr_ref, aclr_null, aret_some, aret_none, bz, bz0, bz1, true_and, and_true, vpT, nIc, nI_add, pk_mul, nI_sub', Nat.add_zero, Nat.zero_add, upd_same, upd_ne, if_false, not_true_eq_false, not_false_eq_true, ite_z, ite_o, eq_self, Bool.false_eq_true, nI_leT, nI_leF, nI_ltT, nI_ltF, nI_ne, and_self, false_and, and_false]
      by_cases g0 : nI i = nI 0 <;> simp only [g0, aFld, aFds, aRow, aRowR, aRefs, aLn, if_true, List.getElem?_cons_zero, List.getElem?_cons_succ, List.set_cons_zero, List.set_cons_succ, List.length_cons, List.length_nil, Option.some.injEq, exists_eq_left', aput_same, aclr_none, aclr_int, aclr_ref, aclr_null, aret_some, aret_none, bz, bz0, bz1, true_and, and_true, vpT, nIc, nI_add, pk_mul, nI_sub', Nat.add_zero, Nat.zero_add, upd_same, upd_ne, if_false, not_true_eq_false, not_false_eq_true, ite_z, ite_o, eq_self, Bool.false_eq_true, nI_leT, nI_leF, nI_ltT, nI_ltF, nI_ne, and_self, false_and, and_false]
    · simp (disch := omega) only [sX7_put_9, sX7_put_11, sX7_put_14, sX7_put_16, sX7_put_19, sX7_put_20, sX7_put_21, sX7_put_22, sX7_put_25, sX7_put_27, sX7_put_30, sX7_put_32, sX7_put_35, sX7_put_36, sX7_put_37, sX7_put_39, sX7_put_41, sX7_put_44, sX7_put_47, sX7_put_48, sX7_put_51, sX7_put_52, sX7_put_54, sX7_put_56, sX7_put_58, sX7_put_59, sX7_put_61, sX7_put_64, lN_and hn, lN_up hn, lN_cmp, g, aFld, aFds, aRow, aRowR, aRefs, aLn, if_true, List.getElem?_cons_zero, List.getElem?_cons_succ, List.set_cons_zero, List.set_cons_succ, List.length_cons, List.length_nil, Option.some.injEq, exists_eq_left', aput_same, aclr_none, aclr_int, aclr_ref, aclr_null, aret_some, aret_none, bz, bz0, bz1, true_and, and_true, vpT, nIc, nI_add, pk_mul, nI_sub', Nat.add_zero, Nat.zero_add, upd_same, upd_ne, if_false, not_true_eq_false, not_false_eq_true, ite_z, ite_o, eq_self, Bool.false_eq_true, nI_leT, nI_leF, nI_ltT, nI_ltF, nI_ne, and_self, false_and, and_false]
      exact ih
theorem mp_put1 (hn : n < 2 ^ 64) : ∀ (k i : Nat) (Q : aQ), i + k = 8 → (aX (d + 1) iX7_put 8 [some (.ref m), some (.long (lN n)), none, some (.int (nI i)), some (.long (lN (pR n i))), none, some (.int (nI 1)), none] [] σ Q ↔ if pC n k i = 0 then Q (some (.int (-2))) σ else aX (d + 1) iX7_put 86 [some (.ref m), some (.long (lN n)), none, some (.int (nI (pC n k i))), some (.long (lN 0)), none, some (.int (nI 1)), none] [] σ Q)
  | 0, i, Q, h => by
    have e : i = 8 := by omega
    subst e
    rw [sX7_put_8]
    simp (disch := omega) only [sX7_put_9, sX7_put_11, sX7_put_14, sX7_put_16, sX7_put_19, sX7_put_20, sX7_put_21, sX7_put_22, sX7_put_25, sX7_put_27, sX7_put_30, sX7_put_32, sX7_put_35, sX7_put_36, sX7_put_37, sX7_put_39, sX7_put_41, sX7_put_44, sX7_put_47, sX7_put_48, sX7_put_51, sX7_put_52, sX7_put_54, sX7_put_56, sX7_put_58, sX7_put_59, sX7_put_61, sX7_put_64, sX7_put_67, sX7_put_68, sX7_put_71, sX7_put_73, sX7_put_76, sX7_put_78, sX7_put_79, sX7_put_80, pR_8 hn, lN_cmp, pC, aFld, aFds, aRow, aRowR, aRefs, aLn, if_true, List.getElem?_cons_zero, List.getElem?_cons_succ, List.set_cons_zero, List.set_cons_succ, List.length_cons, List.length_nil, Option.some.injEq, exists_eq_left', aput_same, aclr_none, aclr_int, aclr_ref, aclr_null, aret_some, aret_none, bz, bz0, bz1, true_and, and_true, vpT, nIc, nI_add, pk_mul, nI_sub', Nat.add_zero, Nat.zero_add, upd_same, upd_ne, if_false, not_true_eq_false, not_false_eq_true, ite_z, ite_o, eq_self, Bool.false_eq_true, nI_leT, nI_leF, nI_ltT, nI_ltF, nI_ne, and_self, false_and, and_false]
    simp
  | k + 1, i, Q, h => by
    have ih := mp_put1 hn k (i + 1) Q (by omega)
    have ih0 := mp_put0 (d := d) (σ := σ) (m := m) hn k (i + 1) Q (by omega)
    have hlt := pR_lt hn i
    rw [sX7_put_8, pC]
    by_cases g : pR n i % 256 = 0
    · simp (disch := omega) only [sX7_put_9, sX7_put_11, sX7_put_14, sX7_put_16, sX7_put_19, sX7_put_20, sX7_put_21, sX7_put_22, sX7_put_67, sX7_put_68, sX7_put_71, sX7_put_73, sX7_put_76, sX7_put_78, sX7_put_79, sX7_put_80, sX7_put_83, sX7_put_85, lN_and hn, lN_cmp, g, aFld, aFds, aRow, aRowR, aRefs, aLn, if_true, List.getElem?_cons_zero, List.getElem?_cons_succ, List.set_cons_zero, List.set_cons_succ, List.length_cons, List.length_nil, Option.some.injEq, exists_eq_left', aput_same, aclr_none, aclr_int, aclr_ref, aclr_null, aret_some, aret_none, bz, bz0, bz1, true_and, and_true, vpT, nIc, nI_add, pk_mul, nI_sub', Nat.add_zero, Nat.zero_add, upd_same, upd_ne, if_false, not_true_eq_false, not_false_eq_true, ite_z, ite_o, eq_self, Bool.false_eq_true, nI_leT, nI_leF, nI_ltT, nI_ltF, nI_ne, and_self, false_and, and_false]
      by_cases g0 : pR n i = 0
      · by_cases gi : i = 0
        · subst gi
          simp only [g0, aFld, aFds, aRow, aRowR, aRefs, aLn, if_true, List.getElem?_cons_zero, List.getElem?_cons_succ, List.set_cons_zero, List.set_cons_succ, List.length_cons, List.length_nil, Option.some.injEq, exists_eq_left', aput_same, aclr_none, aclr_int, aclr_ref, aclr_null, aret_some, aret_none, bz, bz0, bz1, true_and, and_true, vpT, nIc, nI_add, pk_mul, nI_sub', Nat.add_zero, Nat.zero_add, upd_same, upd_ne, if_false, not_true_eq_false, not_false_eq_true, ite_z, ite_o, eq_self, Bool.false_eq_true, nI_leT, nI_leF, nI_ltT, nI_ltF, nI_ne, and_self, false_and, and_false]
        · simp (disch := omega) only [g0, gi, aFld, aFds, aRow, aRowR, aRefs, aLn, if_true, List.getElem?_cons_zero, List.getElem?_cons_succ, List.set_cons_zero, List.set_cons_succ, List.length_cons, List.length_nil, Option.some.injEq, exists_eq_left', aput_same, aclr_none, aclr_int, aclr_ref, aclr_null, aret_some, aret_none, bz, bz0, bz1, true_and, and_true, vpT, nIc, nI_add, pk_mul, nI_sub', Nat.add_zero, Nat.zero_add, upd_same, upd_ne, if_false, not_true_eq_false, not_false_eq_true, ite_z, ite_o, eq_self, Bool.false_eq_true, nI_leT, nI_leF, nI_ltT, nI_ltF, nI_ne, and_self, false_and, and_false]
      · by_cases gi : i = 0
        · subst gi
          simp only [g0, aFld, aFds, aRow, aRowR, aRefs, aLn, if_true, List.getElem?_cons_zero, List.getElem?_cons_succ, List.set_cons_zero, List.set_cons_succ, List.length_cons, List.length_nil, Option.some.injEq, exists_eq_left', aput_same, aclr_none, aclr_int, aclr_ref, aclr_null, aret_some, aret_none, bz, bz0, bz1, true_and, and_true, vpT, nIc, nI_add, pk_mul, nI_sub', Nat.add_zero, Nat.zero_add, upd_same, upd_ne, if_false, not_true_eq_false, not_false_eq_true, ite_z, ite_o, eq_self, Bool.false_eq_true, nI_leT, nI_leF, nI_ltT, nI_ltF, nI_ne, and_self, false_and, and_false]
          simp
        · simp (disch := omega) only [g0, gi, aFld, aFds, aRow, aRowR, aRefs, aLn, if_true, List.getElem?_cons_zero, List.getElem?_cons_succ, List.set_cons_zero, List.set_cons_succ, List.length_cons, List.length_nil, Option.some.injEq, exists_eq_left', aput_same, aclr_none, aclr_int, aclr_ref, aclr_null, aret_some, aret_none, bz, bz0, bz1, true_and, and_true, vpT, nIc, nI_add, pk_mul, nI_sub', Nat.add_zero, Nat.zero_add, upd_same, upd_ne, if_false, not_true_eq_false, not_false_eq_true, ite_z, ite_o, eq_self, Bool.false_eq_true, nI_leT, nI_leF, nI_ltT, nI_ltF, nI_ne, and_self, false_and, and_false]
          simp
    · have g0 : ¬ pR n i = 0 := fun e => g (by rw [e])
      by_cases g1 : 33 ≤ pR n i % 256 ∧ pR n i % 256 ≤ 126
      · simp (disch := omega) only [sX7_put_9, sX7_put_11, sX7_put_14, sX7_put_16, sX7_put_19, sX7_put_20, sX7_put_21, sX7_put_22, sX7_put_25, sX7_put_27, sX7_put_30, sX7_put_32, sX7_put_35, sX7_put_36, sX7_put_37, sX7_put_39, sX7_put_41, sX7_put_44, sX7_put_47, sX7_put_48, sX7_put_51, sX7_put_52, sX7_put_54, sX7_put_56, sX7_put_58, sX7_put_59, sX7_put_61, sX7_put_64, lN_and hn, lN_up hn, lN_cmp, lN_32, mm_within, nI_leL, g, g0, g1, aFld, aFds, aRow, aRowR, aRefs, aLn, if_true, List.getElem?_cons_zero, List.getElem?_cons_succ, List.set_cons_zero, List.set_cons_succ, List.length_cons, List.length_nil, Option.some.injEq, exists_eq_left', aput_same, aclr_none, aclr_int, aclr_ref, aclr_null, aret_some, aret_none, bz, bz0, bz1, true_and, and_true, vpT, nIc, nI_add, pk_mul, nI_sub', Nat.add_zero, Nat.zero_add, upd_same, upd_ne, if_false, not_true_eq_false, not_false_eq_true, ite_z, ite_o, eq_self, Bool.false_eq_true, nI_leT, nI_leF, nI_ltT, nI_ltF, nI_ne, and_self, false_and, and_false]
        rw [if_neg (show ¬ 8 ≤ i by omega)]
        exact ih
      · simp (disch := omega) only [sX7_put_9, sX7_put_11, sX7_put_14, sX7_put_16, sX7_put_19, sX7_put_20, sX7_put_21, sX7_put_22, sX7_put_25, sX7_put_27, sX7_put_30, sX7_put_32, sX7_put_35, sX7_put_36, sX7_put_37, sX7_put_39, sX7_put_41, sX7_put_44, sX7_put_47, sX7_put_48, sX7_put_51, sX7_put_52, sX7_put_54, sX7_put_56, sX7_put_58, sX7_put_59, sX7_put_61, sX7_put_64, lN_and hn, lN_up hn, lN_cmp, lN_32, mm_within, nI_leL, g, g0, g1, aFld, aFds, aRow, aRowR, aRefs, aLn, if_true, List.getElem?_cons_zero, List.getElem?_cons_succ, List.set_cons_zero, List.set_cons_succ, List.length_cons, List.length_nil, Option.some.injEq, exists_eq_left', aput_same, aclr_none, aclr_int, aclr_ref, aclr_null, aret_some, aret_none, bz, bz0, bz1, true_and, and_true, vpT, nIc, nI_add, pk_mul, nI_sub', Nat.add_zero, Nat.zero_add, upd_same, upd_ne, if_false, not_true_eq_false, not_false_eq_true, ite_z, ite_o, eq_self, Bool.false_eq_true, nI_leT, nI_leF, nI_ltT, nI_ltF, nI_ne, and_self, false_and, and_false]
        rw [if_neg (show ¬ 8 ≤ i by omega)]
        exact ih0
theorem mp_put2 (hn : n < 2 ^ 64) {z : Nat} (hz : z ≤ 8) (hL : L + z ≤ 80) : ∀ (j i : Nat) (Q : aQ), i + j = z → (aX (d + 1) iX7_put 105 [some (.ref m), some (.long (lN n)), none, some (.int (nI z)), some (.long (lN 0)), none, some (.int (nI 1)), some (.int (pK j))] [] (mT σ m (mF m (nI rc) (nI (L + i)) at' le fi se) kp hi sl sv (mPd pd L n z i) st) Q ↔ Q (some (.int (nI (L + z)))) (mT σ m (mF m (nI rc) (nI (L + z)) at' le fi se) kp hi sl sv (mPd pd L n z z) st))
  | 0, i, Q, h => by
    have e : i = z := by omega
    subst e
    have h1 : ((-1 : Int32) < nI 0) = True := eq_true (by decide)
    rw [sX7_put_105]
    simp (disch := omega) only [sX7_put_107, sX7_put_147, sX7_put_148, sX7_put_151, pK, h1, mT_0, mT_1, mT_2, mT_3, mT_4, mT_5, mT_6, mT_w0, mT_w1, mT_w2, mT_w3, mT_w4, mT_w5, mT_w6, mF, aFld, aFds, aRow, aRowR, aRefs, aLn, if_true, List.getElem?_cons_zero, List.getElem?_cons_succ, List.set_cons_zero, List.set_cons_succ, List.length_cons, List.length_nil, Option.some.injEq, exists_eq_left', aput_same, aclr_none, aclr_int, aclr_ref, aclr_null, aret_some, aret_none, bz, bz0, bz1, true_and, and_true, vpT, nIc, nI_add, pk_mul, nI_sub', Nat.add_zero, Nat.zero_add, upd_same, upd_ne, if_false, not_true_eq_false, not_false_eq_true, ite_z, ite_o, eq_self, Bool.false_eq_true, nI_leT, nI_leF, nI_ltT, nI_ltF, nI_ne, and_self, false_and, and_false]
  | j + 1, i, Q, h => by
    have ih := mp_put2 hn hz hL j (i + 1) Q (by omega)
    have e : mPd pd L n z (i + 1) = upd (mPd pd L n z i) (L + i) (nI (pR n j % 256)) := by rw [mPd, show z - 1 - i = j by omega]
    rw [e] at ih
    rw [sX7_put_105]
    simp (disch := omega) only [sX7_put_107, sX7_put_110, sX7_put_111, sX7_put_114, sX7_put_115, sX7_put_118, sX7_put_119, sX7_put_121, sX7_put_123, sX7_put_124, sX7_put_125, sX7_put_128, sX7_put_129, sX7_put_130, sX7_put_131, sX7_put_132, sX7_put_132i, sX7_put_133, sX7_put_136, sX7_put_137, sX7_put_138, sX7_put_141, sX7_put_144, pK, lN_at hn, lN_and hn, lN_32, mT_0, mT_1, mT_2, mT_3, mT_4, mT_5, mT_6, mT_w0, mT_w1, mT_w2, mT_w3, mT_w4, mT_w5, mT_w6, mF, aFld, aFds, aRow, aRowR, aRefs, aLn, if_true, List.getElem?_cons_zero, List.getElem?_cons_succ, List.set_cons_zero, List.set_cons_succ, List.length_cons, List.length_nil, Option.some.injEq, exists_eq_left', aput_same, aclr_none, aclr_int, aclr_ref, aclr_null, aret_some, aret_none, bz, bz0, bz1, true_and, and_true, vpT, nIc, nI_add, pk_mul, nI_sub', Nat.add_zero, Nat.zero_add, upd_same, upd_ne, if_false, not_true_eq_false, not_false_eq_true, ite_z, ite_o, eq_self, Bool.false_eq_true, nI_leT, nI_leF, nI_ltT, nI_ltF, nI_ne, and_self, false_and, and_false]
    simp (disch := omega) only [pK_m, mT_0, mT_1, mT_2, mT_3, mT_4, mT_5, mT_6, mT_w0, mT_w1, mT_w2, mT_w3, mT_w4, mT_w5, mT_w6, mF, aFld, aFds, aRow, aRowR, aRefs, aLn, if_true, List.getElem?_cons_zero, List.getElem?_cons_succ, List.set_cons_zero, List.set_cons_succ, List.length_cons, List.length_nil, Option.some.injEq, exists_eq_left', aput_same, aclr_none, aclr_int, aclr_ref, aclr_null, aret_some, aret_none, bz, bz0, bz1, true_and, and_true, vpT, nIc, nI_add, pk_mul, nI_sub', Nat.add_zero, Nat.zero_add, upd_same, upd_ne, if_false, not_true_eq_false, not_false_eq_true, ite_z, ite_o, eq_self, Bool.false_eq_true, nI_leT, nI_leF, nI_ltT, nI_ltF, nI_ne, and_self, false_and, and_false, Nat.reduceAdd, Nat.reduceSub, Nat.reduceMul, Nat.reduceLT, Nat.reduceLeDiff, true_and] at ih ⊢
    exact ih
theorem mq_put (hn : n < 2 ^ 64) (hL : L ≤ 80) : aX (d + 1) iX7_put 0 [some (.ref m), some (.long (lN n)), none, none, none, none, none, none] [] (mT σ m (mF m (nI rc) (nI L) at' le fi se) kp hi sl sv pd st) Q ↔ if pC n 8 0 = 0 then Q (some (.int (-2))) (mT σ m (mF m (nI rc) (nI L) at' le fi se) kp hi sl sv pd st) else if 80 < L + pC n 8 0 then Q (some (.int (-4))) (mT σ m (mF m (nI rc) (nI L) at' le fi se) kp hi sl sv pd st) else Q (some (.int (nI (L + pC n 8 0)))) (mT σ m (mF m (nI rc) (nI (L + pC n 8 0)) at' le fi se) kp hi sl sv (mPd pd L n (pC n 8 0) (pC n 8 0)) st) := by
  have hle := pC_le n 8 0
  have h1 := mp_put1 (d := d) (σ := mT σ m (mF m (nI rc) (nI L) at' le fi se) kp hi sl sv pd st) (m := m) hn 8 0 Q rfl
  rw [pR_z] at h1
  simp (disch := omega) only [sX7_put_0, sX7_put_1, sX7_put_2, sX7_put_3, sX7_put_5, sX7_put_6, aFld, aFds, aRow, aRowR, aRefs, aLn, if_true, List.getElem?_cons_zero, List.getElem?_cons_succ, List.set_cons_zero, List.set_cons_succ, List.length_cons, List.length_nil, Option.some.injEq, exists_eq_left', aput_same, aclr_none, aclr_int, aclr_ref, aclr_null, aret_some, aret_none, bz, bz0, bz1, true_and, and_true, vpT, nIc, nI_add, pk_mul, nI_sub', Nat.add_zero, Nat.zero_add, upd_same, upd_ne, if_false, not_true_eq_false, not_false_eq_true, ite_z, ite_o, eq_self, Bool.false_eq_true, nI_leT, nI_leF, nI_ltT, nI_ltF, nI_ne, and_self, false_and, and_false]
  rw [h1]
  by_cases g : pC n 8 0 = 0
  · rw [if_pos g, if_pos g]
  · rw [if_neg g, if_neg g]
    by_cases g2 : 80 < L + pC n 8 0
    · rw [if_pos g2]
      simp (disch := omega) only [sX7_put_86, sX7_put_87, sX7_put_90, sX7_put_91, sX7_put_92, sX7_put_94, sX7_put_97, sX7_put_99, mT_0, mT_1, mT_2, mT_3, mT_4, mT_5, mT_6, mT_w0, mT_w1, mT_w2, mT_w3, mT_w4, mT_w5, mT_w6, mF, aFld, aFds, aRow, aRowR, aRefs, aLn, if_true, List.getElem?_cons_zero, List.getElem?_cons_succ, List.set_cons_zero, List.set_cons_succ, List.length_cons, List.length_nil, Option.some.injEq, exists_eq_left', aput_same, aclr_none, aclr_int, aclr_ref, aclr_null, aret_some, aret_none, bz, bz0, bz1, true_and, and_true, vpT, nIc, nI_add, pk_mul, nI_sub', Nat.add_zero, Nat.zero_add, upd_same, upd_ne, if_false, not_true_eq_false, not_false_eq_true, ite_z, ite_o, eq_self, Bool.false_eq_true, nI_leT, nI_leF, nI_ltT, nI_ltF, nI_ne, and_self, false_and, and_false]
    · rw [if_neg g2]
      have h2 := mp_put2 (d := d) (σ := σ) (m := m) (rc := rc) (kp := kp) (hi := hi) (sl := sl) (sv := sv) (pd := pd) (st := st) (at' := at') (le := le) (fi := fi) (se := se) (L := L) hn (show pC n 8 0 ≤ 8 by omega) (by omega) (pC n 8 0) 0 Q (by omega)
      have e : nI (pC n 8 0 - 1) = pK (pC n 8 0) := by
        obtain ⟨k, hk⟩ : ∃ k, pC n 8 0 = k + 1 := ⟨pC n 8 0 - 1, by omega⟩
        rw [hk]; rfl
      rw [← h2]
      simp (disch := omega) only [sX7_put_86, sX7_put_87, sX7_put_90, sX7_put_91, sX7_put_92, sX7_put_94, sX7_put_97, sX7_put_99, sX7_put_100, sX7_put_101, sX7_put_102, sX7_put_103, e, mPd, mT_0, mT_1, mT_2, mT_3, mT_4, mT_5, mT_6, mT_w0, mT_w1, mT_w2, mT_w3, mT_w4, mT_w5, mT_w6, mF, aFld, aFds, aRow, aRowR, aRefs, aLn, if_true, List.getElem?_cons_zero, List.getElem?_cons_succ, List.set_cons_zero, List.set_cons_succ, List.length_cons, List.length_nil, Option.some.injEq, exists_eq_left', aput_same, aclr_none, aclr_int, aclr_ref, aclr_null, aret_some, aret_none, bz, bz0, bz1, true_and, and_true, vpT, nIc, nI_add, pk_mul, nI_sub', Nat.add_zero, Nat.zero_add, upd_same, upd_ne, if_false, not_true_eq_false, not_false_eq_true, ite_z, ite_o, eq_self, Bool.false_eq_true, nI_leT, nI_leF, nI_ltT, nI_ltF, nI_ne, and_self, false_and, and_false]
end MP2
