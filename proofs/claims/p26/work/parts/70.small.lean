/-! THE LAW: its small methods -/
def lwF (v : Int32) (n : Nat) : Nat := (v.toBitVec.toNat &&& 2147483647) % n
theorem lwF_lt (v : Int32) {n : Nat} (h : 0 < n) : lwF v n < n := Nat.mod_lt _ h
theorem and_max (x : Int32) : x &&& 2147483647 = nI (x.toBitVec.toNat &&& 2147483647) := by
  apply Int32.toBitVec_inj.1
  apply BitVec.eq_of_toNat_eq
  show (x.toBitVec &&& (2147483647#32)).toNat = (BitVec.ofNat 32 (x.toBitVec.toNat &&& 2147483647)).toNat
  have h : x.toBitVec.toNat &&& 2147483647 ≤ 2147483647 := Nat.and_le_right
  rw [BitVec.toNat_and, BitVec.toNat_ofNat, Nat.mod_eq_of_lt (show 2147483647 < 2 ^ 32 by decide), BitVec.toNat_ofNat, Nat.mod_eq_of_lt (by omega)]
/-- the law's own count of bits: w &= w - 1 -/
def lBc : Nat → Int32 → Int32
  | 0, _ => nI 0
  | k + 1, w => if w = nI 0 then nI 0 else nI 1 + lBc k (w &&& (w - nI 1))
def lBe : Nat → Int32 → Int32
  | 0, w => w
  | k + 1, w => if w = nI 0 then w else lBe k (w &&& (w - nI 1))
theorem lB_all : ∀ h, h < 64 → ∀ l, l < 64 → lBe 12 (nI (64 * h + l)) = nI 0 ∧ lBc 12 (nI (64 * h + l)) = mBits (nI (64 * h + l)) 12 := by decide +kernel
theorem lB_eq {v : Nat} (h : v < 4096) : lBe 12 (nI v) = nI 0 ∧ lBc 12 (nI v) = mBits (nI v) 12 := by
  have := lB_all (v / 64) (by omega) (v % 64) (by omega)
  rw [show 64 * (v / 64) + v % 64 = v by omega] at this
  exact this
section LS
variable {d : Nat} {σ : aS} {Q : aQ} {b L k : Nat} {xs : Nat → Int32}
theorem l_cell (hs : σ.1 b = some (eS L xs)) (hL : L ≤ 260) (hk : k < 1000) (K : ∀ v : Int32, Q (some (.int v)) σ) : aX d iL_cell 0 [some (.ref b), some (.int (nI k))] [] σ Q := by
  by_cases h : k < L
  · simp (disch := omega) only [sL_cell_0, sL_cell_1, sL_cell_2, sL_cell_3, sL_cell_6, sL_cell_7, sL_cell_8, sL_cell_9, sL_cell_12, sL_cell_14, sL_cell_15, sL_cell_16, sL_cell_17, sL_cell_18, sL_cell_20, sL_cell_21, hs, aFld, aFds, aRow, aRowR, aRefs, aLn, if_true, List.getElem?_cons_zero, List.getElem?_cons_succ, List.set_cons_zero, List.set_cons_succ, List.length_cons, List.length_nil, Option.some.injEq, exists_eq_left', aput_same, aclr_none, aclr_int, aclr_ref, aclr_null, aret_some, aret_none, bz, bz0, bz1, true_and, and_true, vpT, nIc, nI_add, pk_mul, nI_sub', Nat.add_zero, Nat.zero_add, upd_same, upd_ne, if_false, not_true_eq_false, not_false_eq_true, ite_z, ite_o, eq_self, Bool.false_eq_true, nI_leT, nI_leF, nI_ltT, nI_ltF, nI_ne, and_self, false_and, and_false, nI_rem]
    exact K _
  · simp (disch := omega) only [sL_cell_0, sL_cell_1, sL_cell_2, sL_cell_3, sL_cell_6, sL_cell_7, sL_cell_8, sL_cell_9, sL_cell_12, sL_cell_14, sL_cell_15, sL_cell_16, sL_cell_17, sL_cell_18, sL_cell_20, sL_cell_21, hs, aFld, aFds, aRow, aRowR, aRefs, aLn, if_true, List.getElem?_cons_zero, List.getElem?_cons_succ, List.set_cons_zero, List.set_cons_succ, List.length_cons, List.length_nil, Option.some.injEq, exists_eq_left', aput_same, aclr_none, aclr_int, aclr_ref, aclr_null, aret_some, aret_none, bz, bz0, bz1, true_and, and_true, vpT, nIc, nI_add, pk_mul, nI_sub', Nat.add_zero, Nat.zero_add, upd_same, upd_ne, if_false, not_true_eq_false, not_false_eq_true, ite_z, ite_o, eq_self, Bool.false_eq_true, nI_leT, nI_leF, nI_ltT, nI_ltF, nI_ne, and_self, false_and, and_false, nI_rem]
    exact K _
theorem l_low {v : Int32} {n : Nat} (h0 : 0 < n) (hn : n < 2147483648) : aX d iL_low 0 [some (.int v), some (.int (nI n))] [] σ Q ↔ Q (some (.int (nI (lwF v n)))) σ := by
  have h : v.toBitVec.toNat &&& 2147483647 < 2147483648 := by
    have : v.toBitVec.toNat &&& 2147483647 ≤ 2147483647 := Nat.and_le_right
    omega
  have hr := nI_rem h h0 hn
  have hz : ¬ nI n = nI 0 := fun z => by have := (nI_eq hn (by omega)).mp z; omega
  simp (disch := omega) only [sL_low_0, sL_low_1, sL_low_3, sL_low_4, sL_low_5, sL_low_6, and_max, hr, hz, aFld, aFds, aRow, aRowR, aRefs, aLn, if_true, List.getElem?_cons_zero, List.getElem?_cons_succ, List.set_cons_zero, List.set_cons_succ, List.length_cons, List.length_nil, Option.some.injEq, exists_eq_left', aput_same, aclr_none, aclr_int, aclr_ref, aclr_null, aret_some, aret_none, bz, bz0, bz1, true_and, and_true, vpT, nIc, nI_add, pk_mul, nI_sub', Nat.add_zero, Nat.zero_add, upd_same, upd_ne, if_false, not_true_eq_false, not_false_eq_true, ite_z, ite_o, eq_self, Bool.false_eq_true, nI_leT, nI_leF, nI_ltT, nI_ltF, nI_ne, and_self, false_and, and_false, lwF]
theorem l_bits_loop {v : Int32} : ∀ (k : Nat) (w c : Int32) (Q : aQ), lBe k w = nI 0 → (aX d iL_bits 4 [some (.int v), some (.int c), some (.int w)] [] σ Q ↔ Q (some (.int (c + lBc k w))) σ)
  | 0, w, c, Q, h => by
    rw [lBe] at h
    subst h
    rw [lBc, sL_bits_4]
    simp (disch := omega) only [sL_bits_5, sL_bits_8, sL_bits_11, sL_bits_12, sL_bits_13, sL_bits_14, sL_bits_15, sL_bits_16, sL_bits_17, sL_bits_20, sL_bits_21, aFld, aFds, aRow, aRowR, aRefs, aLn, if_true, List.getElem?_cons_zero, List.getElem?_cons_succ, List.set_cons_zero, List.set_cons_succ, List.length_cons, List.length_nil, Option.some.injEq, exists_eq_left', aput_same, aclr_none, aclr_int, aclr_ref, aclr_null, aret_some, aret_none, bz, bz0, bz1, true_and, and_true, vpT, nIc, nI_add, pk_mul, nI_sub', Nat.add_zero, Nat.zero_add, upd_same, upd_ne, if_false, not_true_eq_false, not_false_eq_true, ite_z, ite_o, eq_self, Bool.false_eq_true, nI_leT, nI_leF, nI_ltT, nI_ltF, nI_ne, and_self, false_and, and_false, nI_rem]
    rw [nI_0, Int32.add_zero]
  | k + 1, w, c, Q, h => by
    rw [lBe] at h
    rw [lBc, sL_bits_4]
    by_cases g : w = nI 0
    · subst g
      rw [if_pos rfl]
      simp (disch := omega) only [sL_bits_5, sL_bits_8, sL_bits_11, sL_bits_12, sL_bits_13, sL_bits_14, sL_bits_15, sL_bits_16, sL_bits_17, sL_bits_20, sL_bits_21, aFld, aFds, aRow, aRowR, aRefs, aLn, if_true, List.getElem?_cons_zero, List.getElem?_cons_succ, List.set_cons_zero, List.set_cons_succ, List.length_cons, List.length_nil, Option.some.injEq, exists_eq_left', aput_same, aclr_none, aclr_int, aclr_ref, aclr_null, aret_some, aret_none, bz, bz0, bz1, true_and, and_true, vpT, nIc, nI_add, pk_mul, nI_sub', Nat.add_zero, Nat.zero_add, upd_same, upd_ne, if_false, not_true_eq_false, not_false_eq_true, ite_z, ite_o, eq_self, Bool.false_eq_true, nI_leT, nI_leF, nI_ltT, nI_ltF, nI_ne, and_self, false_and, and_false, nI_rem]
      rw [nI_0, Int32.add_zero]
    · rw [if_neg g] at h
      have ih := l_bits_loop (v := v) k (w &&& (w - nI 1)) (c + nI 1) Q h
      rw [if_neg g, ← Int32.add_assoc, ← ih]
      simp (disch := omega) only [sL_bits_5, sL_bits_8, sL_bits_11, sL_bits_12, sL_bits_13, sL_bits_14, sL_bits_15, sL_bits_16, sL_bits_17, g, aFld, aFds, aRow, aRowR, aRefs, aLn, if_true, List.getElem?_cons_zero, List.getElem?_cons_succ, List.set_cons_zero, List.set_cons_succ, List.length_cons, List.length_nil, Option.some.injEq, exists_eq_left', aput_same, aclr_none, aclr_int, aclr_ref, aclr_null, aret_some, aret_none, bz, bz0, bz1, true_and, and_true, vpT, nIc, nI_add, pk_mul, nI_sub', Nat.add_zero, Nat.zero_add, upd_same, upd_ne, if_false, not_true_eq_false, not_false_eq_true, ite_z, ite_o, eq_self, Bool.false_eq_true, nI_leT, nI_leF, nI_ltT, nI_ltF, nI_ne, and_self, false_and, and_false, nI_rem]
theorem l_bits {x : Int32} (hx : ∃ v, x = nI v ∧ v < 4096) : aX d iL_bits 0 [some (.int x), none, none] [] σ Q ↔ Q (some (.int (mBits x 12))) σ := by
  obtain ⟨v, rfl, hv⟩ := hx
  obtain ⟨h1, h2⟩ := lB_eq hv
  have h := l_bits_loop (d := d) (σ := σ) (v := nI v) 12 (nI v) (nI 0) Q h1
  rw [h2, nI_0, Int32.zero_add] at h
  rw [← h]
  simp (disch := omega) only [sL_bits_0, sL_bits_1, sL_bits_2, sL_bits_3, aFld, aFds, aRow, aRowR, aRefs, aLn, if_true, List.getElem?_cons_zero, List.getElem?_cons_succ, List.set_cons_zero, List.set_cons_succ, List.length_cons, List.length_nil, Option.some.injEq, exists_eq_left', aput_same, aclr_none, aclr_int, aclr_ref, aclr_null, aret_some, aret_none, bz, bz0, bz1, true_and, and_true, vpT, nIc, nI_add, pk_mul, nI_sub', Nat.add_zero, Nat.zero_add, upd_same, upd_ne, if_false, not_true_eq_false, not_false_eq_true, ite_z, ite_o, eq_self, Bool.false_eq_true, nI_leT, nI_leF, nI_ltT, nI_ltF, nI_ne, and_self, false_and, and_false, nI_rem, nI_0]
theorem l_seat {p : Nat} (hp : p < 2147483648) : aX d iL_seat 0 [some (.int (nI p))] [] σ Q ↔ Q (some (.int (nI (p / 10000)))) σ := by
  simp (disch := omega) only [sL_seat_0, sL_seat_1, sL_seat_4, sL_seat_5, aFld, aFds, aRow, aRowR, aRefs, aLn, if_true, List.getElem?_cons_zero, List.getElem?_cons_succ, List.set_cons_zero, List.set_cons_succ, List.length_cons, List.length_nil, Option.some.injEq, exists_eq_left', aput_same, aclr_none, aclr_int, aclr_ref, aclr_null, aret_some, aret_none, bz, bz0, bz1, true_and, and_true, vpT, nIc, nI_add, pk_mul, nI_sub', Nat.add_zero, Nat.zero_add, upd_same, upd_ne, if_false, not_true_eq_false, not_false_eq_true, ite_z, ite_o, eq_self, Bool.false_eq_true, nI_leT, nI_leF, nI_ltT, nI_ltF, nI_ne, and_self, false_and, and_false, nI_div]
theorem l_what {p : Nat} (hp : p < 2147483648) : aX d iL_what 0 [some (.int (nI p))] [] σ Q ↔ Q (some (.int (nI (p % 5000)))) σ := by
  simp (disch := omega) only [sL_what_0, sL_what_1, sL_what_4, sL_what_5, aFld, aFds, aRow, aRowR, aRefs, aLn, if_true, List.getElem?_cons_zero, List.getElem?_cons_succ, List.set_cons_zero, List.set_cons_succ, List.length_cons, List.length_nil, Option.some.injEq, exists_eq_left', aput_same, aclr_none, aclr_int, aclr_ref, aclr_null, aret_some, aret_none, bz, bz0, bz1, true_and, and_true, vpT, nIc, nI_add, pk_mul, nI_sub', Nat.add_zero, Nat.zero_add, upd_same, upd_ne, if_false, not_true_eq_false, not_false_eq_true, ite_z, ite_o, eq_self, Bool.false_eq_true, nI_leT, nI_leF, nI_ltT, nI_ltF, nI_ne, and_self, false_and, and_false, nI_rem]
end LS
