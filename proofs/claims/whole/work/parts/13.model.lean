/-! THE REFERENCE: its small methods -/
/-- a mask's bits, as the reference counts them -/
def mBits (v : Int32) : Nat → Int32
  | 0 => nI 0
  | k + 1 => mBits v k + (v >>> (nI k &&& 31) &&& nI 1)
def mTk (st : Nat → Int32) (s : Int32) : Bool := decide (st 16 >>> (s &&& 31) &&& nI 1 = nI 1)
def mSeats (st : Nat → Int32) (a : Nat) : Nat → Int32
  | 0 => nI 0
  | g + 1 => mSeats st a g ||| nI 1 <<< (st (35 + 28 * a + (4 + 3 * g + 0)) &&& 31)
def mAlbOf (st : Nat → Int32) (s : Int32) : Nat → Int32
  | 0 => -6
  | i + 1 => if st (35 + 28 * i + 0) = s ∧ st (35 + 28 * i + 2) = nI 0 then nI i else mAlbOf st s i
def mHow (st : Nat → Int32) (s : Int32) : Nat → Nat
  | 0 => 0
  | i + 1 => mHow st s i + (if st (35 + 28 * i + 2) = s then 1 else 0)
/-- the word that is most like a drawing, among the first ones -/
def mG (st : Nat → Int32) (dr : Int32) : Nat → Nat
  | 0 => 0
  | w + 1 => if w = 0 then 0 else if mBits (st w ^^^ dr) 12 < mBits (st (mG st dr w) ^^^ dr) 12 then w else mG st dr w
theorem mG_succ (st : Nat → Int32) (dr : Int32) {w : Nat} (h : 1 ≤ w) : mG st dr (w + 1) = if mBits (st w ^^^ dr) 12 < mBits (st (mG st dr w) ^^^ dr) 12 then w else mG st dr w := by
  rw [mG, if_neg (by omega)]
theorem mG_lt (st : Nat → Int32) (dr : Int32) : ∀ w, 1 ≤ w → mG st dr w < w
  | 1, _ => by simp [mG]
  | w + 2, _ => by
    have ih := mG_lt st dr (w + 1) (by omega)
    rw [mG_succ st dr (by omega)]
    split <;> omega
section MO
variable {d : Nat} {σ : aS} {Q : aQ} {m a p : Nat} {st : Nat → Int32} {fs : List Value}
theorem mm_within (v lo hi : Int32) : aX d iX7_within 0 [some (.int v), some (.int lo), some (.int hi)] [] σ Q ↔ Q (some (.int (if lo ≤ v ∧ v ≤ hi then nI 1 else nI 0))) σ := by
  simp only [sX7_within_0, sX7_within_1, sX7_within_2, sX7_within_5, sX7_within_6, sX7_within_7, sX7_within_10, sX7_within_11, sX7_within_14, sX7_within_15, aFld, aFds, aRow, aRowR, aRefs, aLn, if_true, List.getElem?_cons_zero, List.getElem?_cons_succ, List.set_cons_zero, List.set_cons_succ, List.length_cons, List.length_nil, Option.some.injEq, exists_eq_left', aput_same, aclr_none, aclr_int, aclr_ref, aclr_null, aret_some, aret_none, bz, bz0, bz1, true_and, and_true, vpT, nIc, nI_add, pk_mul, nI_sub']
  by_cases h1 : lo ≤ v
  · by_cases h2 : v ≤ hi
    · have h3 : ¬ v < lo := Int32.not_lt.mpr h1
      have h4 : ¬ hi < v := Int32.not_lt.mpr h2
      simp only [h1, h2, h3, h4, if_true, if_false, and_self]
    · have h3 : ¬ v < lo := Int32.not_lt.mpr h1
      have h4 : hi < v := Int32.not_le.mp h2
      simp only [h1, h2, h3, h4, if_true, if_false, and_false]
  · have h3 : v < lo := Int32.not_le.mp h1
    simp only [h1, h3, if_true, if_false, false_and]
theorem mm_isWord (w : Int32) : aX (d + 1) iX7_isWord 0 [some (.int w)] [] σ Q ↔ Q (some (.int (if nI 0 ≤ w ∧ w ≤ nI 15 then nI 1 else nI 0))) σ := by
  simp only [sX7_isWord_0, sX7_isWord_1, sX7_isWord_2, sX7_isWord_4, sX7_isWord_7, mm_within, aFld, aFds, aRow, aRowR, aRefs, aLn, if_true, List.getElem?_cons_zero, List.getElem?_cons_succ, List.set_cons_zero, List.set_cons_succ, List.length_cons, List.length_nil, Option.some.injEq, exists_eq_left', aput_same, aclr_none, aclr_int, aclr_ref, aclr_null, aret_some, aret_none, bz, bz0, bz1, true_and, and_true, vpT, nIc, nI_add, pk_mul, nI_sub']
theorem mm_isSeat (w : Int32) : aX (d + 1) iX7_isSeat 0 [some (.int w)] [] σ Q ↔ Q (some (.int (if nI 0 ≤ w ∧ w ≤ nI 7 then nI 1 else nI 0))) σ := by
  simp only [sX7_isSeat_0, sX7_isSeat_1, sX7_isSeat_2, sX7_isSeat_4, sX7_isSeat_7, mm_within, aFld, aFds, aRow, aRowR, aRefs, aLn, if_true, List.getElem?_cons_zero, List.getElem?_cons_succ, List.set_cons_zero, List.set_cons_succ, List.length_cons, List.length_nil, Option.some.injEq, exists_eq_left', aput_same, aclr_none, aclr_int, aclr_ref, aclr_null, aret_some, aret_none, bz, bz0, bz1, true_and, and_true, vpT, nIc, nI_add, pk_mul, nI_sub']
theorem mm_part (h0 : σ.1 m = some (eO 7 (.ref (m + 1) :: fs))) (h1 : σ.1 (m + 1) = some (eI 371 st)) (hi : 35 + 28 * a + p < 371) : aX d iX7_part 0 [some (.ref m), some (.int (nI a)), some (.int (nI p))] [] σ Q ↔ Q (some (.int (st (35 + 28 * a + p)))) σ := by
  simp (disch := omega) only [sX7_part_0, sX7_part_1, sX7_part_4, sX7_part_6, sX7_part_8, sX7_part_9, sX7_part_10, sX7_part_11, sX7_part_12, sX7_part_13, sX7_part_14, h0, h1, aFld, aFds, aRow, aRowR, aRefs, aLn, if_true, List.getElem?_cons_zero, List.getElem?_cons_succ, List.set_cons_zero, List.set_cons_succ, List.length_cons, List.length_nil, Option.some.injEq, exists_eq_left', aput_same, aclr_none, aclr_int, aclr_ref, aclr_null, aret_some, aret_none, bz, bz0, bz1, true_and, and_true, vpT, nIc, nI_add, pk_mul, nI_sub']
theorem mm_setPart (h0 : σ.1 m = some (eO 7 (.ref (m + 1) :: fs))) (h1 : σ.1 (m + 1) = some (eI 371 st)) (hi : 35 + 28 * a + p < 371) (v : Int32) : aX d iX7_setPart 0 [some (.ref m), some (.int (nI a)), some (.int (nI p)), some (.int v)] [] σ Q ↔ Q none (aput σ (m + 1) (eI 371 (upd st (35 + 28 * a + p) v))) := by
  simp (disch := omega) only [sX7_setPart_0, sX7_setPart_1, sX7_setPart_4, sX7_setPart_6, sX7_setPart_8, sX7_setPart_9, sX7_setPart_10, sX7_setPart_11, sX7_setPart_12, sX7_setPart_13, sX7_setPart_14, sX7_setPart_15, h0, h1, aFld, aFds, aRow, aRowR, aRefs, aLn, if_true, List.getElem?_cons_zero, List.getElem?_cons_succ, List.set_cons_zero, List.set_cons_succ, List.length_cons, List.length_nil, Option.some.injEq, exists_eq_left', aput_same, aclr_none, aclr_int, aclr_ref, aclr_null, aret_some, aret_none, bz, bz0, bz1, true_and, and_true, vpT, nIc, nI_add, pk_mul, nI_sub']
theorem aIsT {σ : aS} {a ci : Nat} {fs : List Value} (h : σ.1 a = some (eO ci fs)) : aIs σ a ci = True := eq_true ⟨fs, h⟩
theorem mm_pagePart {g : Nat} (h0 : σ.1 m = some (eO 7 (.ref (m + 1) :: fs))) (h1 : σ.1 (m + 1) = some (eI 371 st)) (hi : 35 + 28 * a + (4 + 3 * g + p) < 371) : aX (d + 1) iX7_pagePart 0 [some (.ref m), some (.int (nI a)), some (.int (nI g)), some (.int (nI p))] [] σ Q ↔ Q (some (.int (st (35 + 28 * a + (4 + 3 * g + p))))) σ := by
  simp (disch := omega) only [sX7_pagePart_0, sX7_pagePart_1, sX7_pagePart_2, sX7_pagePart_3, sX7_pagePart_4, sX7_pagePart_5, sX7_pagePart_6, sX7_pagePart_7, sX7_pagePart_8, sX7_pagePart_9, sX7_pagePart_12, h0, h1, mm_part h0 h1, aIsT h0, aFld, aFds, aRow, aRowR, aRefs, aLn, if_true, List.getElem?_cons_zero, List.getElem?_cons_succ, List.set_cons_zero, List.set_cons_succ, List.length_cons, List.length_nil, Option.some.injEq, exists_eq_left', aput_same, aclr_none, aclr_int, aclr_ref, aclr_null, aret_some, aret_none, bz, bz0, bz1, true_and, and_true, vpT, nIc, nI_add, pk_mul, nI_sub']
theorem mm_bits_loop (v : Int32) : ∀ (k i : Nat) (Q : aQ), i + k = 12 → (aX d iX7_bits 4 [some (.int v), some (.int (mBits v i)), some (.int (nI i))] [] σ Q ↔ Q (some (.int (mBits v 12))) σ)
  | 0, i, Q, h => by
    have e : i = 12 := by omega
    subst e
    rw [sX7_bits_4]
    simp (disch := omega) only [sX7_bits_0, sX7_bits_1, sX7_bits_2, sX7_bits_3, sX7_bits_5, sX7_bits_7, sX7_bits_10, sX7_bits_11, sX7_bits_12, sX7_bits_13, sX7_bits_14, sX7_bits_15, sX7_bits_16, sX7_bits_17, sX7_bits_18, sX7_bits_21, sX7_bits_24, sX7_bits_25, aFld, aFds, aRow, aRowR, aRefs, aLn, if_true, List.getElem?_cons_zero, List.getElem?_cons_succ, List.set_cons_zero, List.set_cons_succ, List.length_cons, List.length_nil, Option.some.injEq, exists_eq_left', aput_same, aclr_none, aclr_int, aclr_ref, aclr_null, aret_some, aret_none, bz, bz0, bz1, true_and, and_true, vpT, nIc, nI_add, pk_mul, nI_sub', nI_leT]
  | k + 1, i, Q, h => by
    rw [sX7_bits_4]
    simp (disch := omega) only [sX7_bits_0, sX7_bits_1, sX7_bits_2, sX7_bits_3, sX7_bits_5, sX7_bits_7, sX7_bits_10, sX7_bits_11, sX7_bits_12, sX7_bits_13, sX7_bits_14, sX7_bits_15, sX7_bits_16, sX7_bits_17, sX7_bits_18, sX7_bits_21, sX7_bits_24, sX7_bits_25, aFld, aFds, aRow, aRowR, aRefs, aLn, if_true, List.getElem?_cons_zero, List.getElem?_cons_succ, List.set_cons_zero, List.set_cons_succ, List.length_cons, List.length_nil, Option.some.injEq, exists_eq_left', aput_same, aclr_none, aclr_int, aclr_ref, aclr_null, aret_some, aret_none, bz, bz0, bz1, true_and, and_true, vpT, nIc, nI_add, pk_mul, nI_sub', nI_leF, if_false]
    exact mm_bits_loop v k (i + 1) Q (by omega)
theorem mm_bits (v : Int32) : aX d iX7_bits 0 [some (.int v), none, none] [] σ Q ↔ Q (some (.int (mBits v 12))) σ := by
  simp only [sX7_bits_0, sX7_bits_1, sX7_bits_2, sX7_bits_3, aFld, aFds, aRow, aRowR, aRefs, aLn, if_true, List.getElem?_cons_zero, List.getElem?_cons_succ, List.set_cons_zero, List.set_cons_succ, List.length_cons, List.length_nil, Option.some.injEq, exists_eq_left', aput_same, aclr_none, aclr_int, aclr_ref, aclr_null, aret_some, aret_none, bz, bz0, bz1, true_and, and_true, vpT, nIc, nI_add, pk_mul, nI_sub']
  exact mm_bits_loop v 12 0 Q rfl
theorem mm_isTaken (h0 : σ.1 m = some (eO 7 (.ref (m + 1) :: fs))) (h1 : σ.1 (m + 1) = some (eI 371 st)) (s : Int32) : aX d iX7_isTaken 0 [some (.ref m), some (.int s)] [] σ Q ↔ Q (some (.int (if mTk st s = true then nI 1 else nI 0))) σ := by
  simp (disch := omega) only [sX7_isTaken_0, sX7_isTaken_1, sX7_isTaken_4, sX7_isTaken_6, sX7_isTaken_7, sX7_isTaken_8, sX7_isTaken_9, sX7_isTaken_10, sX7_isTaken_11, sX7_isTaken_12, sX7_isTaken_15, sX7_isTaken_16, sX7_isTaken_19, sX7_isTaken_20, h0, h1, aFld, aFds, aRow, aRowR, aRefs, aLn, if_true, List.getElem?_cons_zero, List.getElem?_cons_succ, List.set_cons_zero, List.set_cons_succ, List.length_cons, List.length_nil, Option.some.injEq, exists_eq_left', aput_same, aclr_none, aclr_int, aclr_ref, aclr_null, aret_some, aret_none, bz, bz0, bz1, true_and, and_true, vpT, nIc, nI_add, pk_mul, nI_sub', mTk, decide_eq_true_eq]
  by_cases h : st 16 >>> (s &&& 31) &&& nI 1 = nI 1 <;> simp only [h, not_true_eq_false, not_false_eq_true, if_true, if_false]
theorem mm_isAlbum {c : Nat} (h0 : σ.1 m = some (eO 7 (.ref (m + 1) :: fs))) (h1 : σ.1 (m + 1) = some (eI 371 st)) (x : Int32) : aX (d + 1) iX7_isAlbum 0 [some (.ref m), some (.int x)] [] σ Q ↔ Q (some (.int (if nI 0 ≤ x ∧ x ≤ st 34 - nI 1 then nI 1 else nI 0))) σ := by
  simp (disch := omega) only [sX7_isAlbum_0, sX7_isAlbum_1, sX7_isAlbum_2, sX7_isAlbum_3, sX7_isAlbum_6, sX7_isAlbum_8, sX7_isAlbum_9, sX7_isAlbum_10, sX7_isAlbum_11, sX7_isAlbum_14, h0, h1, aFld, aFds, aRow, aRowR, aRefs, aLn, if_true, List.getElem?_cons_zero, List.getElem?_cons_succ, List.set_cons_zero, List.set_cons_succ, List.length_cons, List.length_nil, Option.some.injEq, exists_eq_left', aput_same, aclr_none, aclr_int, aclr_ref, aclr_null, aret_some, aret_none, bz, bz0, bz1, true_and, and_true, vpT, nIc, nI_add, pk_mul, nI_sub', mm_within]
theorem mm_lastPage {n : Nat} (h0 : σ.1 m = some (eO 7 (.ref (m + 1) :: fs))) (h1 : σ.1 (m + 1) = some (eI 371 st)) (ha : a < 12) (hn : st (35 + 28 * a + 1) = nI n) (h : 1 ≤ n) : aX (d + 1) iX7_lastPage 0 [some (.ref m), some (.int (nI a))] [] σ Q ↔ Q (some (.int (nI (n - 1)))) σ := by
  simp (disch := omega) only [sX7_lastPage_0, sX7_lastPage_1, sX7_lastPage_2, sX7_lastPage_3, sX7_lastPage_6, sX7_lastPage_7, sX7_lastPage_8, h0, mm_part h0 h1, aIsT h0, aFld, aFds, aRow, aRowR, aRefs, aLn, if_true, List.getElem?_cons_zero, List.getElem?_cons_succ, List.set_cons_zero, List.set_cons_succ, List.length_cons, List.length_nil, Option.some.injEq, exists_eq_left', aput_same, aclr_none, aclr_int, aclr_ref, aclr_null, aret_some, aret_none, bz, bz0, bz1, true_and, and_true, vpT, nIc, nI_add, pk_mul, nI_sub', hn]
theorem mm_lastWordPage {n : Nat} (h0 : σ.1 m = some (eO 7 (.ref (m + 1) :: fs))) (h1 : σ.1 (m + 1) = some (eI 371 st)) (ha : a < 12) (hn : st (35 + 28 * a + 1) = nI n) (h : 1 ≤ n) (h8 : n ≤ 8) : aX (d + 2) iX7_lastWordPage 0 [some (.ref m), some (.int (nI a))] [] σ Q ↔ Q (some (.int (nI ((n - 1) / 2 * 2)))) σ := by
  simp (disch := omega) only [sX7_lastWordPage_0, sX7_lastWordPage_1, sX7_lastWordPage_2, sX7_lastWordPage_5, sX7_lastWordPage_6, sX7_lastWordPage_7, sX7_lastWordPage_8, sX7_lastWordPage_9, h0, mm_lastPage h0 h1 ha hn h, aIsT h0, aFld, aFds, aRow, aRowR, aRefs, aLn, if_true, List.getElem?_cons_zero, List.getElem?_cons_succ, List.set_cons_zero, List.set_cons_succ, List.length_cons, List.length_nil, Option.some.injEq, exists_eq_left', aput_same, aclr_none, aclr_int, aclr_ref, aclr_null, aret_some, aret_none, bz, bz0, bz1, true_and, and_true, vpT, nIc, nI_add, pk_mul, nI_sub', nI_ne, not_false_eq_true, nI_div]
theorem mm_lastWord {n : Nat} (h0 : σ.1 m = some (eO 7 (.ref (m + 1) :: fs))) (h1 : σ.1 (m + 1) = some (eI 371 st)) (ha : a < 12) (hn : st (35 + 28 * a + 1) = nI n) (h : 1 ≤ n) (h8 : n ≤ 8) : aX (d + 3) iX7_lastWord 0 [some (.ref m), some (.int (nI a))] [] σ Q ↔ Q (some (.int (st (35 + 28 * a + (4 + 3 * ((n - 1) / 2 * 2) + 1))))) σ := by
  simp (disch := omega) only [sX7_lastWord_0, sX7_lastWord_1, sX7_lastWord_2, sX7_lastWord_3, sX7_lastWord_4, sX7_lastWord_7, sX7_lastWord_8, sX7_lastWord_11, h0, mm_lastWordPage h0 h1 ha hn h h8, mm_pagePart h0 h1, aIsT h0, aFld, aFds, aRow, aRowR, aRefs, aLn, if_true, List.getElem?_cons_zero, List.getElem?_cons_succ, List.set_cons_zero, List.set_cons_succ, List.length_cons, List.length_nil, Option.some.injEq, exists_eq_left', aput_same, aclr_none, aclr_int, aclr_ref, aclr_null, aret_some, aret_none, bz, bz0, bz1, true_and, and_true, vpT, nIc, nI_add, pk_mul, nI_sub']
theorem mm_firstWord (h0 : σ.1 m = some (eO 7 (.ref (m + 1) :: fs))) (h1 : σ.1 (m + 1) = some (eI 371 st)) (ha : a < 12) : aX (d + 2) iX7_firstWord 0 [some (.ref m), some (.int (nI a))] [] σ Q ↔ Q (some (.int (st (35 + 28 * a + 5)))) σ := by
  simp (disch := omega) only [sX7_firstWord_0, sX7_firstWord_1, sX7_firstWord_2, sX7_firstWord_3, sX7_firstWord_4, sX7_firstWord_7, h0, mm_pagePart h0 h1, aIsT h0, aFld, aFds, aRow, aRowR, aRefs, aLn, if_true, List.getElem?_cons_zero, List.getElem?_cons_succ, List.set_cons_zero, List.set_cons_succ, List.length_cons, List.length_nil, Option.some.injEq, exists_eq_left', aput_same, aclr_none, aclr_int, aclr_ref, aclr_null, aret_some, aret_none, bz, bz0, bz1, true_and, and_true, vpT, nIc, nI_add, pk_mul, nI_sub']
theorem mm_seatsOf_loop {n : Nat} (h0 : σ.1 m = some (eO 7 (.ref (m + 1) :: fs))) (h1 : σ.1 (m + 1) = some (eI 371 st)) (ha : a < 12) (hn : st (35 + 28 * a + 1) = nI n) (h8 : n ≤ 8) : ∀ (k i : Nat) (Q : aQ), i + k = n → (aX (d + 2) iX7_seatsOf 4 [some (.ref m), some (.int (nI a)), some (.int (mSeats st a i)), some (.int (nI i))] [] σ Q ↔ Q (some (.int (mSeats st a n))) σ)
  | 0, i, Q, h => by
    have e : i = n := by omega
    subst e
    rw [sX7_seatsOf_4]
    simp (disch := omega) only [sX7_seatsOf_0, sX7_seatsOf_1, sX7_seatsOf_2, sX7_seatsOf_3, sX7_seatsOf_5, sX7_seatsOf_6, sX7_seatsOf_7, sX7_seatsOf_8, sX7_seatsOf_11, sX7_seatsOf_14, sX7_seatsOf_15, sX7_seatsOf_16, sX7_seatsOf_17, sX7_seatsOf_18, sX7_seatsOf_19, sX7_seatsOf_20, sX7_seatsOf_23, sX7_seatsOf_24, sX7_seatsOf_25, sX7_seatsOf_26, sX7_seatsOf_29, sX7_seatsOf_32, sX7_seatsOf_33, h0, mm_part h0 h1, aIsT h0, aFld, aFds, aRow, aRowR, aRefs, aLn, if_true, List.getElem?_cons_zero, List.getElem?_cons_succ, List.set_cons_zero, List.set_cons_succ, List.length_cons, List.length_nil, Option.some.injEq, exists_eq_left', aput_same, aclr_none, aclr_int, aclr_ref, aclr_null, aret_some, aret_none, bz, bz0, bz1, true_and, and_true, vpT, nIc, nI_add, pk_mul, nI_sub', hn, nI_leT]
  | k + 1, i, Q, h => by
    rw [sX7_seatsOf_4]
    simp (disch := omega) only [sX7_seatsOf_0, sX7_seatsOf_1, sX7_seatsOf_2, sX7_seatsOf_3, sX7_seatsOf_5, sX7_seatsOf_6, sX7_seatsOf_7, sX7_seatsOf_8, sX7_seatsOf_11, sX7_seatsOf_14, sX7_seatsOf_15, sX7_seatsOf_16, sX7_seatsOf_17, sX7_seatsOf_18, sX7_seatsOf_19, sX7_seatsOf_20, sX7_seatsOf_23, sX7_seatsOf_24, sX7_seatsOf_25, sX7_seatsOf_26, sX7_seatsOf_29, sX7_seatsOf_32, sX7_seatsOf_33, h0, mm_part h0 h1, mm_pagePart h0 h1, aIsT h0, aFld, aFds, aRow, aRowR, aRefs, aLn, if_true, List.getElem?_cons_zero, List.getElem?_cons_succ, List.set_cons_zero, List.set_cons_succ, List.length_cons, List.length_nil, Option.some.injEq, exists_eq_left', aput_same, aclr_none, aclr_int, aclr_ref, aclr_null, aret_some, aret_none, bz, bz0, bz1, true_and, and_true, vpT, nIc, nI_add, pk_mul, nI_sub', hn, nI_leF, if_false]
    exact mm_seatsOf_loop h0 h1 ha hn h8 k (i + 1) Q (by omega)
theorem mm_seatsOf {n : Nat} (h0 : σ.1 m = some (eO 7 (.ref (m + 1) :: fs))) (h1 : σ.1 (m + 1) = some (eI 371 st)) (ha : a < 12) (hn : st (35 + 28 * a + 1) = nI n) (h8 : n ≤ 8) : aX (d + 2) iX7_seatsOf 0 [some (.ref m), some (.int (nI a)), none, none] [] σ Q ↔ Q (some (.int (mSeats st a n))) σ := by
  simp only [sX7_seatsOf_0, sX7_seatsOf_1, sX7_seatsOf_2, sX7_seatsOf_3, aFld, aFds, aRow, aRowR, aRefs, aLn, if_true, List.getElem?_cons_zero, List.getElem?_cons_succ, List.set_cons_zero, List.set_cons_succ, List.length_cons, List.length_nil, Option.some.injEq, exists_eq_left', aput_same, aclr_none, aclr_int, aclr_ref, aclr_null, aret_some, aret_none, bz, bz0, bz1, true_and, and_true, vpT, nIc, nI_add, pk_mul, nI_sub']
  exact mm_seatsOf_loop h0 h1 ha hn h8 n 0 Q (by omega)
theorem mm_goesRound (h0 : σ.1 m = some (eO 7 (.ref (m + 1) :: fs))) (h1 : σ.1 (m + 1) = some (eI 371 st)) (ha : a < 12) : aX (d + 1) iX7_goesRound 0 [some (.ref m), some (.int (nI a))] [] σ Q ↔ Q (some (.int (if st (35 + 28 * a + 2) = nI 0 then nI 1 else nI 0))) σ := by
  simp (disch := omega) only [sX7_goesRound_0, sX7_goesRound_1, sX7_goesRound_2, sX7_goesRound_3, sX7_goesRound_6, sX7_goesRound_9, sX7_goesRound_10, sX7_goesRound_13, sX7_goesRound_14, h0, mm_part h0 h1, aIsT h0, aFld, aFds, aRow, aRowR, aRefs, aLn, if_true, List.getElem?_cons_zero, List.getElem?_cons_succ, List.set_cons_zero, List.set_cons_succ, List.length_cons, List.length_nil, Option.some.injEq, exists_eq_left', aput_same, aclr_none, aclr_int, aclr_ref, aclr_null, aret_some, aret_none, bz, bz0, bz1, true_and, and_true, vpT, nIc, nI_add, pk_mul, nI_sub']
  by_cases h : st (35 + 28 * a + 2) = nI 0 <;> simp only [h, not_true_eq_false, not_false_eq_true, if_true, if_false]
theorem mm_albumOf_loop {c : Nat} (h0 : σ.1 m = some (eO 7 (.ref (m + 1) :: fs))) (h1 : σ.1 (m + 1) = some (eI 371 st)) (hc : st 34 = nI c) (h12 : c ≤ 12) (s : Int32) : ∀ (k i : Nat) (Q : aQ), i + k = c → (aX (d + 2) iX7_albumOf 5 [some (.ref m), some (.int s), some (.int (mAlbOf st s i)), some (.int (nI i))] [] σ Q ↔ Q (some (.int (mAlbOf st s c))) σ)
  | 0, i, Q, h => by
    have e : i = c := by omega
    subst e
    rw [sX7_albumOf_5]
    simp (disch := omega) only [sX7_albumOf_0, sX7_albumOf_2, sX7_albumOf_3, sX7_albumOf_4, sX7_albumOf_6, sX7_albumOf_7, sX7_albumOf_10, sX7_albumOf_12, sX7_albumOf_13, sX7_albumOf_16, sX7_albumOf_17, sX7_albumOf_18, sX7_albumOf_19, sX7_albumOf_22, sX7_albumOf_23, sX7_albumOf_26, sX7_albumOf_27, sX7_albumOf_28, sX7_albumOf_31, sX7_albumOf_34, sX7_albumOf_35, sX7_albumOf_38, sX7_albumOf_39, sX7_albumOf_40, sX7_albumOf_43, sX7_albumOf_46, sX7_albumOf_47, h0, h1, aFld, aFds, aRow, aRowR, aRefs, aLn, if_true, List.getElem?_cons_zero, List.getElem?_cons_succ, List.set_cons_zero, List.set_cons_succ, List.length_cons, List.length_nil, Option.some.injEq, exists_eq_left', aput_same, aclr_none, aclr_int, aclr_ref, aclr_null, aret_some, aret_none, bz, bz0, bz1, true_and, and_true, vpT, nIc, nI_add, pk_mul, nI_sub', hc, nI_leT]
  | k + 1, i, Q, h => by
    rw [sX7_albumOf_5]
    simp (disch := omega) only [sX7_albumOf_0, sX7_albumOf_2, sX7_albumOf_3, sX7_albumOf_4, sX7_albumOf_6, sX7_albumOf_7, sX7_albumOf_10, sX7_albumOf_12, sX7_albumOf_13, sX7_albumOf_16, sX7_albumOf_17, sX7_albumOf_18, sX7_albumOf_19, sX7_albumOf_22, sX7_albumOf_23, sX7_albumOf_26, sX7_albumOf_27, sX7_albumOf_28, sX7_albumOf_31, sX7_albumOf_34, sX7_albumOf_35, sX7_albumOf_38, sX7_albumOf_39, sX7_albumOf_40, sX7_albumOf_43, sX7_albumOf_46, sX7_albumOf_47, h0, h1, mm_part h0 h1, mm_goesRound h0 h1, aIsT h0, aFld, aFds, aRow, aRowR, aRefs, aLn, if_true, List.getElem?_cons_zero, List.getElem?_cons_succ, List.set_cons_zero, List.set_cons_succ, List.length_cons, List.length_nil, Option.some.injEq, exists_eq_left', aput_same, aclr_none, aclr_int, aclr_ref, aclr_null, aret_some, aret_none, bz, bz0, bz1, true_and, and_true, vpT, nIc, nI_add, pk_mul, nI_sub', hc, nI_leF, if_false, ite_z]
    rw [← mm_albumOf_loop h0 h1 hc h12 s k (i + 1) Q (by omega)]
    by_cases g1 : st (35 + 28 * i) = s
    · by_cases g2 : st (35 + 28 * i + 2) = nI 0 <;> simp only [mAlbOf, Nat.add_zero, g1, g2, and_self, and_true, and_false, not_true_eq_false, not_false_eq_true, if_true, if_false]
    · simp only [mAlbOf, Nat.add_zero, g1, false_and, not_false_eq_true, if_true, if_false]
theorem mm_albumOf {c : Nat} (h0 : σ.1 m = some (eO 7 (.ref (m + 1) :: fs))) (h1 : σ.1 (m + 1) = some (eI 371 st)) (hc : st 34 = nI c) (h12 : c ≤ 12) (s : Int32) : aX (d + 2) iX7_albumOf 0 [some (.ref m), some (.int s), none, none] [] σ Q ↔ Q (some (.int (mAlbOf st s c))) σ := by
  simp only [sX7_albumOf_0, sX7_albumOf_2, sX7_albumOf_3, sX7_albumOf_4, aFld, aFds, aRow, aRowR, aRefs, aLn, if_true, List.getElem?_cons_zero, List.getElem?_cons_succ, List.set_cons_zero, List.set_cons_succ, List.length_cons, List.length_nil, Option.some.injEq, exists_eq_left', aput_same, aclr_none, aclr_int, aclr_ref, aclr_null, aret_some, aret_none, bz, bz0, bz1, true_and, and_true, vpT, nIc, nI_add, pk_mul, nI_sub']
  exact mm_albumOf_loop h0 h1 hc h12 s c 0 Q (by omega)
theorem mm_withHow_loop {c : Nat} (h0 : σ.1 m = some (eO 7 (.ref (m + 1) :: fs))) (h1 : σ.1 (m + 1) = some (eI 371 st)) (hc : st 34 = nI c) (h12 : c ≤ 12) (s : Int32) : ∀ (k i : Nat) (Q : aQ), i + k = c → (aX (d + 1) iX7_withHow 4 [some (.ref m), some (.int s), some (.int (nI (mHow st s i))), some (.int (nI i))] [] σ Q ↔ Q (some (.int (nI (mHow st s c)))) σ)
  | 0, i, Q, h => by
    have e : i = c := by omega
    subst e
    rw [sX7_withHow_4]
    simp (disch := omega) only [sX7_withHow_0, sX7_withHow_1, sX7_withHow_2, sX7_withHow_3, sX7_withHow_5, sX7_withHow_6, sX7_withHow_9, sX7_withHow_11, sX7_withHow_12, sX7_withHow_15, sX7_withHow_16, sX7_withHow_17, sX7_withHow_18, sX7_withHow_19, sX7_withHow_22, sX7_withHow_23, sX7_withHow_26, sX7_withHow_27, sX7_withHow_30, sX7_withHow_31, sX7_withHow_32, sX7_withHow_33, sX7_withHow_36, sX7_withHow_39, sX7_withHow_40, h0, h1, aFld, aFds, aRow, aRowR, aRefs, aLn, if_true, List.getElem?_cons_zero, List.getElem?_cons_succ, List.set_cons_zero, List.set_cons_succ, List.length_cons, List.length_nil, Option.some.injEq, exists_eq_left', aput_same, aclr_none, aclr_int, aclr_ref, aclr_null, aret_some, aret_none, bz, bz0, bz1, true_and, and_true, vpT, nIc, nI_add, pk_mul, nI_sub', hc, nI_leT]
  | k + 1, i, Q, h => by
    rw [sX7_withHow_4]
    simp (disch := omega) only [sX7_withHow_0, sX7_withHow_1, sX7_withHow_2, sX7_withHow_3, sX7_withHow_5, sX7_withHow_6, sX7_withHow_9, sX7_withHow_11, sX7_withHow_12, sX7_withHow_15, sX7_withHow_16, sX7_withHow_17, sX7_withHow_18, sX7_withHow_19, sX7_withHow_22, sX7_withHow_23, sX7_withHow_26, sX7_withHow_27, sX7_withHow_30, sX7_withHow_31, sX7_withHow_32, sX7_withHow_33, sX7_withHow_36, sX7_withHow_39, sX7_withHow_40, h0, h1, mm_part h0 h1, aIsT h0, aFld, aFds, aRow, aRowR, aRefs, aLn, if_true, List.getElem?_cons_zero, List.getElem?_cons_succ, List.set_cons_zero, List.set_cons_succ, List.length_cons, List.length_nil, Option.some.injEq, exists_eq_left', aput_same, aclr_none, aclr_int, aclr_ref, aclr_null, aret_some, aret_none, bz, bz0, bz1, true_and, and_true, vpT, nIc, nI_add, pk_mul, nI_sub', hc, nI_leF, if_false]
    rw [← mm_withHow_loop h0 h1 hc h12 s k (i + 1) Q (by omega)]
    by_cases g1 : st (35 + 28 * i + 2) = s <;> simp only [mHow, Nat.add_zero, g1, not_true_eq_false, not_false_eq_true, if_true, if_false]
theorem mm_withHow {c : Nat} (h0 : σ.1 m = some (eO 7 (.ref (m + 1) :: fs))) (h1 : σ.1 (m + 1) = some (eI 371 st)) (hc : st 34 = nI c) (h12 : c ≤ 12) (s : Int32) : aX (d + 1) iX7_withHow 0 [some (.ref m), some (.int s), none, none] [] σ Q ↔ Q (some (.int (nI (mHow st s c)))) σ := by
  simp only [sX7_withHow_0, sX7_withHow_1, sX7_withHow_2, sX7_withHow_3, aFld, aFds, aRow, aRowR, aRefs, aLn, if_true, List.getElem?_cons_zero, List.getElem?_cons_succ, List.set_cons_zero, List.set_cons_succ, List.length_cons, List.length_nil, Option.some.injEq, exists_eq_left', aput_same, aclr_none, aclr_int, aclr_ref, aclr_null, aret_some, aret_none, bz, bz0, bz1, true_and, and_true, vpT, nIc, nI_add, pk_mul, nI_sub']
  exact mm_withHow_loop h0 h1 hc h12 s c 0 Q (by omega)
theorem mm_guessed_loop (h0 : σ.1 m = some (eO 7 (.ref (m + 1) :: fs))) (h1 : σ.1 (m + 1) = some (eI 371 st)) (dr : Int32) : ∀ (k i : Nat) (Q : aQ), i + k = 16 → 1 ≤ i → (aX (d + 1) iX7_guessed 4 [some (.ref m), some (.int dr), some (.int (nI (mG st dr i))), some (.int (nI i))] [] σ Q ↔ Q (some (.int (nI (mG st dr 16)))) σ)
  | 0, i, Q, h, _ => by
    have e : i = 16 := by omega
    subst e
    rw [sX7_guessed_4]
    simp (disch := omega) only [sX7_guessed_0, sX7_guessed_1, sX7_guessed_2, sX7_guessed_3, sX7_guessed_5, sX7_guessed_7, sX7_guessed_10, sX7_guessed_11, sX7_guessed_14, sX7_guessed_15, sX7_guessed_16, sX7_guessed_17, sX7_guessed_18, sX7_guessed_19, sX7_guessed_20, sX7_guessed_23, sX7_guessed_24, sX7_guessed_27, sX7_guessed_28, sX7_guessed_29, sX7_guessed_30, sX7_guessed_31, sX7_guessed_32, sX7_guessed_33, sX7_guessed_36, sX7_guessed_39, sX7_guessed_40, sX7_guessed_43, sX7_guessed_44, sX7_guessed_45, sX7_guessed_48, sX7_guessed_51, sX7_guessed_52, h0, h1, aFld, aFds, aRow, aRowR, aRefs, aLn, if_true, List.getElem?_cons_zero, List.getElem?_cons_succ, List.set_cons_zero, List.set_cons_succ, List.length_cons, List.length_nil, Option.some.injEq, exists_eq_left', aput_same, aclr_none, aclr_int, aclr_ref, aclr_null, aret_some, aret_none, bz, bz0, bz1, true_and, and_true, vpT, nIc, nI_add, pk_mul, nI_sub', nI_leT]
  | k + 1, i, Q, h, hi => by
    have hg := mG_lt st dr i hi
    rw [sX7_guessed_4]
    simp (disch := omega) only [sX7_guessed_0, sX7_guessed_1, sX7_guessed_2, sX7_guessed_3, sX7_guessed_5, sX7_guessed_7, sX7_guessed_10, sX7_guessed_11, sX7_guessed_14, sX7_guessed_15, sX7_guessed_16, sX7_guessed_17, sX7_guessed_18, sX7_guessed_19, sX7_guessed_20, sX7_guessed_23, sX7_guessed_24, sX7_guessed_27, sX7_guessed_28, sX7_guessed_29, sX7_guessed_30, sX7_guessed_31, sX7_guessed_32, sX7_guessed_33, sX7_guessed_36, sX7_guessed_39, sX7_guessed_40, sX7_guessed_43, sX7_guessed_44, sX7_guessed_45, sX7_guessed_48, sX7_guessed_51, sX7_guessed_52, h0, h1, mm_bits, aFld, aFds, aRow, aRowR, aRefs, aLn, if_true, List.getElem?_cons_zero, List.getElem?_cons_succ, List.set_cons_zero, List.set_cons_succ, List.length_cons, List.length_nil, Option.some.injEq, exists_eq_left', aput_same, aclr_none, aclr_int, aclr_ref, aclr_null, aret_some, aret_none, bz, bz0, bz1, true_and, and_true, vpT, nIc, nI_add, pk_mul, nI_sub', nI_leF, if_false, Nat.zero_add]
    rw [← mm_guessed_loop h0 h1 dr k (i + 1) Q (by omega) (by omega)]
    rw [mG_succ st dr hi]
    by_cases g1 : mBits (st (mG st dr i) ^^^ dr) 12 ≤ mBits (st i ^^^ dr) 12
    · have g2 : ¬ mBits (st i ^^^ dr) 12 < mBits (st (mG st dr i) ^^^ dr) 12 := Int32.not_lt.mpr g1
      simp only [g1, g2, if_true, if_false]
    · have g2 : mBits (st i ^^^ dr) 12 < mBits (st (mG st dr i) ^^^ dr) 12 := Int32.not_le.mp g1
      simp only [g1, g2, if_true, if_false]
theorem mm_guessed (h0 : σ.1 m = some (eO 7 (.ref (m + 1) :: fs))) (h1 : σ.1 (m + 1) = some (eI 371 st)) (dr : Int32) : aX (d + 1) iX7_guessed 0 [some (.ref m), some (.int dr), none, none] [] σ Q ↔ Q (some (.int (nI (mG st dr 16)))) σ := by
  simp only [sX7_guessed_0, sX7_guessed_1, sX7_guessed_2, sX7_guessed_3, aFld, aFds, aRow, aRowR, aRefs, aLn, if_true, List.getElem?_cons_zero, List.getElem?_cons_succ, List.set_cons_zero, List.set_cons_succ, List.length_cons, List.length_nil, Option.some.injEq, exists_eq_left', aput_same, aclr_none, aclr_int, aclr_ref, aclr_null, aret_some, aret_none, bz, bz0, bz1, true_and, and_true, vpT, nIc, nI_add, pk_mul, nI_sub']
  exact mm_guessed_loop h0 h1 dr 15 1 Q rfl (Nat.le_refl 1)
end MO
