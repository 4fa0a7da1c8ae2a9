/-! THE REFERENCE: the fault of a text; its orders carried out -/
theorem rd_le (k : Nat → Nat) (p : Nat) (fi se : Int32) : rPos (rd k p fi se) ≤ p + 12 ∧ p ≤ rPos (rd k p fi se) ∧ (rOk (rd k p fi se) = true → p + 1 ≤ rPos (rd k p fi se) ∧ k p ≠ 0) := by
  have hE1 := nE_le k (p + 1)
  have hE3 := nE_le k (p + 1 + 1 + 1)
  have hEE := nE_le k (nE k (p + 1) + 1)
  have hr : ∀ {o : Bool} {ps : Nat} {a b c : Int32}, rOk (mkO o ps a b c) = o ∧ rPos (mkO o ps a b c) = ps := fun {_ _ _ _ _} => ⟨rfl, rfl⟩
  unfold rd
  split
  · split
    · split
      · split <;> simp only [hr] <;> refine ⟨by omega, by omega, fun _ => ⟨by omega, by omega⟩⟩
      · simp only [hr]; refine ⟨by omega, by omega, fun _ => ⟨by omega, by omega⟩⟩
    · simp only [hr]; refine ⟨by omega, by omega, fun _ => ⟨by omega, by omega⟩⟩
  · split
    · split <;> simp only [hr] <;> refine ⟨by omega, by omega, fun _ => ⟨by omega, by omega⟩⟩
    · split
      · split
        · split
          · split <;> simp only [hr] <;> refine ⟨by omega, by omega, fun _ => ⟨by omega, by omega⟩⟩
          · simp only [hr]; refine ⟨by omega, by omega, fun _ => ⟨by omega, by omega⟩⟩
        · simp only [hr]; refine ⟨by omega, by omega, fun _ => ⟨by omega, by omega⟩⟩
      · split
        · simp only [hr]; refine ⟨by omega, by omega, fun _ => ⟨by omega, by omega⟩⟩
        · split
          · split <;> simp only [hr] <;> refine ⟨by omega, by omega, fun _ => ⟨by omega, by omega⟩⟩
          · split
            · split
              · split
                · split <;> simp only [hr] <;> refine ⟨by omega, by omega, fun _ => ⟨by omega, by omega⟩⟩
                · simp only [hr]; refine ⟨by omega, by omega, fun _ => ⟨by omega, by omega⟩⟩
              · simp only [hr]; refine ⟨by omega, by omega, fun _ => ⟨by omega, by omega⟩⟩
            · simp only [hr]; exact ⟨by omega, by omega, fun z => absurd z (by decide)⟩
def fF (k : Nat → Nat) (L : Nat) : Nat → Nat → Int32 → Int32 → Int32
  | 0, _, _, _ => -6
  | f + 1, p, fi, se =>
    if rOk (rd k p fi se) = true then
      if rPos (rd k p fi se) = L then -6
      else if k (rPos (rd k p fi se)) = 59 then fF k L f (rPos (rd k p fi se) + 1) (rFi (rd k p fi se)) (rSe (rd k p fi se))
      else nI (rPos (rd k p fi se))
    else nI (rPos (rd k p fi se))
def fO (k : Nat → Nat) (L : Nat) : Nat → Nat → Int32 → Int32 → pO
  | 0, p, fi, se => mkO true p 0 fi se
  | f + 1, p, fi, se =>
    if rOk (rd k p fi se) = true then
      if rPos (rd k p fi se) = L then rd k p fi se
      else if k (rPos (rd k p fi se)) = 59 then fO k L f (rPos (rd k p fi se) + 1) (rFi (rd k p fi se)) (rSe (rd k p fi se))
      else rd k p fi se
    else rd k p fi se
section MFF
variable {d : Nat} {σ : aS} {m : Nat} {st kp hi sl sv pd : Nat → Int32} {rc L : Nat}
theorem mp_ff_loop (hp : pOK pd L) : ∀ (f p : Nat) (le fi se : Int32) (Q : aQ), p ≤ L → L < p + f → (aX (d + 4) iX7_findFault 5 [some (.ref m)] [] (mT σ m (mF m (nI rc) (nI L) (nI p) le fi se) kp hi sl sv pd st) Q ↔ Q (some (.int (fF (cK pd L) L f p fi se))) (mT σ m (mF m (nI rc) (nI L) (nI (rPos (fO (cK pd L) L f p fi se))) (rLe (fO (cK pd L) L f p fi se)) (rFi (fO (cK pd L) L f p fi se)) (rSe (fO (cK pd L) L f p fi se))) kp hi sl sv pd st))
  | 0, p, le, fi, se, Q, h1, h2 => by omega
  | f + 1, p, le, fi, se, Q, h1, h2 => by
    have h80 := hp.1
    obtain ⟨r1, r2, r3⟩ := rd_le (cK pd L) p fi se
    rw [sX7_findFault_5, fF, fO]
    by_cases g : rOk (rd (cK pd L) p fi se) = true
    · obtain ⟨r4, r5⟩ := r3 g
      by_cases g2 : rPos (rd (cK pd L) p fi se) = L
      · simp (disch := omega) only [sX7_findFault_6, sX7_findFault_9, sX7_findFault_12, sX7_findFault_13, sX7_findFault_16, sX7_findFault_17, sX7_findFault_18, sX7_findFault_21, sX7_findFault_22, sX7_findFault_25, sX7_findFault_28, sX7_findFault_30, aIsT mT_0, mp_reads hp, g, g2, mT_0, mT_w0, mF_l, mF_g6, mF_g7, mF_g8, mF_g9, mF_g10, mF_s6, mF_s7, mF_s8, mF_s9, mF_s10, aFld, aFds, aRow, aRowR, aRefs, aLn, if_true, List.getElem?_cons_zero, List.getElem?_cons_succ, List.set_cons_zero, List.set_cons_succ, List.length_cons, List.length_nil, Option.some.injEq, exists_eq_left', aput_same, aclr_none, aclr_int, aclr_ref, aclr_null, aret_some, aret_none, bz, bz0, bz1, true_and, and_true, vpT, nIc, nI_add, pk_mul, nI_sub', Nat.add_zero, Nat.zero_add, upd_same, upd_ne, if_false, not_true_eq_false, not_false_eq_true, ite_z, ite_o, eq_self, Bool.false_eq_true, nI_leT, nI_leF, nI_ltT, nI_ltF, nI_ne, and_self, false_and, and_false, Nat.reduceAdd, Nat.reduceSub, Nat.reduceMul, Nat.reduceLT, Nat.reduceLeDiff, true_and]
      · by_cases g3 : cK pd L (rPos (rd (cK pd L) p fi se)) = 59
        · have hlt := cK_pos (pd := pd) (L := L) (q := rPos (rd (cK pd L) p fi se)) (by omega)
          have ih := mp_ff_loop hp f (rPos (rd (cK pd L) p fi se) + 1) (rLe (rd (cK pd L) p fi se)) (rFi (rd (cK pd L) p fi se)) (rSe (rd (cK pd L) p fi se)) Q (by omega) (by omega)
          simp (disch := omega) only [sX7_findFault_6, sX7_findFault_9, sX7_findFault_12, sX7_findFault_13, sX7_findFault_16, sX7_findFault_17, sX7_findFault_18, sX7_findFault_21, sX7_findFault_22, sX7_findFault_25, sX7_findFault_28, sX7_findFault_30, sX7_findFault_31, sX7_findFault_32, sX7_findFault_34, sX7_findFault_37, aIsT mT_0, mp_reads hp, mp_next hp, nI_eqL, g, g2, g3, mT_0, mT_w0, mF_l, mF_g6, mF_g7, mF_g8, mF_g9, mF_g10, mF_s6, mF_s7, mF_s8, mF_s9, mF_s10, aFld, aFds, aRow, aRowR, aRefs, aLn, if_true, List.getElem?_cons_zero, List.getElem?_cons_succ, List.set_cons_zero, List.set_cons_succ, List.length_cons, List.length_nil, Option.some.injEq, exists_eq_left', aput_same, aclr_none, aclr_int, aclr_ref, aclr_null, aret_some, aret_none, bz, bz0, bz1, true_and, and_true, vpT, nIc, nI_add, pk_mul, nI_sub', Nat.add_zero, Nat.zero_add, upd_same, upd_ne, if_false, not_true_eq_false, not_false_eq_true, ite_z, ite_o, eq_self, Bool.false_eq_true, nI_leT, nI_leF, nI_ltT, nI_ltF, nI_ne, and_self, false_and, and_false, Nat.reduceAdd, Nat.reduceSub, Nat.reduceMul, Nat.reduceLT, Nat.reduceLeDiff, true_and]
          exact ih
        · simp (disch := omega) only [sX7_findFault_6, sX7_findFault_9, sX7_findFault_12, sX7_findFault_13, sX7_findFault_16, sX7_findFault_17, sX7_findFault_18, sX7_findFault_21, sX7_findFault_22, sX7_findFault_25, sX7_findFault_28, sX7_findFault_30, sX7_findFault_31, sX7_findFault_32, sX7_findFault_34, sX7_findFault_37, sX7_findFault_40, sX7_findFault_41, sX7_findFault_44, aIsT mT_0, mp_reads hp, mp_next hp, nI_eqL, n10, g, g2, g3, mT_0, mT_w0, mF_l, mF_g6, mF_g7, mF_g8, mF_g9, mF_g10, mF_s6, mF_s7, mF_s8, mF_s9, mF_s10, aFld, aFds, aRow, aRowR, aRefs, aLn, if_true, List.getElem?_cons_zero, List.getElem?_cons_succ, List.set_cons_zero, List.set_cons_succ, List.length_cons, List.length_nil, Option.some.injEq, exists_eq_left', aput_same, aclr_none, aclr_int, aclr_ref, aclr_null, aret_some, aret_none, bz, bz0, bz1, true_and, and_true, vpT, nIc, nI_add, pk_mul, nI_sub', Nat.add_zero, Nat.zero_add, upd_same, upd_ne, if_false, not_true_eq_false, not_false_eq_true, ite_z, ite_o, eq_self, Bool.false_eq_true, nI_leT, nI_leF, nI_ltT, nI_ltF, nI_ne, and_self, false_and, and_false, Nat.reduceAdd, Nat.reduceSub, Nat.reduceMul, Nat.reduceLT, Nat.reduceLeDiff, true_and]
    · simp (disch := omega) only [sX7_findFault_6, sX7_findFault_9, sX7_findFault_12, sX7_findFault_13, sX7_findFault_16, aIsT mT_0, mp_reads hp, g, mT_0, mT_w0, mF_l, mF_g6, mF_g7, mF_g8, mF_g9, mF_g10, mF_s6, mF_s7, mF_s8, mF_s9, mF_s10, aFld, aFds, aRow, aRowR, aRefs, aLn, if_true, List.getElem?_cons_zero, List.getElem?_cons_succ, List.set_cons_zero, List.set_cons_succ, List.length_cons, List.length_nil, Option.some.injEq, exists_eq_left', aput_same, aclr_none, aclr_int, aclr_ref, aclr_null, aret_some, aret_none, bz, bz0, bz1, true_and, and_true, vpT, nIc, nI_add, pk_mul, nI_sub', Nat.add_zero, Nat.zero_add, upd_same, upd_ne, if_false, not_true_eq_false, not_false_eq_true, ite_z, ite_o, eq_self, Bool.false_eq_true, nI_leT, nI_leF, nI_ltT, nI_ltF, nI_ne, and_self, false_and, and_false, Nat.reduceAdd, Nat.reduceSub, Nat.reduceMul, Nat.reduceLT, Nat.reduceLeDiff, true_and]
theorem mp_ff (hp : pOK pd L) {at' le fi se : Int32} {Q : aQ} : aX (d + 4) iX7_findFault 0 [some (.ref m)] [] (mT σ m (mF m (nI rc) (nI L) at' le fi se) kp hi sl sv pd st) Q ↔ Q (some (.int (fF (cK pd L) L 81 0 fi se))) (mT σ m (mF m (nI rc) (nI L) (nI (rPos (fO (cK pd L) L 81 0 fi se))) (rLe (fO (cK pd L) L 81 0 fi se)) (rFi (fO (cK pd L) L 81 0 fi se)) (rSe (fO (cK pd L) L 81 0 fi se))) kp hi sl sv pd st) := by
  have h80 := hp.1
  rw [← mp_ff_loop (d := d) hp 81 0 le fi se Q (by omega) (by omega)]
  simp (disch := omega) only [sX7_findFault_0, sX7_findFault_1, sX7_findFault_2, mT_0, mT_w0, mF_l, mF_g6, mF_g7, mF_g8, mF_g9, mF_g10, mF_s6, mF_s7, mF_s8, mF_s9, mF_s10, aFld, aFds, aRow, aRowR, aRefs, aLn, if_true, List.getElem?_cons_zero, List.getElem?_cons_succ, List.set_cons_zero, List.set_cons_succ, List.length_cons, List.length_nil, Option.some.injEq, exists_eq_left', aput_same, aclr_none, aclr_int, aclr_ref, aclr_null, aret_some, aret_none, bz, bz0, bz1, true_and, and_true, vpT, nIc, nI_add, pk_mul, nI_sub', Nat.add_zero, Nat.zero_add, upd_same, upd_ne, if_false, not_true_eq_false, not_false_eq_true, ite_z, ite_o, eq_self, Bool.false_eq_true, nI_leT, nI_leF, nI_ltT, nI_ltF, nI_ne, and_self, false_and, and_false, Nat.reduceAdd, Nat.reduceSub, Nat.reduceMul, Nat.reduceLT, Nat.reduceLeDiff, true_and]
theorem mq_fault (hp : pOK pd L) {at' le fi se : Int32} {Q : aQ} : aX (d + 5) iX7_fault 0 [some (.ref m)] [] (mT σ m (mF m (nI rc) (nI L) at' le fi se) kp hi sl sv pd st) Q ↔ Q (some (.int (fF (cK pd L) L 81 0 fi se))) (mT σ m (mF m (nI rc) (nI L) (nI (rPos (fO (cK pd L) L 81 0 fi se))) (rLe (fO (cK pd L) L 81 0 fi se)) (rFi (fO (cK pd L) L 81 0 fi se)) (rSe (fO (cK pd L) L 81 0 fi se))) kp hi sl sv pd st) := by
  simp (disch := omega) only [sX7_fault_0, sX7_fault_1, sX7_fault_4, aIsT mT_0, mp_ff hp, mT_0, mT_w0, mF_l, mF_g6, mF_g7, mF_g8, mF_g9, mF_g10, mF_s6, mF_s7, mF_s8, mF_s9, mF_s10, aFld, aFds, aRow, aRowR, aRefs, aLn, if_true, List.getElem?_cons_zero, List.getElem?_cons_succ, List.set_cons_zero, List.set_cons_succ, List.length_cons, List.length_nil, Option.some.injEq, exists_eq_left', aput_same, aclr_none, aclr_int, aclr_ref, aclr_null, aret_some, aret_none, bz, bz0, bz1, true_and, and_true, vpT, nIc, nI_add, pk_mul, nI_sub', Nat.add_zero, Nat.zero_add, upd_same, upd_ne, if_false, not_true_eq_false, not_false_eq_true, ite_z, ite_o, eq_self, Bool.false_eq_true, nI_leT, nI_leF, nI_ltT, nI_ltF, nI_ne, and_self, false_and, and_false, Nat.reduceAdd, Nat.reduceSub, Nat.reduceMul, Nat.reduceLT, Nat.reduceLeDiff, true_and]
end MFF
