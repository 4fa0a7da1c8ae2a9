/-! THE REFERENCE: bestWord, pointsThen -/
def mBS (st : Nat → Int32) (s : Nat) : Nat → (Nat → Int32)
  | 0 => st
  | w + 1 => mDifS (mBS st s w) s w
def mBW (st : Nat → Int32) (s : Nat) : Nat → Int32 × Int32
  | 0 => (-6, nI 13)
  | w + 1 => if mDif st s w < (mBW st s w).2 then (nI w, mDif st s w) else mBW st s w
theorem mBS_env {st : Nat → Int32} {s : Nat} (hE : eOK st) (hs : s < 8) : ∀ w, w ≤ 16 → (∀ k, k < 25 → mBS st s w k = st k) ∧ (∀ k, 371 ≤ k → mBS st s w k = st k)
  | 0, _ => ⟨fun _ _ => rfl, fun _ _ => rfl⟩
  | w + 1, hw => by
    obtain ⟨h1, h2⟩ := mBS_env hE hs w (by omega)
    obtain ⟨g1, g2⟩ := mDifS_env (st := mBS st s w) (s := s) (w := w) (eOK_of h1 hE) hs (by omega)
    exact ⟨fun k hk => (g1 k hk).trans (h1 k hk), fun k hk => (g2 k hk).trans (h2 k hk)⟩
def mPt (c : Nat) : Nat → (Nat → Int32) → (Nat → Int32)
  | 0, st => st
  | f + 1, st => if 0 < mHow st (nI 0) c then mPt c f (mRnd st c) else st
theorem mHow_pos {st : Nat → Int32} {v : Int32} : ∀ c, 0 < mHow st v c → ∃ a, a < c ∧ st (35 + 28 * a + 2) = v
  | 0, h => absurd h (by rw [mHow]; omega)
  | c + 1, h => by
    rw [mHow] at h
    by_cases g : st (35 + 28 * c + 2) = v
    · exact ⟨c, by omega, g⟩
    · rw [if_neg g] at h
      obtain ⟨a, h1, h2⟩ := mHow_pos c (by omega)
      exact ⟨a, by omega, h2⟩
theorem mHow_le {st : Nat → Int32} {v : Int32} : ∀ c, mHow st v c ≤ c
  | 0 => Nat.le_refl _
  | c + 1 => by
    have := mHow_le (st := st) (v := v) c
    rw [mHow]
    split <;> omega
theorem mPt_big {c k : Nat} (h12 : c ≤ 12) (h : 371 ≤ k) : ∀ f st, mPt c f st k = st k
  | 0, _ => rfl
  | f + 1, st => by
    rw [mPt]
    split
    · rw [mPt_big h12 h f, mRnd_big h12 h]
    · rfl
section MX
variable {d : Nat} {σ : aS} {Q : aQ} {m c : Nat} {st kp hi sl sv pd : Nat → Int32} {fs : List Value}
theorem mp_best_loop {s : Nat} {w : Int32} (h0 : σ.1 m = some (eO 7 (.ref (m + 1) :: fs))) (hE : eOK st) (hs : s < 8) : ∀ (k i : Nat) (l6 : Option Value) (Q : aQ), i + k = 16 → (aX (d + 7) iX7_bestWord 64 [some (.ref m), some (.int (nI s)), some (.int w), some (.int (mBW st s i).1), some (.int (mBW st s i).2), some (.int (nI i)), l6] [] (mS σ m (mBS st s i)) Q ↔ ∃ l6', aX (d + 7) iX7_bestWord 116 [some (.ref m), some (.int (nI s)), some (.int w), some (.int (mBW st s 16).1), some (.int (mBW st s 16).2), some (.int (nI 16)), l6'] [] (mS σ m (mBS st s 16)) Q ∧ l6' = if k = 0 then l6 else some (.int (mDif st s 15)))
  | 0, i, l6, Q, h => by
    have e : i = 16 := by omega
    subst e
    rw [sX7_bestWord_64]
    simp (disch := omega) only [sX7_bestWord_66, sX7_bestWord_68, sX7_bestWord_71, sX7_bestWord_72, sX7_bestWord_73, sX7_bestWord_75, sX7_bestWord_78, sX7_bestWord_80, sX7_bestWord_82, sX7_bestWord_84, sX7_bestWord_87, sX7_bestWord_89, sX7_bestWord_92, sX7_bestWord_93, sX7_bestWord_94, sX7_bestWord_96, sX7_bestWord_98, sX7_bestWord_101, sX7_bestWord_103, sX7_bestWord_106, sX7_bestWord_108, sX7_bestWord_110, sX7_bestWord_113, aFld, aFds, aRow, aRowR, aRefs, aLn, if_true, List.getElem?_cons_zero, List.getElem?_cons_succ, List.set_cons_zero, List.set_cons_succ, List.length_cons, List.length_nil, Option.some.injEq, exists_eq_left', aput_same, aclr_none, aclr_int, aclr_ref, aclr_null, aret_some, aret_none, bz, bz0, bz1, true_and, and_true, vpT, nIc, nI_add, pk_mul, nI_sub', Nat.add_zero, Nat.zero_add, upd_same, upd_ne, if_false, not_true_eq_false, not_false_eq_true, ite_z, ite_o, eq_self, Bool.false_eq_true, nI_leT, nI_leF, nI_ltT, nI_ltF, nI_ne, and_self, false_and, and_false, exists_eq_right]
  | k + 1, i, l6, Q, h => by
    obtain ⟨he1, he2⟩ := mBS_env hE hs i (by omega)
    have hE2 := eOK_of he1 hE
    have hdc : mDif (mBS st s i) s i = mDif st s i := mDif_cong he1 hE hs (by omega)
    have ih := mp_best_loop (w := w) h0 hE hs k (i + 1) (some (.int (mDif st s i))) Q (by omega)
    rw [mBS, mBW] at ih
    have hl6 : (if k = 0 then some (Value.int (mDif st s i)) else some (.int (mDif st s 15))) = some (.int (mDif st s 15)) := by
      by_cases hk : k = 0
      · subst hk
        have : i = 15 := by omega
        subst this
        rfl
      · rw [if_neg hk]
    rw [hl6] at ih
    rw [if_neg (show ¬ k + 1 = 0 by omega), ← ih, sX7_bestWord_64]
    by_cases g : mDif st s i < (mBW st s i).2
    · have g2 : ((mBW st s i).2 ≤ mDif st s i) = False := eq_false (Int32.not_le.mpr g)
      simp (disch := omega) only [sX7_bestWord_66, sX7_bestWord_68, sX7_bestWord_71, sX7_bestWord_72, sX7_bestWord_73, sX7_bestWord_75, sX7_bestWord_78, sX7_bestWord_80, sX7_bestWord_82, sX7_bestWord_84, sX7_bestWord_87, sX7_bestWord_89, sX7_bestWord_92, sX7_bestWord_93, sX7_bestWord_94, sX7_bestWord_96, sX7_bestWord_98, sX7_bestWord_101, sX7_bestWord_103, sX7_bestWord_106, sX7_bestWord_108, sX7_bestWord_110, sX7_bestWord_113, mp_differs h0 hE2 hs, hdc, aIsT (mS_0 h0), g, g2, aFld, aFds, aRow, aRowR, aRefs, aLn, if_true, List.getElem?_cons_zero, List.getElem?_cons_succ, List.set_cons_zero, List.set_cons_succ, List.length_cons, List.length_nil, Option.some.injEq, exists_eq_left', aput_same, aclr_none, aclr_int, aclr_ref, aclr_null, aret_some, aret_none, bz, bz0, bz1, true_and, and_true, vpT, nIc, nI_add, pk_mul, nI_sub', Nat.add_zero, Nat.zero_add, upd_same, upd_ne, if_false, not_true_eq_false, not_false_eq_true, ite_z, ite_o, eq_self, Bool.false_eq_true, nI_leT, nI_leF, nI_ltT, nI_ltF, nI_ne, and_self, false_and, and_false]
    · have g2 : ((mBW st s i).2 ≤ mDif st s i) = True := eq_true (Int32.not_lt.mp g)
      simp (disch := omega) only [sX7_bestWord_66, sX7_bestWord_68, sX7_bestWord_71, sX7_bestWord_72, sX7_bestWord_73, sX7_bestWord_75, sX7_bestWord_78, sX7_bestWord_80, sX7_bestWord_82, sX7_bestWord_84, sX7_bestWord_87, sX7_bestWord_89, sX7_bestWord_92, sX7_bestWord_93, sX7_bestWord_94, sX7_bestWord_96, sX7_bestWord_98, sX7_bestWord_101, sX7_bestWord_103, sX7_bestWord_106, sX7_bestWord_108, sX7_bestWord_110, sX7_bestWord_113, mp_differs h0 hE2 hs, hdc, aIsT (mS_0 h0), g, g2, aFld, aFds, aRow, aRowR, aRefs, aLn, if_true, List.getElem?_cons_zero, List.getElem?_cons_succ, List.set_cons_zero, List.set_cons_succ, List.length_cons, List.length_nil, Option.some.injEq, exists_eq_left', aput_same, aclr_none, aclr_int, aclr_ref, aclr_null, aret_some, aret_none, bz, bz0, bz1, true_and, and_true, vpT, nIc, nI_add, pk_mul, nI_sub', Nat.add_zero, Nat.zero_add, upd_same, upd_ne, if_false, not_true_eq_false, not_false_eq_true, ite_z, ite_o, eq_self, Bool.false_eq_true, nI_leT, nI_leF, nI_ltT, nI_ltF, nI_ne, and_self, false_and, and_false]
theorem mq_bestN {x w : Int32} (hx : inR x 0 7 = False) : aX (d + 2) iX7_bestWord 0 [some (.ref m), some (.int x), some (.int w), none, none, none, none] [] σ Q ↔ Q (some (.int (-1))) σ := by
  simp only [inR] at hx
  simp (disch := omega) only [sX7_bestWord_0, sX7_bestWord_1, sX7_bestWord_4, sX7_bestWord_7, sX7_bestWord_8, sX7_bestWord_9, sX7_bestWord_10, sX7_bestWord_13, sX7_bestWord_16, sX7_bestWord_17, sX7_bestWord_20, sX7_bestWord_23, sX7_bestWord_25, sX7_bestWord_28, sX7_bestWord_29, mm_isSeat, hx, aFld, aFds, aRow, aRowR, aRefs, aLn, if_true, List.getElem?_cons_zero, List.getElem?_cons_succ, List.set_cons_zero, List.set_cons_succ, List.length_cons, List.length_nil, Option.some.injEq, exists_eq_left', aput_same, aclr_none, aclr_int, aclr_ref, aclr_null, aret_some, aret_none, bz, bz0, bz1, true_and, and_true, vpT, nIc, nI_add, pk_mul, nI_sub', Nat.add_zero, Nat.zero_add, upd_same, upd_ne, if_false, not_true_eq_false, not_false_eq_true, ite_z, ite_o, eq_self, Bool.false_eq_true, nI_leT, nI_leF, nI_ltT, nI_ltF, nI_ne, and_self, false_and, and_false]
theorem mq_bestB {s : Nat} {w : Int32} (hs : s ≤ 7) (hw : inR w 0 1 = False) : aX (d + 2) iX7_bestWord 0 [some (.ref m), some (.int (nI s)), some (.int w), none, none, none, none] [] σ Q ↔ Q (some (.int (-2))) σ := by
  simp only [inR] at hw
  simp (disch := omega) only [sX7_bestWord_0, sX7_bestWord_1, sX7_bestWord_4, sX7_bestWord_7, sX7_bestWord_8, sX7_bestWord_9, sX7_bestWord_10, sX7_bestWord_13, sX7_bestWord_16, sX7_bestWord_17, sX7_bestWord_20, sX7_bestWord_23, sX7_bestWord_25, sX7_bestWord_28, sX7_bestWord_29, mm_isSeat, mm_within, hw, aFld, aFds, aRow, aRowR, aRefs, aLn, if_true, List.getElem?_cons_zero, List.getElem?_cons_succ, List.set_cons_zero, List.set_cons_succ, List.length_cons, List.length_nil, Option.some.injEq, exists_eq_left', aput_same, aclr_none, aclr_int, aclr_ref, aclr_null, aret_some, aret_none, bz, bz0, bz1, true_and, and_true, vpT, nIc, nI_add, pk_mul, nI_sub', Nat.add_zero, Nat.zero_add, upd_same, upd_ne, if_false, not_true_eq_false, not_false_eq_true, ite_z, ite_o, eq_self, Bool.false_eq_true, nI_leT, nI_leF, nI_ltT, nI_ltF, nI_ne, and_self, false_and, and_false]
theorem mq_bestE {s w : Nat} (h0 : σ.1 m = some (eO 7 (.ref (m + 1) :: fs))) (hs : s ≤ 7) (hw : w ≤ 1) (ht : mTk st (nI s) = false) : aX (d + 2) iX7_bestWord 0 [some (.ref m), some (.int (nI s)), some (.int (nI w)), none, none, none, none] [] (mS σ m st) Q ↔ Q (some (.int (-5))) (mS σ m st) := by
  simp (disch := omega) only [sX7_bestWord_0, sX7_bestWord_1, sX7_bestWord_4, sX7_bestWord_7, sX7_bestWord_8, sX7_bestWord_9, sX7_bestWord_10, sX7_bestWord_13, sX7_bestWord_16, sX7_bestWord_17, sX7_bestWord_20, sX7_bestWord_23, sX7_bestWord_25, sX7_bestWord_28, sX7_bestWord_29, sX7_bestWord_30, sX7_bestWord_31, sX7_bestWord_32, sX7_bestWord_35, sX7_bestWord_38, sX7_bestWord_40, mm_isSeat, mm_within, mp_isTaken h0, aIsT (mS_0 h0), ht, aFld, aFds, aRow, aRowR, aRefs, aLn, if_true, List.getElem?_cons_zero, List.getElem?_cons_succ, List.set_cons_zero, List.set_cons_succ, List.length_cons, List.length_nil, Option.some.injEq, exists_eq_left', aput_same, aclr_none, aclr_int, aclr_ref, aclr_null, aret_some, aret_none, bz, bz0, bz1, true_and, and_true, vpT, nIc, nI_add, pk_mul, nI_sub', Nat.add_zero, Nat.zero_add, upd_same, upd_ne, if_false, not_true_eq_false, not_false_eq_true, ite_z, ite_o, eq_self, Bool.false_eq_true, nI_leT, nI_leF, nI_ltT, nI_ltF, nI_ne, and_self, false_and, and_false]
theorem mq_best {s w : Nat} (hE : eOK st) (hs : s ≤ 7) (hw : w ≤ 1) (ht : mTk st (nI s) = true) : aX (d + 7) iX7_bestWord 0 [some (.ref m), some (.int (nI s)), some (.int (nI w)), none, none, none, none] [] (mT σ m (.ref (m + 2) :: fs) kp hi sl sv pd st) Q ↔ Q (some (.int (if w = 0 then (mBW st s 16).1 else (mBW st s 16).2))) (mT σ m (.ref (m + 2) :: fs) (mMv st 0 kp 0 371) hi sl sv pd st) := by
  have hl := mp_best_loop (d := d) (σ := mU σ m (.ref (m + 2) :: fs) (mMv st 0 kp 0 371) hi sl sv pd) (m := m) (w := nI w) mU_0 hE (show s < 8 by omega) 16 0 none Q rfl
  rw [mBS, mBW] at hl
  obtain ⟨he1, he2⟩ := mBS_env hE (show s < 8 by omega) 16 (by omega)
  have hback := mMv_back st (mBS st s 16) kp he2
  simp (disch := omega) only [sX7_bestWord_0, sX7_bestWord_1, sX7_bestWord_4, sX7_bestWord_7, sX7_bestWord_8, sX7_bestWord_9, sX7_bestWord_10, sX7_bestWord_13, sX7_bestWord_16, sX7_bestWord_17, sX7_bestWord_20, sX7_bestWord_23, sX7_bestWord_25, sX7_bestWord_28, sX7_bestWord_29, sX7_bestWord_30, sX7_bestWord_31, sX7_bestWord_32, sX7_bestWord_35, sX7_bestWord_38, sX7_bestWord_40, sX7_bestWord_41, sX7_bestWord_42, sX7_bestWord_45, sX7_bestWord_46, sX7_bestWord_47, sX7_bestWord_50, sX7_bestWord_51, mm_isSeat, mm_within, mp_isTaken mU_0, aIsT mT_0, mT_0, mT_1, mT_2, ht, aFld, aFds, aRow, aRowR, aRefs, aLn, if_true, List.getElem?_cons_zero, List.getElem?_cons_succ, List.set_cons_zero, List.set_cons_succ, List.length_cons, List.length_nil, Option.some.injEq, exists_eq_left', aput_same, aclr_none, aclr_int, aclr_ref, aclr_null, aret_some, aret_none, bz, bz0, bz1, true_and, and_true, vpT, nIc, nI_add, pk_mul, nI_sub', Nat.add_zero, Nat.zero_add, upd_same, upd_ne, if_false, not_true_eq_false, not_false_eq_true, ite_z, ite_o, eq_self, Bool.false_eq_true, nI_leT, nI_leF, nI_ltT, nI_ltF, nI_ne, and_self, false_and, and_false]
  rw [mm_moves mT_1 mT_2 (by omega) (by omega) (by omega) (by omega)]
  simp (disch := omega) only [sX7_bestWord_54, sX7_bestWord_56, sX7_bestWord_57, sX7_bestWord_59, sX7_bestWord_61, sX7_bestWord_62, mT_w2, aFld, aFds, aRow, aRowR, aRefs, aLn, if_true, List.getElem?_cons_zero, List.getElem?_cons_succ, List.set_cons_zero, List.set_cons_succ, List.length_cons, List.length_nil, Option.some.injEq, exists_eq_left', aput_same, aclr_none, aclr_int, aclr_ref, aclr_null, aret_some, aret_none, bz, bz0, bz1, true_and, and_true, vpT, nIc, nI_add, pk_mul, nI_sub', Nat.add_zero, Nat.zero_add, upd_same, upd_ne, if_false, not_true_eq_false, not_false_eq_true, ite_z, ite_o, eq_self, Bool.false_eq_true, nI_leT, nI_leF, nI_ltT, nI_ltF, nI_ne, and_self, false_and, and_false]
  rw [hl]
  simp (disch := omega) only [exists_eq_right, sX7_bestWord_116, sX7_bestWord_117, sX7_bestWord_120, sX7_bestWord_121, sX7_bestWord_122, sX7_bestWord_125, sX7_bestWord_126, mT_0, mT_1, mT_2, aFld, aFds, aRow, aRowR, aRefs, aLn, if_true, List.getElem?_cons_zero, List.getElem?_cons_succ, List.set_cons_zero, List.set_cons_succ, List.length_cons, List.length_nil, Option.some.injEq, exists_eq_left', aput_same, aclr_none, aclr_int, aclr_ref, aclr_null, aret_some, aret_none, bz, bz0, bz1, true_and, and_true, vpT, nIc, nI_add, pk_mul, nI_sub', Nat.add_zero, Nat.zero_add, upd_same, upd_ne, if_false, not_true_eq_false, not_false_eq_true, ite_z, ite_o, eq_self, Bool.false_eq_true, nI_leT, nI_leF, nI_ltT, nI_ltF, nI_ne, and_self, false_and, and_false]
  rw [mm_moves mT_2 mT_1 (by omega) (by omega) (by omega) (by omega), mT_w1, hback]
  by_cases g : w = 0
  · subst g
    simp (disch := omega) only [sX7_bestWord_129, sX7_bestWord_130, sX7_bestWord_133, sX7_bestWord_134, sX7_bestWord_137, sX7_bestWord_139, aFld, aFds, aRow, aRowR, aRefs, aLn, if_true, List.getElem?_cons_zero, List.getElem?_cons_succ, List.set_cons_zero, List.set_cons_succ, List.length_cons, List.length_nil, Option.some.injEq, exists_eq_left', aput_same, aclr_none, aclr_int, aclr_ref, aclr_null, aret_some, aret_none, bz, bz0, bz1, true_and, and_true, vpT, nIc, nI_add, pk_mul, nI_sub', Nat.add_zero, Nat.zero_add, upd_same, upd_ne, if_false, not_true_eq_false, not_false_eq_true, ite_z, ite_o, eq_self, Bool.false_eq_true, nI_leT, nI_leF, nI_ltT, nI_ltF, nI_ne, and_self, false_and, and_false]
  · simp (disch := omega) only [sX7_bestWord_129, sX7_bestWord_130, sX7_bestWord_133, sX7_bestWord_134, sX7_bestWord_137, sX7_bestWord_139, g, aFld, aFds, aRow, aRowR, aRefs, aLn, if_true, List.getElem?_cons_zero, List.getElem?_cons_succ, List.set_cons_zero, List.set_cons_succ, List.length_cons, List.length_nil, Option.some.injEq, exists_eq_left', aput_same, aclr_none, aclr_int, aclr_ref, aclr_null, aret_some, aret_none, bz, bz0, bz1, true_and, and_true, vpT, nIc, nI_add, pk_mul, nI_sub', Nat.add_zero, Nat.zero_add, upd_same, upd_ne, if_false, not_true_eq_false, not_false_eq_true, ite_z, ite_o, eq_self, Bool.false_eq_true, nI_leT, nI_leF, nI_ltT, nI_ltF, nI_ne, and_self, false_and, and_false]
theorem mp_pt_loop {s : Int32} (h0 : σ.1 m = some (eO 7 (.ref (m + 1) :: fs))) (h12 : c ≤ 12) : ∀ (f : Nat) (st : Nat → Int32) (Q : aQ), mOK st → st 34 = nI c → (∀ a, a < c → st (35 + 28 * a + 2) = nI 0 → 9 ≤ f + bN (bk st a)) → (aX (d + 6) iX7_pointsThen 22 [some (.ref m), some (.int s), none] [] (mS σ m st) Q ↔ aX (d + 6) iX7_pointsThen 37 [some (.ref m), some (.int s), none] [] (mS σ m (mPt c f st)) Q)
  | 0, st, Q, hok, hc, hf => by
    have g : mHow st (nI 0) c = 0 := by
      refine Nat.eq_zero_of_not_pos fun g => ?_
      obtain ⟨a, ha, h2⟩ := mHow_pos c g
      have hf1 := hf a ha h2
      obtain ⟨he, c2, hc2, hc12, hball⟩ := id hok
      have hc3 : c2 = c := nI_inj (by omega) (by omega) (hc2.symm.trans hc)
      subst hc3
      obtain ⟨n, h1, h2, h3, -⟩ := hball a ha
      rw [bOK_N h1 h3] at hf1
      omega
    rw [sX7_pointsThen_22, mPt]
    simp (disch := omega) only [sX7_pointsThen_23, sX7_pointsThen_24, sX7_pointsThen_27, sX7_pointsThen_30, sX7_pointsThen_31, sX7_pointsThen_34, mp_withHow h0 hc h12, aIsT (mS_0 h0), g, aFld, aFds, aRow, aRowR, aRefs, aLn, if_true, List.getElem?_cons_zero, List.getElem?_cons_succ, List.set_cons_zero, List.set_cons_succ, List.length_cons, List.length_nil, Option.some.injEq, exists_eq_left', aput_same, aclr_none, aclr_int, aclr_ref, aclr_null, aret_some, aret_none, bz, bz0, bz1, true_and, and_true, vpT, nIc, nI_add, pk_mul, nI_sub', Nat.add_zero, Nat.zero_add, upd_same, upd_ne, if_false, not_true_eq_false, not_false_eq_true, ite_z, ite_o, eq_self, Bool.false_eq_true, nI_leT, nI_leF, nI_ltT, nI_ltF, nI_ne, and_self, false_and, and_false]
  | f + 1, st, Q, hok, hc, hf => by
    have hle := mHow_le (st := st) (v := nI 0) c
    rw [sX7_pointsThen_22]
    by_cases g : 0 < mHow st (nI 0) c
    · have ih := mp_pt_loop (s := s) h0 h12 f (mRnd st c) Q (mRnd_ok hok) (by rw [mRnd_34]; exact hc) (fun a ha g2 => by
        obtain ⟨he, c2, hc2, hc12, hball⟩ := id hok
        have hc3 : c2 = c := nI_inj (by omega) (by omega) (hc2.symm.trans hc)
        subst hc3
        by_cases g3 : st (35 + 28 * a + 2) = nI 0
        · have hf1 := hf a ha g3
          rcases mRnd_pro hok hc h12 ha g3 with hp | hp
          · exact absurd g2 hp
          · omega
        · have := mRnd_bk hok hc h12 ha 2 (by omega)
          unfold bStep at this
          rw [if_neg (show ¬ bk st a 2 = nI 0 from g3)] at this
          exact absurd (this.symm.trans g2) g3)
      have e2 : mPt c (f + 1) st = mPt c f (mRnd st c) := by rw [mPt, if_pos g]
      rw [e2, ← ih]
      simp (disch := omega) only [sX7_pointsThen_23, sX7_pointsThen_24, sX7_pointsThen_27, sX7_pointsThen_30, sX7_pointsThen_31, sX7_pointsThen_34, mp_withHow h0 hc h12, mp_makesRound h0 hok hc h12, aIsT (mS_0 h0), aFld, aFds, aRow, aRowR, aRefs, aLn, if_true, List.getElem?_cons_zero, List.getElem?_cons_succ, List.set_cons_zero, List.set_cons_succ, List.length_cons, List.length_nil, Option.some.injEq, exists_eq_left', aput_same, aclr_none, aclr_int, aclr_ref, aclr_null, aret_some, aret_none, bz, bz0, bz1, true_and, and_true, vpT, nIc, nI_add, pk_mul, nI_sub', Nat.add_zero, Nat.zero_add, upd_same, upd_ne, if_false, not_true_eq_false, not_false_eq_true, ite_z, ite_o, eq_self, Bool.false_eq_true, nI_leT, nI_leF, nI_ltT, nI_ltF, nI_ne, and_self, false_and, and_false]
    · have e2 : mPt c (f + 1) st = st := by rw [mPt, if_neg g]
      rw [e2]
      simp (disch := omega) only [sX7_pointsThen_23, sX7_pointsThen_24, sX7_pointsThen_27, sX7_pointsThen_30, sX7_pointsThen_31, sX7_pointsThen_34, mp_withHow h0 hc h12, aIsT (mS_0 h0), aFld, aFds, aRow, aRowR, aRefs, aLn, if_true, List.getElem?_cons_zero, List.getElem?_cons_succ, List.set_cons_zero, List.set_cons_succ, List.length_cons, List.length_nil, Option.some.injEq, exists_eq_left', aput_same, aclr_none, aclr_int, aclr_ref, aclr_null, aret_some, aret_none, bz, bz0, bz1, true_and, and_true, vpT, nIc, nI_add, pk_mul, nI_sub', Nat.add_zero, Nat.zero_add, upd_same, upd_ne, if_false, not_true_eq_false, not_false_eq_true, ite_z, ite_o, eq_self, Bool.false_eq_true, nI_leT, nI_leF, nI_ltT, nI_ltF, nI_ne, and_self, false_and, and_false]
theorem mq_ptsN {x : Int32} (hx : inR x 0 7 = False) : aX (d + 2) iX7_pointsThen 0 [some (.ref m), some (.int x), none] [] σ Q ↔ Q (some (.int (-1))) σ := by
  simp only [inR] at hx
  simp (disch := omega) only [sX7_pointsThen_0, sX7_pointsThen_1, sX7_pointsThen_4, sX7_pointsThen_7, sX7_pointsThen_8, mm_isSeat, hx, aFld, aFds, aRow, aRowR, aRefs, aLn, if_true, List.getElem?_cons_zero, List.getElem?_cons_succ, List.set_cons_zero, List.set_cons_succ, List.length_cons, List.length_nil, Option.some.injEq, exists_eq_left', aput_same, aclr_none, aclr_int, aclr_ref, aclr_null, aret_some, aret_none, bz, bz0, bz1, true_and, and_true, vpT, nIc, nI_add, pk_mul, nI_sub', Nat.add_zero, Nat.zero_add, upd_same, upd_ne, if_false, not_true_eq_false, not_false_eq_true, ite_z, ite_o, eq_self, Bool.false_eq_true, nI_leT, nI_leF, nI_ltT, nI_ltF, nI_ne, and_self, false_and, and_false]
theorem mq_pts {s : Nat} (hok : mOK st) (hc : st 34 = nI c) (h12 : c ≤ 12) (hs : s ≤ 7) : aX (d + 6) iX7_pointsThen 0 [some (.ref m), some (.int (nI s)), none] [] (mT σ m (.ref (m + 2) :: fs) kp hi sl sv pd st) Q ↔ Q (some (.int (mPt c 9 st (25 + s)))) (mT σ m (.ref (m + 2) :: fs) (mMv st 0 kp 0 371) hi sl sv pd st) := by
  have hl := mp_pt_loop (d := d) (σ := mU σ m (.ref (m + 2) :: fs) (mMv st 0 kp 0 371) hi sl sv pd) (m := m) (s := nI s) mU_0 h12 9 st Q hok hc (fun a ha _ => by
    obtain ⟨he, c2, hc2, hc12, hball⟩ := id hok
    have hc3 : c2 = c := nI_inj (by omega) (by omega) (hc2.symm.trans hc)
    subst hc3
    obtain ⟨n, h1, h2, h3, -⟩ := hball a ha
    rw [bOK_N h1 h3]
    omega)
  have hback := mMv_back st (mPt c 9 st) kp (fun k hk => mPt_big h12 hk 9 st)
  simp (disch := omega) only [sX7_pointsThen_0, sX7_pointsThen_1, sX7_pointsThen_4, sX7_pointsThen_7, sX7_pointsThen_8, sX7_pointsThen_9, sX7_pointsThen_10, sX7_pointsThen_13, sX7_pointsThen_14, sX7_pointsThen_15, sX7_pointsThen_18, sX7_pointsThen_19, mm_isSeat, aIsT mT_0, mT_0, mT_1, mT_2, aFld, aFds, aRow, aRowR, aRefs, aLn, if_true, List.getElem?_cons_zero, List.getElem?_cons_succ, List.set_cons_zero, List.set_cons_succ, List.length_cons, List.length_nil, Option.some.injEq, exists_eq_left', aput_same, aclr_none, aclr_int, aclr_ref, aclr_null, aret_some, aret_none, bz, bz0, bz1, true_and, and_true, vpT, nIc, nI_add, pk_mul, nI_sub', Nat.add_zero, Nat.zero_add, upd_same, upd_ne, if_false, not_true_eq_false, not_false_eq_true, ite_z, ite_o, eq_self, Bool.false_eq_true, nI_leT, nI_leF, nI_ltT, nI_ltF, nI_ne, and_self, false_and, and_false]
  rw [mm_moves mT_1 mT_2 (by omega) (by omega) (by omega) (by omega)]
  simp only [mT_w2, aFld, aFds, aRow, aRowR, aRefs, aLn, if_true, List.getElem?_cons_zero, List.getElem?_cons_succ, List.set_cons_zero, List.set_cons_succ, List.length_cons, List.length_nil, Option.some.injEq, exists_eq_left', aput_same, aclr_none, aclr_int, aclr_ref, aclr_null, aret_some, aret_none, bz, bz0, bz1, true_and, and_true, vpT, nIc, nI_add, pk_mul, nI_sub']
  rw [hl]
  simp (disch := omega) only [sX7_pointsThen_37, sX7_pointsThen_38, sX7_pointsThen_41, sX7_pointsThen_43, sX7_pointsThen_44, sX7_pointsThen_45, sX7_pointsThen_46, sX7_pointsThen_47, sX7_pointsThen_48, sX7_pointsThen_51, sX7_pointsThen_52, sX7_pointsThen_53, sX7_pointsThen_56, sX7_pointsThen_57, mT_0, mT_1, mT_2, aFld, aFds, aRow, aRowR, aRefs, aLn, if_true, List.getElem?_cons_zero, List.getElem?_cons_succ, List.set_cons_zero, List.set_cons_succ, List.length_cons, List.length_nil, Option.some.injEq, exists_eq_left', aput_same, aclr_none, aclr_int, aclr_ref, aclr_null, aret_some, aret_none, bz, bz0, bz1, true_and, and_true, vpT, nIc, nI_add, pk_mul, nI_sub', Nat.add_zero, Nat.zero_add, upd_same, upd_ne, if_false, not_true_eq_false, not_false_eq_true, ite_z, ite_o, eq_self, Bool.false_eq_true, nI_leT, nI_leF, nI_ltT, nI_ltF, nI_ne, and_self, false_and, and_false]
  rw [mm_moves mT_2 mT_1 (by omega) (by omega) (by omega) (by omega), mT_w1, hback]
  simp (disch := omega) only [sX7_pointsThen_60, sX7_pointsThen_61, aFld, aFds, aRow, aRowR, aRefs, aLn, if_true, List.getElem?_cons_zero, List.getElem?_cons_succ, List.set_cons_zero, List.set_cons_succ, List.length_cons, List.length_nil, Option.some.injEq, exists_eq_left', aput_same, aclr_none, aclr_int, aclr_ref, aclr_null, aret_some, aret_none, bz, bz0, bz1, true_and, and_true, vpT, nIc, nI_add, pk_mul, nI_sub', Nat.add_zero, Nat.zero_add, upd_same, upd_ne, if_false, not_true_eq_false, not_false_eq_true, ite_z, ite_o, eq_self, Bool.false_eq_true, nI_leT, nI_leF, nI_ltT, nI_ltF, nI_ne, and_self, false_and, and_false]
end MX
