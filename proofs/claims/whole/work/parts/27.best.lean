/-! an album alone, to its end -/
def bEnd (st : Nat → Int32) : Nat → (Nat → Int32) → (Nat → Int32)
  | 0, b => b
  | f + 1, b => if b 2 = nI 0 then bEnd st f (bStep st b) else b
def bEndN (st : Nat → Int32) : Nat → (Nat → Int32) → Nat
  | 0, _ => 0
  | f + 1, b => if b 2 = nI 0 then bEndN st f (bStep st b) + 1 else 0
theorem bEnd_cong {st st' : Nat → Int32} (he : ∀ k, k < 25 → st' k = st k) (hE : eOK st) : ∀ (f : Nat) (b b' : Nat → Int32), (∀ i, i < 28 → b' i = b i) → bOK b → (∀ i, i < 28 → bEnd st' f b' i = bEnd st f b i) ∧ bEndN st' f b' = bEndN st f b
  | 0, _, _, h, _ => ⟨h, rfl⟩
  | f + 1, b, b', h, hb => by
    rw [bEnd, bEnd, bEndN, bEndN, h 2 (by omega)]
    by_cases g : b 2 = nI 0
    · rw [if_pos g, if_pos g, if_pos g, if_pos g]
      obtain ⟨h1, h2⟩ := bEnd_cong he hE f (bStep st b) (bStep st' b') (bStep_cong he h hb) (bStep_ok hE hb)
      exact ⟨h1, by rw [h2]⟩
    · rw [if_neg g, if_neg g, if_neg g, if_neg g]
      exact ⟨h, rfl⟩
theorem bEnd_ok {st : Nat → Int32} (hE : eOK st) : ∀ (f : Nat) (b : Nat → Int32), bOK b → bOK (bEnd st f b)
  | 0, _, h => h
  | f + 1, b, h => by
    rw [bEnd]
    split
    · exact bEnd_ok hE f _ (bStep_ok hE h)
    · exact h
theorem mFo_bk {a c : Nat} (h12 : c ≤ 12) (ha : a < c) : ∀ (f : Nat) (st : Nat → Int32), mOK st → st 34 = nI c → (∀ k, k < 28 → bk (mFo a c f st) a k = bEnd st f (bk st a) k) ∧ mFoN a c f st = bEndN st f (bk st a)
  | 0, _, _, _ => ⟨fun _ _ => rfl, rfl⟩
  | f + 1, st, hok, hc => by
    have hb : bOK (bk st a) := by
      obtain ⟨he, c2, hc2, hc12, hball⟩ := id hok
      have hc3 : c2 = c := nI_inj (by omega) (by omega) (hc2.symm.trans hc)
      subst hc3
      exact hball a ha
    have e2 : bk st a 2 = st (35 + 28 * a + 2) := rfl
    rw [mFo, mFoN, bEnd, bEndN, e2]
    by_cases g : st (35 + 28 * a + 2) = nI 0
    · rw [if_pos g, if_pos g, if_pos g, if_pos g]
      obtain ⟨h1, h2⟩ := mFo_bk h12 ha f (mRnd st c) (mRnd_ok hok) (by rw [mRnd_34]; exact hc)
      obtain ⟨h3, h4⟩ := bEnd_cong (st := st) (st' := mRnd st c) (fun k hk => mRnd_env (by omega)) hok.1 f (bStep st (bk st a)) (bk (mRnd st c) a) (mRnd_bk hok hc h12 ha) (bStep_ok hok.1 hb)
      exact ⟨fun k hk => (h1 k hk).trans (h3 k hk), by rw [h2, h4]⟩
    · rw [if_neg g, if_neg g, if_neg g, if_neg g]
      exact ⟨fun _ _ => rfl, rfl⟩
/-- a new album -/
def b0 (s w : Nat) (k : Nat) : Int32 := if k = 0 then nI s else if k = 1 then nI 1 else if k = 3 then -6 else if k = 4 then nI s else if k = 5 then nI w else nI 0
theorem b0_ok {s w : Nat} (hs : s < 8) (hw : w < 16) : bOK (b0 s w) := by
  refine ⟨1, rfl, by omega, by omega, ⟨s, rfl, hs⟩, Or.inl rfl, fun g hg => ?_, fun g g' h1 h2 => by omega, fun g hg => ?_, fun g hg => ?_, Or.inl rfl⟩ <;> have hg0 : g = 0 := by omega
  · subst hg0; exact ⟨s, rfl, hs⟩
  · subst hg0; exact ⟨w, rfl, by omega, fun _ => hw⟩
  · subst hg0; exact Or.inl rfl
theorem mBeg_bk (st : Nat → Int32) (c s w : Nat) : ∀ k, k < 28 → bk (mBeg st c s w) c k = b0 s w k := by
  intro k hk
  unfold mBeg
  show upd _ _ _ (35 + 28 * c + k) = _
  rw [upd_ne (by omega)]
  unfold mPut
  have h : k = 0 ∨ k = 1 ∨ k = 3 ∨ k = 4 ∨ k = 5 ∨ k = 6 ∨ (k ≠ 0 ∧ k ≠ 1 ∧ k ≠ 3 ∧ k ≠ 4 ∧ k ≠ 5 ∧ k ≠ 6) := by omega
  rcases h with rfl | rfl | rfl | rfl | rfl | rfl | ⟨a0, a1, a3, a4, a5, a6⟩
  · rw [upd_ne (by omega), upd_ne (by omega), upd_ne (by omega), upd_ne (by omega)]; exact upd_same
  · rw [upd_same]; rfl
  · rw [upd_ne (by omega), upd_ne (by omega), upd_ne (by omega), upd_ne (by omega), upd_ne (by omega), upd_same]; rfl
  · rw [upd_ne (by omega), upd_ne (by omega), upd_ne (by omega)]; exact upd_same
  · rw [upd_ne (by omega), upd_ne (by omega)]; exact upd_same
  · rw [upd_ne (by omega)]; exact upd_same
  · rw [upd_ne (by omega), upd_ne (by omega), upd_ne (by omega), upd_ne (by omega), upd_ne (by omega), upd_ne (by omega), mClr_at, if_pos (by omega)]
    unfold b0
    rw [if_neg a0, if_neg a1, if_neg a3, if_neg a4, if_neg a5]
theorem mBeg_out (st : Nat → Int32) (c s w : Nat) {k : Nat} (h : ¬ (35 + 28 * c ≤ k ∧ k < 63 + 28 * c)) (h34 : k ≠ 34) : mBeg st c s w k = st k := by
  unfold mBeg mPut
  rw [upd_ne h34, upd_ne (by omega), upd_ne (by omega), upd_ne (by omega), upd_ne (by omega), upd_ne (by omega), upd_ne (by omega), mClr_at, if_neg (by omega)]
theorem mBeg_34 (st : Nat → Int32) (c s w : Nat) : mBeg st c s w 34 = nI (c + 1) := upd_same
theorem mBeg_ok {st : Nat → Int32} {c s w : Nat} (hE : eOK st) (hb : ∀ a, a < c → bOK (bk st a)) (h12 : c < 12) (hs : s < 8) (hw : w < 16) : mOK (mBeg st c s w) := by
  refine ⟨eOK_of (fun k hk => mBeg_out st c s w (by omega) (by omega)) hE, c + 1, mBeg_34 st c s w, by omega, fun a ha => ?_⟩
  by_cases h : a = c
  · subst h
    exact bOK_congr (mBeg_bk st a s w) (b0_ok hs hw)
  · exact bOK_congr (fun i hi => mBeg_out st c s w (by omega) (by omega)) (hb a (by omega))
/-- in how many features the last word of a new album will differ from its first -/
def mDif (st : Nat → Int32) (s w : Nat) : Int32 := mBits (st (bLw (bEnd st 9 (b0 s w))).toNatClampNeg ^^^ st w) 12
theorem bLw_cong {b b' : Nat → Int32} (h : ∀ i, i < 28 → b' i = b i) (h8 : bN b ≤ 8) : bLw b' = bLw b := by unfold bLw; rw [bN_cong h, h _ (by omega)]
theorem bLw_ok {b : Nat → Int32} (hb : bOK b) : ∃ x, bLw b = nI x ∧ x < 16 := by
  obtain ⟨n, h1, h2, h3, ho, hh, hsq, hd, hw, -⟩ := hb
  obtain ⟨x, e1, e2, e3⟩ := hw ((n - 1) / 2 * 2) (by omega)
  refine ⟨x, ?_, e3 (by omega)⟩
  unfold bLw
  rw [bOK_N h1 h3]
  exact e1
theorem mDif_cong {st st' : Nat → Int32} (he : ∀ k, k < 25 → st' k = st k) (hE : eOK st) {s w : Nat} (hs : s < 8) (hw : w < 16) : mDif st' s w = mDif st s w := by
  obtain ⟨h1, -⟩ := bEnd_cong he hE 9 (b0 s w) (b0 s w) (fun _ _ => rfl) (b0_ok hs hw)
  have hb := bEnd_ok hE 9 _ (b0_ok hs hw)
  obtain ⟨x, hx, hx16⟩ := bLw_ok hb
  have h8 : bN (bEnd st 9 (b0 s w)) ≤ 8 := by obtain ⟨n, g1, g2, g3, -⟩ := hb; rw [bOK_N g1 g3]; exact g3
  unfold mDif
  rw [bLw_cong h1 h8, hx, nIc (by omega), he x (by omega), he w (by omega)]
section MB2
variable {d : Nat} {σ : aS} {Q : aQ} {m a c : Nat} {st kp hi sl sv pd : Nat → Int32} {fs : List Value}
theorem mp_dif_loop {s w : Int32} (h0 : σ.1 m = some (eO 7 (.ref (m + 1) :: fs))) : ∀ (f : Nat) (st : Nat → Int32) (Q : aQ), mOK st → st 34 = nI 1 → (st (35 + 28 * 0 + 2) = nI 0 → 9 ≤ f + bN (bk st 0)) → (aX (d + 6) iX7_differsWith 15 [some (.ref m), some (.int s), some (.int w), some (.int (nI 0))] [] (mS σ m st) Q ↔ aX (d + 6) iX7_differsWith 30 [some (.ref m), some (.int s), some (.int w), some (.int (nI 0))] [] (mS σ m (mFo 0 1 f st)) Q)
  | 0, st, Q, hok, hc, hf => by
    have g : ¬ st (35 + 28 * 0 + 2) = nI 0 := by
      intro g
      have hf1 := hf g
      obtain ⟨he, c2, hc2, hc12, hball⟩ := id hok
      have hc3 : c2 = 1 := nI_inj (by omega) (by omega) (hc2.symm.trans hc)
      subst hc3
      obtain ⟨n, h1, h2, h3, -⟩ := hball 0 (by omega)
      rw [bOK_N h1 h3] at hf1
      omega
    rw [sX7_differsWith_15, mFo]
    simp (disch := omega) only [sX7_differsWith_16, sX7_differsWith_17, sX7_differsWith_20, sX7_differsWith_23, sX7_differsWith_24, sX7_differsWith_27, mp_goesRound h0, aIsT (mS_0 h0), g, aFld, aFds, aRow, aRowR, aRefs, aLn, if_true, List.getElem?_cons_zero, List.getElem?_cons_succ, List.set_cons_zero, List.set_cons_succ, List.length_cons, List.length_nil, Option.some.injEq, exists_eq_left', aput_same, aclr_none, aclr_int, aclr_ref, aclr_null, aret_some, aret_none, bz, bz0, bz1, true_and, and_true, vpT, nIc, nI_add, pk_mul, nI_sub', Nat.add_zero, Nat.zero_add, upd_same, upd_ne, if_false, not_true_eq_false, not_false_eq_true, ite_z, ite_o, eq_self, Bool.false_eq_true, nI_leT, nI_leF, nI_ltT, nI_ltF, nI_ne, and_self, false_and, and_false]
  | f + 1, st, Q, hok, hc, hf => by
    rw [sX7_differsWith_15]
    by_cases g : st (35 + 28 * 0 + 2) = nI 0
    · have hp := mRnd_pro hok hc (by omega) (show 0 < 1 by omega) g
      have hf1 := hf g
      have ih := mp_dif_loop (s := s) (w := w) h0 f (mRnd st 1) Q (mRnd_ok hok) (by rw [mRnd_34]; exact hc) (fun g2 => by rcases hp with hp | hp; exact absurd g2 hp; omega)
      have e2 : mFo 0 1 (f + 1) st = mFo 0 1 f (mRnd st 1) := by rw [mFo, if_pos g]
      rw [e2, ← ih]
      simp (disch := omega) only [sX7_differsWith_16, sX7_differsWith_17, sX7_differsWith_20, sX7_differsWith_23, sX7_differsWith_24, sX7_differsWith_27, mp_goesRound h0, mp_makesRound h0 hok hc, aIsT (mS_0 h0), g, aFld, aFds, aRow, aRowR, aRefs, aLn, if_true, List.getElem?_cons_zero, List.getElem?_cons_succ, List.set_cons_zero, List.set_cons_succ, List.length_cons, List.length_nil, Option.some.injEq, exists_eq_left', aput_same, aclr_none, aclr_int, aclr_ref, aclr_null, aret_some, aret_none, bz, bz0, bz1, true_and, and_true, vpT, nIc, nI_add, pk_mul, nI_sub', Nat.add_zero, Nat.zero_add, upd_same, upd_ne, if_false, not_true_eq_false, not_false_eq_true, ite_z, ite_o, eq_self, Bool.false_eq_true, nI_leT, nI_leF, nI_ltT, nI_ltF, nI_ne, and_self, false_and, and_false]
    · have e2 : mFo 0 1 (f + 1) st = st := by rw [mFo, if_neg g]
      rw [e2]
      simp (disch := omega) only [sX7_differsWith_16, sX7_differsWith_17, sX7_differsWith_20, sX7_differsWith_23, sX7_differsWith_24, sX7_differsWith_27, mp_goesRound h0, aIsT (mS_0 h0), g, aFld, aFds, aRow, aRowR, aRefs, aLn, if_true, List.getElem?_cons_zero, List.getElem?_cons_succ, List.set_cons_zero, List.set_cons_succ, List.length_cons, List.length_nil, Option.some.injEq, exists_eq_left', aput_same, aclr_none, aclr_int, aclr_ref, aclr_null, aret_some, aret_none, bz, bz0, bz1, true_and, and_true, vpT, nIc, nI_add, pk_mul, nI_sub', Nat.add_zero, Nat.zero_add, upd_same, upd_ne, if_false, not_true_eq_false, not_false_eq_true, ite_z, ite_o, eq_self, Bool.false_eq_true, nI_leT, nI_leF, nI_ltT, nI_ltF, nI_ne, and_self, false_and, and_false]
/-- the state behind it -/
def mDifS (st : Nat → Int32) (s w : Nat) : Nat → Int32 := mFo 0 1 9 (mBeg (upd st 34 (nI 0)) 0 s w)
theorem mp_differs {s w : Nat} (h0 : σ.1 m = some (eO 7 (.ref (m + 1) :: fs))) (hE : eOK st) (hs : s < 8) (hw : w < 16) : aX (d + 6) iX7_differsWith 0 [some (.ref m), some (.int (nI s)), some (.int (nI w)), none] [] (mS σ m st) Q ↔ Q (some (.int (mDif st s w))) (mS σ m (mDifS st s w)) := by
  have hE2 : eOK (upd st 34 (nI 0)) := eOK_of (fun k hk => upd_ne (by omega)) hE
  have hok := mBeg_ok (c := 0) hE2 (fun a ha => absurd ha (Nat.not_lt_zero a)) (by omega) hs hw
  have h34 := mBeg_34 (upd st 34 (nI 0)) 0 s w
  have hbk := mBeg_bk (upd st 34 (nI 0)) 0 s w
  have hN : bN (bk (mBeg (upd st 34 (nI 0)) 0 s w) 0) = 1 := by rw [bN_cong hbk]; rfl
  have hl := mp_dif_loop (d := d) (s := nI s) (w := nI w) h0 9 _ Q hok h34 (fun _ => by omega)
  obtain ⟨ok9, c9, e9⟩ := mFo_ok (a := 0) 9 _ hok h34
  obtain ⟨n9, g1, g2, g3, grest⟩ : bOK (bk (mFo 0 1 9 (mBeg (upd st 34 (nI 0)) 0 s w)) 0) := by
    obtain ⟨he, c3, hc3, hc13, hb9⟩ := id ok9
    have hc4 : c3 = 1 := nI_inj (by omega) (by omega) (hc3.symm.trans c9)
    subst hc4
    exact hb9 0 (by omega)
  have hbE := (mFo_bk (a := 0) (c := 1) (by omega) (by omega) 9 _ hok h34).1
  have hcg := (bEnd_cong (st := st) (st' := mBeg (upd st 34 (nI 0)) 0 s w) (fun k hk => by rw [mBeg_out _ _ _ _ (by omega) (by omega), upd_ne (by omega)]) hE 9 (b0 s w) _ hbk (b0_ok hs hw)).1
  have hfin : ∀ i, i < 28 → bk (mFo 0 1 9 (mBeg (upd st 34 (nI 0)) 0 s w)) 0 i = bEnd st 9 (b0 s w) i := fun i hi => (hbE i hi).trans (hcg i hi)
  have hbo := bEnd_ok hE 9 _ (b0_ok hs hw)
  obtain ⟨x, hx, hx16⟩ := bLw_ok hbo
  have h8 : bN (bEnd st 9 (b0 s w)) ≤ 8 := by obtain ⟨n, a1, a2, a3, -⟩ := hbo; rw [bOK_N a1 a3]; exact a3
  have hlw := bLw_cong hfin h8
  rw [hx] at hlw
  unfold bLw at hlw
  rw [bOK_N g1 g3] at hlw
  have hlw2 : mFo 0 1 9 (mBeg (upd st 34 (nI 0)) 0 s w) (35 + 28 * 0 + (4 + 3 * ((n9 - 1) / 2 * 2) + 1)) = nI x := hlw
  have hst : ∀ k, k < 16 → mFo 0 1 9 (mBeg (upd st 34 (nI 0)) 0 s w) k = st k := fun k hk => by rw [e9 k (by omega), mBeg_out _ _ _ _ (by omega) (by omega), upd_ne (by omega)]
  simp (disch := omega) only [sX7_differsWith_0, sX7_differsWith_1, sX7_differsWith_4, sX7_differsWith_6, sX7_differsWith_7, sX7_differsWith_8, sX7_differsWith_9, sX7_differsWith_10, sX7_differsWith_11, sX7_differsWith_14, mS_0 h0, mS_1, mS_put, mp_begun h0 (show upd st 34 (nI 0) 34 = nI 0 from upd_same) (by omega), aIsT (mS_0 h0), aFld, aFds, aRow, aRowR, aRefs, aLn, if_true, List.getElem?_cons_zero, List.getElem?_cons_succ, List.set_cons_zero, List.set_cons_succ, List.length_cons, List.length_nil, Option.some.injEq, exists_eq_left', aput_same, aclr_none, aclr_int, aclr_ref, aclr_null, aret_some, aret_none, bz, bz0, bz1, true_and, and_true, vpT, nIc, nI_add, pk_mul, nI_sub', Nat.add_zero, Nat.zero_add, upd_same, upd_ne, if_false, not_true_eq_false, not_false_eq_true, ite_z, ite_o, eq_self, Bool.false_eq_true, nI_leT, nI_leF, nI_ltT, nI_ltF, nI_ne, and_self, false_and, and_false]
  rw [hl]
  simp (disch := omega) only [sX7_differsWith_30, sX7_differsWith_31, sX7_differsWith_32, sX7_differsWith_33, sX7_differsWith_36, sX7_differsWith_37, sX7_differsWith_40, mp_lastWord h0 (show 0 < 12 by omega) g1 g2 g3, hlw2, mp_apart h0, aIsT (mS_0 h0), aFld, aFds, aRow, aRowR, aRefs, aLn, if_true, List.getElem?_cons_zero, List.getElem?_cons_succ, List.set_cons_zero, List.set_cons_succ, List.length_cons, List.length_nil, Option.some.injEq, exists_eq_left', aput_same, aclr_none, aclr_int, aclr_ref, aclr_null, aret_some, aret_none, bz, bz0, bz1, true_and, and_true, vpT, nIc, nI_add, pk_mul, nI_sub', Nat.add_zero, Nat.zero_add, upd_same, upd_ne, if_false, not_true_eq_false, not_false_eq_true, ite_z, ite_o, eq_self, Bool.false_eq_true, nI_leT, nI_leF, nI_ltT, nI_ltF, nI_ne, and_self, false_and, and_false, hst]
  unfold mDif mDifS
  rw [hx, nIc (by omega)]
theorem mDifS_env {s w : Nat} (hE : eOK st) (hs : s < 8) (hw : w < 16) : (∀ k, k < 25 → mDifS st s w k = st k) ∧ (∀ k, 371 ≤ k → mDifS st s w k = st k) := by
  have hE2 : eOK (upd st 34 (nI 0)) := eOK_of (fun k hk => upd_ne (by omega)) hE
  have hok := mBeg_ok (c := 0) hE2 (fun a ha => absurd ha (Nat.not_lt_zero a)) (by omega) hs hw
  obtain ⟨-, -, e9⟩ := mFo_ok (a := 0) 9 _ hok (mBeg_34 (upd st 34 (nI 0)) 0 s w)
  refine ⟨fun k hk => ?_, fun k hk => ?_⟩
  · unfold mDifS
    rw [e9 k hk, mBeg_out _ _ _ _ (by omega) (by omega), upd_ne (by omega)]
  · unfold mDifS
    rw [mFo_big (by omega) hk, mBeg_out _ _ _ _ (by omega) (by omega), upd_ne (by omega)]
end MB2
