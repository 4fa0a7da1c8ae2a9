/-! THE LAW: its guess is the class's -/
/-- the lowest of the nearest, between two words -/
def gLo (f : Nat → Int32) (m lo hi : Nat) : Prop := lo ≤ m ∧ m < hi ∧ (∀ j, lo ≤ j → j < hi → f m ≤ f j) ∧ ∀ j, lo ≤ j → j < m → f m < f j
theorem gLo_one {f : Nat → Int32} {m m' lo hi : Nat} (h : gLo f m lo hi) (h' : gLo f m' lo hi) : m = m' := by
  obtain ⟨a1, a2, a3, a4⟩ := h
  obtain ⟨b1, b2, b3, b4⟩ := h'
  rcases Nat.lt_trichotomy m m' with g | g | g
  · exact absurd (a3 m' b1 b2) (Int32.not_le.mpr (b4 m a1 g))
  · exact g
  · exact absurd (b3 m a1 a2) (Int32.not_le.mpr (a4 m' b1 g))
theorem mG_lo (st : Nat → Int32) (dr : Int32) : ∀ w, 1 ≤ w → gLo (fun j => mBits (st j ^^^ dr) 12) (mG st dr w) 0 w
  | 0, h => by omega
  | 1, _ => by
    have e : mG st dr 1 = 0 := by simp [mG]
    rw [e]
    exact ⟨Nat.le_refl _, by omega, fun j _ h => by rw [show j = 0 by omega]; exact Int32.le_refl _, fun j _ h => by omega⟩
  | w + 2, _ => by
    obtain ⟨a1, a2, a3, a4⟩ := mG_lo st dr (w + 1) (by omega)
    rw [mG_succ st dr (show 1 ≤ w + 1 by omega)]
    by_cases g : mBits (st (w + 1) ^^^ dr) 12 < mBits (st (mG st dr (w + 1)) ^^^ dr) 12
    · rw [if_pos g]
      refine ⟨Nat.zero_le _, by omega, fun j _ h => ?_, fun j _ h => Int32.lt_of_lt_of_le g (a3 j (Nat.zero_le _) h)⟩
      by_cases e : j = w + 1
      · subst e; exact Int32.le_refl _
      · exact Int32.le_of_lt (Int32.lt_of_lt_of_le g (a3 j (Nat.zero_le _) (by omega)))
    · rw [if_neg g]
      refine ⟨Nat.zero_le _, by omega, fun j _ h => ?_, a4⟩
      by_cases e : j = w + 1
      · subst e; exact Int32.not_lt.mp g
      · exact a3 j (Nat.zero_le _) (by omega)
/-- the law's way: from the last word down; k of them are looked at -/
def gDn (st : Nat → Int32) (dr : Int32) : Nat → Nat
  | 0 => 15
  | k + 1 => if mBits (st (14 - k) ^^^ dr) 12 ≤ mBits (st (gDn st dr k) ^^^ dr) 12 then 14 - k else gDn st dr k
theorem gDn_lo (st : Nat → Int32) (dr : Int32) : ∀ k, k ≤ 15 → gLo (fun j => mBits (st j ^^^ dr) 12) (gDn st dr k) (15 - k) 16
  | 0, _ => ⟨Nat.le_refl _, by rw [gDn]; decide, fun j h1 h2 => by rw [show j = 15 by omega]; exact Int32.le_refl _, fun j h1 h2 => by rw [gDn] at h2; omega⟩
  | k + 1, hk => by
    obtain ⟨a1, a2, a3, a4⟩ := gDn_lo st dr k (by omega)
    rw [gDn, show 15 - (k + 1) = 14 - k by omega]
    by_cases g : mBits (st (14 - k) ^^^ dr) 12 ≤ mBits (st (gDn st dr k) ^^^ dr) 12
    · rw [if_pos g]
      refine ⟨Nat.le_refl _, by omega, fun j h1 h2 => ?_, fun j h1 h2 => by omega⟩
      by_cases e : j = 14 - k
      · subst e; exact Int32.le_refl _
      · exact Int32.le_trans g (a3 j (by omega) h2)
    · rw [if_neg g]
      have g2 := Int32.not_le.mp g
      refine ⟨by omega, a2, fun j h1 h2 => ?_, fun j h1 h2 => ?_⟩
      · by_cases e : j = 14 - k
        · subst e; exact Int32.le_of_lt g2
        · exact a3 j (by omega) h2
      · by_cases e : j = 14 - k
        · subst e; exact g2
        · exact a4 j (by omega) h2
theorem gDn_lt (st : Nat → Int32) (dr : Int32) {k : Nat} (h : k ≤ 15) : gDn st dr k < 16 := (gDn_lo st dr k h).2.1
theorem gDn_eq (st : Nat → Int32) (dr : Int32) : gDn st dr 15 = mG st dr 16 := gLo_one (gDn_lo st dr 15 (Nat.le_refl _)) (mG_lo st dr 16 (by omega))
section LG
variable {d : Nat} {σ : aS} {Q : aQ} {wo : Nat} {ft : Nat → Int32}
theorem l_guess_loop (h1 : σ.1 wo = some (eI 16 ft)) (hf : ∀ w, w < 16 → ∃ x, ft w = nI x ∧ x < 4096) {v : Nat} (hv : v < 4096) : ∀ (k i : Nat) (Q : aQ), i + k = 15 → (aX (d + 1) iL_guess 6 [some (.int (nI v)), some (.ref wo), some (.int (nI (gDn ft (nI v) i))), some (.int (if k = 0 then -1 else nI (k - 1)))] [] σ Q ↔ Q (some (.int (nI (gDn ft (nI v) 15)))) σ)
  | 0, i, Q, h => by
    have e : i = 15 := by omega
    subst e
    have h1 : ((-1 : Int32) < nI 0) = True := eq_true (by decide)
    rw [if_pos rfl, sL_guess_6]
    simp (disch := omega) only [sL_guess_7, sL_guess_10, sL_guess_10n, sL_guess_11, sL_guess_12, sL_guess_13, sL_guess_14, sL_guess_15, sL_guess_18, sL_guess_18n, sL_guess_19, sL_guess_20, sL_guess_21, sL_guess_22, sL_guess_23, sL_guess_26, sL_guess_29, sL_guess_30, sL_guess_33, sL_guess_34, sL_guess_35, sL_guess_38, sL_guess_41, sL_guess_42, h1, aFld, aFds, aRow, aRowR, aRefs, aLn, if_true, List.getElem?_cons_zero, List.getElem?_cons_succ, List.set_cons_zero, List.set_cons_succ, List.length_cons, List.length_nil, Option.some.injEq, exists_eq_left', aput_same, aclr_none, aclr_int, aclr_ref, aclr_null, aret_some, aret_none, bz, bz0, bz1, true_and, and_true, vpT, nIc, nI_add, pk_mul, nI_sub', Nat.add_zero, Nat.zero_add, upd_same, upd_ne, if_false, not_true_eq_false, not_false_eq_true, ite_z, ite_o, eq_self, Bool.false_eq_true, nI_leT, nI_leF, nI_ltT, nI_ltF, nI_ne, and_self, false_and, and_false, nI_rem]
  | k + 1, i, Q, h => by
    have ih := l_guess_loop h1 hf hv k (i + 1) Q (by omega)
    have hg := gDn_lt ft (nI v) (show i ≤ 15 by omega)
    have hx : ∀ w, w < 16 → ∃ z, ft w ^^^ nI v = nI z ∧ z < 4096 := fun w hw => by
      obtain ⟨x, hx, hx2⟩ := hf w hw
      rw [hx]
      exact xor_4096 hx2 hv
    have b1 := fun (Q : aQ) => l_bits (d := d) (σ := σ) (Q := Q) (hx k (by omega))
    have b2 := fun (Q : aQ) => l_bits (d := d) (σ := σ) (Q := Q) (hx (gDn ft (nI v) i) hg)
    have ek : nI k + -1 = (if k = 0 then -1 else nI (k - 1)) := by
      by_cases e : k = 0
      · subst e; rw [if_pos rfl]; decide
      · rw [if_neg e]
        obtain ⟨j, rfl⟩ : ∃ j, k = j + 1 := ⟨k - 1, by omega⟩
        rw [pk_m1]
        rfl
    rw [gDn, show 14 - i = k by omega] at ih
    rw [if_neg (by omega), Nat.add_sub_cancel, sL_guess_6]
    by_cases g : mBits (ft k ^^^ nI v) 12 ≤ mBits (ft (gDn ft (nI v) i) ^^^ nI v) 12
    · have g2 : ¬ mBits (ft (gDn ft (nI v) i) ^^^ nI v) 12 < mBits (ft k ^^^ nI v) 12 := Int32.not_lt.mpr g
      rw [if_pos g] at ih
      simp (disch := omega) only [sL_guess_7, sL_guess_10, sL_guess_10n, sL_guess_11, sL_guess_12, sL_guess_13, sL_guess_14, sL_guess_15, sL_guess_18, sL_guess_18n, sL_guess_19, sL_guess_20, sL_guess_21, sL_guess_22, sL_guess_23, sL_guess_26, sL_guess_29, sL_guess_30, sL_guess_33, sL_guess_34, sL_guess_35, sL_guess_38, h1, b1, b2, g2, ek, aFld, aFds, aRow, aRowR, aRefs, aLn, if_true, List.getElem?_cons_zero, List.getElem?_cons_succ, List.set_cons_zero, List.set_cons_succ, List.length_cons, List.length_nil, Option.some.injEq, exists_eq_left', aput_same, aclr_none, aclr_int, aclr_ref, aclr_null, aret_some, aret_none, bz, bz0, bz1, true_and, and_true, vpT, nIc, nI_add, pk_mul, nI_sub', Nat.add_zero, Nat.zero_add, upd_same, upd_ne, if_false, not_true_eq_false, not_false_eq_true, ite_z, ite_o, eq_self, Bool.false_eq_true, nI_leT, nI_leF, nI_ltT, nI_ltF, nI_ne, and_self, false_and, and_false, nI_rem]
      exact ih
    · have g2 : mBits (ft (gDn ft (nI v) i) ^^^ nI v) 12 < mBits (ft k ^^^ nI v) 12 := Int32.not_le.mp g
      rw [if_neg g] at ih
      simp (disch := omega) only [sL_guess_7, sL_guess_10, sL_guess_10n, sL_guess_11, sL_guess_12, sL_guess_13, sL_guess_14, sL_guess_15, sL_guess_18, sL_guess_18n, sL_guess_19, sL_guess_20, sL_guess_21, sL_guess_22, sL_guess_23, sL_guess_26, sL_guess_29, sL_guess_30, sL_guess_33, sL_guess_34, sL_guess_35, sL_guess_38, h1, b1, b2, g2, ek, aFld, aFds, aRow, aRowR, aRefs, aLn, if_true, List.getElem?_cons_zero, List.getElem?_cons_succ, List.set_cons_zero, List.set_cons_succ, List.length_cons, List.length_nil, Option.some.injEq, exists_eq_left', aput_same, aclr_none, aclr_int, aclr_ref, aclr_null, aret_some, aret_none, bz, bz0, bz1, true_and, and_true, vpT, nIc, nI_add, pk_mul, nI_sub', Nat.add_zero, Nat.zero_add, upd_same, upd_ne, if_false, not_true_eq_false, not_false_eq_true, ite_z, ite_o, eq_self, Bool.false_eq_true, nI_leT, nI_leF, nI_ltT, nI_ltF, nI_ne, and_self, false_and, and_false, nI_rem]
      exact ih
theorem l_guess (h1 : σ.1 wo = some (eI 16 ft)) (hf : ∀ w, w < 16 → ∃ x, ft w = nI x ∧ x < 4096) {v : Nat} (hv : v < 4096) : aX (d + 1) iL_guess 0 [some (.int (nI v)), some (.ref wo), none, none] [] σ Q ↔ Q (some (.int (nI (mG ft (nI v) 16)))) σ := by
  have h := l_guess_loop (d := d) (σ := σ) h1 hf hv 15 0 Q rfl
  rw [gDn_eq, gDn, if_neg (by decide), show 15 - 1 = 14 by rfl] at h
  rw [← h]
  simp (disch := omega) only [sL_guess_0, sL_guess_2, sL_guess_3, sL_guess_5, aFld, aFds, aRow, aRowR, aRefs, aLn, if_true, List.getElem?_cons_zero, List.getElem?_cons_succ, List.set_cons_zero, List.set_cons_succ, List.length_cons, List.length_nil, Option.some.injEq, exists_eq_left', aput_same, aclr_none, aclr_int, aclr_ref, aclr_null, aret_some, aret_none, bz, bz0, bz1, true_and, and_true, vpT, nIc, nI_add, pk_mul, nI_sub', Nat.add_zero, Nat.zero_add, upd_same, upd_ne, if_false, not_true_eq_false, not_false_eq_true, ite_z, ite_o, eq_self, Bool.false_eq_true, nI_leT, nI_leF, nI_ltT, nI_ltF, nI_ne, and_self, false_and, and_false, nI_rem]
end LG
