/-! ONE INSTRUCTION OF THE SMALL MACHINE, as an equivalence -/
def aFds (σ : aS) (a ci : Nat) : Option (List Value) := match σ.1 a with
  | some (.inr (.inr (c, fs))) => if c = ci then some fs else none
  | _ => none
def aFld (σ : aS) (a ci k : Nat) : Option Value := match aFds σ a ci with
  | some fs => fs[k]?
  | none => none
def aRow (σ : aS) (a : Nat) : Option (Nat × (Nat → Int32)) := match σ.1 a with
  | some (.inl (.inl x)) => some x
  | _ => none
def aRowR (σ : aS) (a : Nat) : Option (Nat × (Nat → Int32)) := match σ.1 a with
  | some (.inl (.inl x)) => some x
  | some (.inl (.inr x)) => some x
  | _ => none
def aRefs (σ : aS) (a : Nat) : Option (Nat × Nat × (Nat → Option Nat)) := match σ.1 a with
  | some (.inr (.inl x)) => some x
  | _ => none
def aLn (σ : aS) (a : Nat) : Option Nat := match σ.1 a with
  | some (.inl (.inl x)) => some x.1
  | some (.inl (.inr x)) => some x.1
  | some (.inr (.inl x)) => some x.2.1
  | _ => none
def aIs (σ : aS) (a ci : Nat) : Prop := ∃ fs, σ.1 a = some (eO ci fs)
theorem aput_same (σ : aS) (a : Nat) (e : aE) : (aput σ a e).1 a = some e := by simp [aput]
theorem aput_ne (σ : aS) {a b : Nat} (e : aE) (h : b ≠ a) : (aput σ a e).1 b = σ.1 b := by simp [aput, h]
theorem aput_2 (σ : aS) (a : Nat) (e : aE) : (aput σ a e).2 = σ.2 := rfl
theorem anew_same (σ : aS) (e : aE) (n : Nat) : (anew σ e n).1 σ.2.1 = some e := by simp [anew]
theorem anew_ne (σ : aS) {b : Nat} (e : aE) (n : Nat) (h : b ≠ σ.2.1) : (anew σ e n).1 b = σ.1 b := by simp [anew, h]
theorem anew_2 (σ : aS) (e : aE) (n : Nat) : (anew σ e n).2 = (σ.2.1 + 1, σ.2.2 + n) := rfl
theorem aclr_none : aclr none = none := rfl
theorem aclr_int (x : Int32) : aclr (some (.int x)) = some (.int x) := rfl
theorem aclr_ref (x : Nat) : aclr (some (.ref x)) = some (.ref x) := rfl
theorem aclr_null : aclr (some .null) = some .null := rfl
theorem aret_some (v : Value) (st : List Value) : aret (some v) st = v :: st := rfl
theorem aret_none (st : List Value) : aret none st = st := rfl
theorem va_rf_some (a : Nat) : va_rf (some a) = .ref a := rfl
theorem va_rf_none : va_rf none = .null := rfl
theorem bz0 : (narrow .boolean (.int (nI 0)) = .int (nI 0)) = True := eq_true (by decide +kernel)
theorem bz1 : (narrow .boolean (.int (nI 1)) = .int (nI 1)) = True := eq_true (by decide +kernel)
theorem bz : ∀ (p : Prop) [Decidable p], (narrow .boolean (.int (if p then nI 1 else nI 0)) = .int (if p then nI 1 else nI 0)) = True := fun p _ => by by_cases h : p <;> simp only [h, if_true, if_false, bz0, bz1]
section AOP
variable {d mi pc n : Nat} {ls : aL} {st : List Value} {σ : aS} {Q : aQ}
theorem aAt_of {I : Instr} (hk : aCode mi pc = some (I, n)) : aAt mi pc ls st σ = aAct mi pc I ls st σ := by unfold aAt; rw [hk]
theorem aX_none (h : aAt mi pc ls st σ = none) : aX d mi pc ls st σ Q ↔ False := by
  refine ⟨fun ⟨k, hk⟩ => ?_, fun h => h.elim⟩
  cases k with
  | zero => exact hk
  | succ k => unfold aRun at hk; rw [h] at hk; exact hk
theorem X_iconst {i : Int} {v : Int32} (hk : aCode mi pc = some (.iconst i, n)) (hv : Int32.ofInt i = v) : aX d mi pc ls st σ Q ↔ aX d mi (pc + 1) ls (.int v :: st) σ Q := by subst hv; exact aX_next (aAt_of hk)
theorem X_bipush {i : Int} {v : Int32} (hk : aCode mi pc = some (.bipush i, n)) (hv : (Int8.ofInt i).toInt32 = v) : aX d mi pc ls st σ Q ↔ aX d mi (pc + 2) ls (.int v :: st) σ Q := by subst hv; exact aX_next (aAt_of hk)
theorem X_sipush {i : Int} {v : Int32} (hk : aCode mi pc = some (.sipush i, n)) (hv : (Int16.ofInt i).toInt32 = v) : aX d mi pc ls st σ Q ↔ aX d mi (pc + 3) ls (.int v :: st) σ Q := by subst hv; exact aX_next (aAt_of hk)
theorem X_lconst {i : Fin 2} {v : Int64} (hk : aCode mi pc = some (.lconst i, n)) (hv : Int64.ofNat (i : Nat) = v) : aX d mi pc ls st σ Q ↔ aX d mi (pc + 1) ls (.long v :: st) σ Q := by subst hv; exact aX_next (aAt_of hk)
theorem X_null (hk : aCode mi pc = some (.aconst_null, n)) : aX d mi pc ls st σ Q ↔ aX d mi (pc + 1) ls (.null :: st) σ Q := aX_next (aAt_of hk)
theorem X_ldc {i w : Nat} {v : Int32} (hk : aCode mi pc = some (.ldc i, n)) (hl : aLk lI (aOwn mi) i = some (v, w)) : aX d mi pc ls st σ Q ↔ aX d mi (pc + 2) ls (.int v :: st) σ Q := aX_next (by rw [aAt_of hk]; simp only [aAct, hl]; rfl)
theorem X_ldcw {i w : Nat} {v : Int32} (hk : aCode mi pc = some (.ldc_w i, n)) (hl : aLk lI (aOwn mi) i = some (v, w)) : aX d mi pc ls st σ Q ↔ aX d mi (pc + 3) ls (.int v :: st) σ Q := aX_next (by rw [aAt_of hk]; simp only [aAct, hl]; rfl)
theorem X_ldc2 {i w : Nat} {v : Int64} (hk : aCode mi pc = some (.ldc2_w i, n)) (hl : aLk lJ (aOwn mi) i = some (v, w)) : aX d mi pc ls st σ Q ↔ aX d mi (pc + 3) ls (.long v :: st) σ Q := aX_next (by rw [aAt_of hk]; simp only [aAct, hl]; rfl)
theorem aLd_of {pc i : Nat} {t : Value → Bool} {v : Value} (h : ls[i]? = some (some v)) (ht : t v = true) : aLd pc ls st σ i t = some (.inl (pc, ls, v :: st, σ)) := by unfold aLd; rw [h]; simp only [ht, if_true]; rfl
theorem X_iloadn {i : Fin 4} {x : Int32} (hk : aCode mi pc = some (.iload_n i, n)) (h : ls[(i : Nat)]? = some (some (.int x))) : aX d mi pc ls st σ Q ↔ aX d mi (pc + 1) ls (.int x :: st) σ Q := aX_next (by rw [aAt_of hk]; exact aLd_of h rfl)
theorem X_iload {i : Nat} {x : Int32} (hk : aCode mi pc = some (.iload i, n)) (h : ls[i]? = some (some (.int x))) : aX d mi pc ls st σ Q ↔ aX d mi (pc + 2) ls (.int x :: st) σ Q := aX_next (by rw [aAt_of hk]; exact aLd_of h rfl)
theorem X_lloadn {i : Fin 4} {x : Int64} (hk : aCode mi pc = some (.lload_n i, n)) (h : ls[(i : Nat)]? = some (some (.long x))) : aX d mi pc ls st σ Q ↔ aX d mi (pc + 1) ls (.long x :: st) σ Q := aX_next (by rw [aAt_of hk]; exact aLd_of h rfl)
theorem X_lload {i : Nat} {x : Int64} (hk : aCode mi pc = some (.lload i, n)) (h : ls[i]? = some (some (.long x))) : aX d mi pc ls st σ Q ↔ aX d mi (pc + 2) ls (.long x :: st) σ Q := aX_next (by rw [aAt_of hk]; exact aLd_of h rfl)
theorem X_aloadn {i : Fin 4} {v : Value} (hk : aCode mi pc = some (.aload_n i, n)) (h : ls[(i : Nat)]? = some (some v)) (hv : aRef v = true) : aX d mi pc ls st σ Q ↔ aX d mi (pc + 1) ls (v :: st) σ Q := aX_next (by rw [aAt_of hk]; exact aLd_of h hv)
theorem X_aload {i : Nat} {v : Value} (hk : aCode mi pc = some (.aload i, n)) (h : ls[i]? = some (some v)) (hv : aRef v = true) : aX d mi pc ls st σ Q ↔ aX d mi (pc + 2) ls (v :: st) σ Q := aX_next (by rw [aAt_of hk]; exact aLd_of h hv)
theorem aS1_of {pc i : Nat} {t : Value → Bool} {v : Value} (hi : i < ls.length) (ht : t v = true) : aS1 pc ls (v :: st) σ i t = some (.inl (pc, ast1 i v ls, st, σ)) := by unfold aS1; simp only [ht, hi, and_self, if_true]; rfl
theorem X_istoren {i : Fin 4} {x : Int32} (hk : aCode mi pc = some (.istore_n i, n)) (h : (i : Nat) < ls.length) : aX d mi pc ls (.int x :: st) σ Q ↔ aX d mi (pc + 1) (ast1 i (.int x) ls) st σ Q := aX_next (by rw [aAt_of hk]; exact aS1_of h rfl)
theorem X_istore {i : Nat} {x : Int32} (hk : aCode mi pc = some (.istore i, n)) (h : i < ls.length) : aX d mi pc ls (.int x :: st) σ Q ↔ aX d mi (pc + 2) (ast1 i (.int x) ls) st σ Q := aX_next (by rw [aAt_of hk]; exact aS1_of h rfl)
theorem X_astoren {i : Fin 4} {v : Value} (hk : aCode mi pc = some (.astore_n i, n)) (h : (i : Nat) < ls.length) (hv : aRef v = true) : aX d mi pc ls (v :: st) σ Q ↔ aX d mi (pc + 1) (ast1 i v ls) st σ Q := aX_next (by rw [aAt_of hk]; exact aS1_of h hv)
theorem X_astore {i : Nat} {v : Value} (hk : aCode mi pc = some (.astore i, n)) (h : i < ls.length) (hv : aRef v = true) : aX d mi pc ls (v :: st) σ Q ↔ aX d mi (pc + 2) (ast1 i v ls) st σ Q := aX_next (by rw [aAt_of hk]; exact aS1_of h hv)
theorem aS2_of {pc i : Nat} {x : Int64} (hi : i + 1 < ls.length) : aS2 pc ls (.long x :: st) σ i = some (.inl (pc, ast2 i (.long x) ls, st, σ)) := by unfold aS2; simp only [hi, if_true]; rfl
theorem X_lstoren {i : Fin 4} {x : Int64} (hk : aCode mi pc = some (.lstore_n i, n)) (h : (i : Nat) + 1 < ls.length) : aX d mi pc ls (.long x :: st) σ Q ↔ aX d mi (pc + 1) (ast2 i (.long x) ls) st σ Q := aX_next (by rw [aAt_of hk]; exact aS2_of h)
theorem X_lstore {i : Nat} {x : Int64} (hk : aCode mi pc = some (.lstore i, n)) (h : i + 1 < ls.length) : aX d mi pc ls (.long x :: st) σ Q ↔ aX d mi (pc + 2) (ast2 i (.long x) ls) st σ Q := aX_next (by rw [aAt_of hk]; exact aS2_of h)
theorem X_iinc {i : Nat} {k : Int} {x v : Int32} (hk : aCode mi pc = some (.iinc i k, n)) (h : ls[i]? = some (some (.int x))) (hv : Int32.ofInt k = v) : aX d mi pc ls st σ Q ↔ aX d mi (pc + 3) (ast1 i (.int (x + v)) ls) st σ Q := aX_next (by subst hv; rw [aAt_of hk]; simp only [aAct, h]; rfl)
theorem X_iadd {x y : Int32} (hk : aCode mi pc = some (.iadd, n)) : aX d mi pc ls (.int y :: .int x :: st) σ Q ↔ aX d mi (pc + 1) ls (.int (x + y) :: st) σ Q := aX_next (aAt_of hk)
theorem X_isub {x y : Int32} (hk : aCode mi pc = some (.isub, n)) : aX d mi pc ls (.int y :: .int x :: st) σ Q ↔ aX d mi (pc + 1) ls (.int (x - y) :: st) σ Q := aX_next (aAt_of hk)
theorem X_imul {x y : Int32} (hk : aCode mi pc = some (.imul, n)) : aX d mi pc ls (.int y :: .int x :: st) σ Q ↔ aX d mi (pc + 1) ls (.int (x * y) :: st) σ Q := aX_next (aAt_of hk)
theorem X_iand {x y : Int32} (hk : aCode mi pc = some (.iand, n)) : aX d mi pc ls (.int y :: .int x :: st) σ Q ↔ aX d mi (pc + 1) ls (.int (x &&& y) :: st) σ Q := aX_next (aAt_of hk)
theorem X_ior {x y : Int32} (hk : aCode mi pc = some (.ior, n)) : aX d mi pc ls (.int y :: .int x :: st) σ Q ↔ aX d mi (pc + 1) ls (.int (x ||| y) :: st) σ Q := aX_next (aAt_of hk)
theorem X_ixor {x y : Int32} (hk : aCode mi pc = some (.ixor, n)) : aX d mi pc ls (.int y :: .int x :: st) σ Q ↔ aX d mi (pc + 1) ls (.int (x ^^^ y) :: st) σ Q := aX_next (aAt_of hk)
theorem X_ishl {x y : Int32} (hk : aCode mi pc = some (.ishl, n)) : aX d mi pc ls (.int y :: .int x :: st) σ Q ↔ aX d mi (pc + 1) ls (.int (x <<< (y &&& 31)) :: st) σ Q := aX_next (aAt_of hk)
theorem X_ishr {x y : Int32} (hk : aCode mi pc = some (.ishr, n)) : aX d mi pc ls (.int y :: .int x :: st) σ Q ↔ aX d mi (pc + 1) ls (.int (x >>> (y &&& 31)) :: st) σ Q := aX_next (aAt_of hk)
theorem X_iushr {x y : Int32} (hk : aCode mi pc = some (.iushr, n)) : aX d mi pc ls (.int y :: .int x :: st) σ Q ↔ aX d mi (pc + 1) ls (.int (x.toUInt32 >>> (y.toUInt32 &&& Int32.toUInt32 31)).toInt32 :: st) σ Q := aX_next (aAt_of hk)
theorem X_land {x y : Int64} (hk : aCode mi pc = some (.land, n)) : aX d mi pc ls (.long y :: .long x :: st) σ Q ↔ aX d mi (pc + 1) ls (.long (x &&& y) :: st) σ Q := aX_next (aAt_of hk)
theorem X_lor {x y : Int64} (hk : aCode mi pc = some (.lor, n)) : aX d mi pc ls (.long y :: .long x :: st) σ Q ↔ aX d mi (pc + 1) ls (.long (x ||| y) :: st) σ Q := aX_next (aAt_of hk)
theorem X_lshl {x : Int64} {y : Int32} (hk : aCode mi pc = some (.lshl, n)) : aX d mi pc ls (.int y :: .long x :: st) σ Q ↔ aX d mi (pc + 1) ls (.long (x <<< (y.toInt64 &&& 63)) :: st) σ Q := aX_next (aAt_of hk)
theorem X_lushr {x : Int64} {y : Int32} (hk : aCode mi pc = some (.lushr, n)) : aX d mi pc ls (.int y :: .long x :: st) σ Q ↔ aX d mi (pc + 1) ls (.long (x.toUInt64 >>> (y.toInt64.toUInt64 &&& Int64.toUInt64 63)).toInt64 :: st) σ Q := aX_next (aAt_of hk)
theorem X_lcmp {x y : Int64} (hk : aCode mi pc = some (.lcmp, n)) : aX d mi pc ls (.long y :: .long x :: st) σ Q ↔ aX d mi (pc + 1) ls (.int (lg_cmp x y) :: st) σ Q := aX_next (aAt_of hk)
theorem X_i2l {x : Int32} (hk : aCode mi pc = some (.i2l, n)) : aX d mi pc ls (.int x :: st) σ Q ↔ aX d mi (pc + 1) ls (.long x.toInt64 :: st) σ Q := aX_next (aAt_of hk)
theorem X_l2i {x : Int64} (hk : aCode mi pc = some (.l2i, n)) : aX d mi pc ls (.long x :: st) σ Q ↔ aX d mi (pc + 1) ls (.int x.toInt32 :: st) σ Q := aX_next (aAt_of hk)
theorem X_idiv {x y : Int32} (hk : aCode mi pc = some (.idiv, n)) : aX d mi pc ls (.int y :: .int x :: st) σ Q ↔ ¬ y = nI 0 ∧ aX d mi (pc + 1) ls (.int (x / y) :: st) σ Q := by
  by_cases h : y = 0
  · rw [aX_none (by rw [aAt_of hk]; simp only [aAct, h, if_true]), h]; simp [nI_0]
  · rw [aX_next (pc' := pc + 1) (ls' := ls) (st' := .int (x / y) :: st) (σ' := σ) (by rw [aAt_of hk]; simp only [aAct, h, if_false]; rfl)]; simp [nI_0, h]
theorem X_irem {x y : Int32} (hk : aCode mi pc = some (.irem, n)) : aX d mi pc ls (.int y :: .int x :: st) σ Q ↔ ¬ y = nI 0 ∧ aX d mi (pc + 1) ls (.int (x - x / y * y) :: st) σ Q := by
  by_cases h : y = 0
  · rw [aX_none (by rw [aAt_of hk]; simp only [aAct, h, if_true]), h]; simp [nI_0]
  · rw [aX_next (pc' := pc + 1) (ls' := ls) (st' := .int (x - x / y * y) :: st) (σ' := σ) (by rw [aAt_of hk]; simp only [aAct, h, if_false]; rfl)]; simp [nI_0, h]
theorem X_dup {v : Value} (hk : aCode mi pc = some (.dup, n)) (h : v.category = 1) : aX d mi pc ls (v :: st) σ Q ↔ aX d mi (pc + 1) ls (v :: v :: st) σ Q := aX_next (by rw [aAt_of hk]; simp only [aAct, h, if_true]; rfl)
theorem X_pop {v : Value} (hk : aCode mi pc = some (.pop, n)) (h : v.category = 1) : aX d mi pc ls (v :: st) σ Q ↔ aX d mi (pc + 1) ls st σ Q := aX_next (by rw [aAt_of hk]; simp only [aAct, h, if_true]; rfl)
theorem X_dupx2 {v w u : Value} (hk : aCode mi pc = some (.dup_x2, n)) (h : v.category = 1 ∧ w.category = 1 ∧ u.category = 1) : aX d mi pc ls (v :: w :: u :: st) σ Q ↔ aX d mi (pc + 1) ls (v :: w :: u :: v :: st) σ Q := aX_next (by rw [aAt_of hk]; simp only [aAct, h, and_self, if_true]; rfl)
theorem X_dup2 {v w : Value} (hk : aCode mi pc = some (.dup2, n)) (h : v.category = 1 ∧ w.category = 1) : aX d mi pc ls (v :: w :: st) σ Q ↔ aX d mi (pc + 1) ls (v :: w :: v :: w :: st) σ Q := aX_next (by rw [aAt_of hk]; simp only [aAct, h, and_self, if_true]; rfl)
theorem aTgt_of {pc t : Nat} {off : Int} (ht : (pc : Int) + off = (t : Int)) : aTgt pc off = t := by unfold aTgt; omega
theorem X_br {b : Bool} {off : Int} {t : Nat} {st0 : List Value} (ht : (pc : Int) + off = (t : Int)) (h : aAt mi pc ls st0 σ = aBr b pc off ls st σ) : aX d mi pc ls st0 σ Q ↔ if b = true then aX d mi t ls st σ Q else aX d mi (pc + 3) ls st σ Q := by
  unfold aBr at h
  rw [aTgt_of ht, if_pos ht] at h
  cases b with
  | true => rw [if_pos rfl] at h ⊢; exact aX_next h
  | false => rw [if_neg (by decide)] at h ⊢; exact aX_next h
theorem X_goto {off : Int} {t : Nat} (hk : aCode mi pc = some (.goto off, n)) (ht : (pc : Int) + off = (t : Int)) : aX d mi pc ls st σ Q ↔ aX d mi t ls st σ Q := aX_next (by rw [aAt_of hk]; simp only [aAct, aSw]; rw [aTgt_of ht, if_pos ht]; rfl)
theorem X_if {cc : ClassFile.Cond} {off : Int} {t : Nat} {x : Int32} (hk : aCode mi pc = some (.ifCond cc off, n)) (ht : (pc : Int) + off = (t : Int)) : aX d mi pc ls (.int x :: st) σ Q ↔ if aCmp cc x (nI 0) = true then aX d mi t ls st σ Q else aX d mi (pc + 3) ls st σ Q := X_br ht (by rw [aAt_of hk, nI_0]; rfl)
theorem X_icmp {cc : ClassFile.Cond} {off : Int} {t : Nat} {x y : Int32} (hk : aCode mi pc = some (.if_icmp cc off, n)) (ht : (pc : Int) + off = (t : Int)) : aX d mi pc ls (.int y :: .int x :: st) σ Q ↔ if aCmp cc x y = true then aX d mi t ls st σ Q else aX d mi (pc + 3) ls st σ Q := X_br ht (aAt_of hk)
theorem aCmp_eq (x y : Int32) : (aCmp .eq x y = true) = (x = y) := by simp [aCmp]
theorem aCmp_ne (x y : Int32) : (aCmp .ne x y = true) = ¬ (x = y) := by simp [aCmp]
theorem aCmp_lt (x y : Int32) : (aCmp .lt x y = true) = (x < y) := by simp [aCmp]
theorem aCmp_ge (x y : Int32) : (aCmp .ge x y = true) = (y ≤ x) := by simp [aCmp]
theorem aCmp_gt (x y : Int32) : (aCmp .gt x y = true) = (y < x) := by simp [aCmp]
theorem aCmp_le (x y : Int32) : (aCmp .le x y = true) = (x ≤ y) := by simp [aCmp]
theorem X_ifnull {off : Int} {t a : Nat} (hk : aCode mi pc = some (.ifnull off, n)) (ht : (pc : Int) + off = (t : Int)) : aX d mi pc ls (.ref a :: st) σ Q ↔ aX d mi (pc + 3) ls st σ Q := by rw [X_br (b := false) (st := st) ht (aAt_of hk), if_neg (by decide)]
theorem X_ifnullN {off : Int} {t : Nat} (hk : aCode mi pc = some (.ifnull off, n)) (ht : (pc : Int) + off = (t : Int)) : aX d mi pc ls (.null :: st) σ Q ↔ aX d mi t ls st σ Q := by rw [X_br (b := true) (st := st) ht (aAt_of hk), if_pos rfl]
theorem X_ifnonnull {off : Int} {t a : Nat} (hk : aCode mi pc = some (.ifnonnull off, n)) (ht : (pc : Int) + off = (t : Int)) : aX d mi pc ls (.ref a :: st) σ Q ↔ aX d mi t ls st σ Q := by rw [X_br (b := true) (st := st) ht (aAt_of hk), if_pos rfl]
theorem X_ifnonnullN {off : Int} {t : Nat} (hk : aCode mi pc = some (.ifnonnull off, n)) (ht : (pc : Int) + off = (t : Int)) : aX d mi pc ls (.null :: st) σ Q ↔ aX d mi (pc + 3) ls st σ Q := by rw [X_br (b := false) (st := st) ht (aAt_of hk), if_neg (by decide)]
theorem X_tsw {df lo hi : Int} {offs : Array Int} {x : Int32} {t : Nat} (hk : aCode mi pc = some (.tableswitch df lo hi offs, n)) (h : ∃ off, (if x.toInt < lo ∨ hi < x.toInt then some df else offs[(x.toInt - lo).toNat]?) = some off ∧ (pc : Int) + off = (t : Int)) : aX d mi pc ls (.int x :: st) σ Q ↔ aX d mi t ls st σ Q := by
  obtain ⟨off, h1, h2⟩ := h
  refine aX_next ?_
  rw [aAt_of hk]
  simp only [aAct]
  by_cases hx : x.toInt < lo ∨ hi < x.toInt
  · rw [if_pos hx] at h1 ⊢
    cases h1
    simp only [aSw]
    rw [aTgt_of h2, if_pos h2]
    rfl
  · rw [if_neg hx] at h1 ⊢
    rw [h1]
    simp only [aSw]
    rw [aTgt_of h2, if_pos h2]
    rfl
theorem X_lsw {df : Int} {ps : Array (Int × Int)} {x : Int32} {t : Nat} (hk : aCode mi pc = some (.lookupswitch df ps, n)) (hp : (ps.toList.zip (ps.toList.drop 1)).all (fun (a, next) => a.1 < next.1) = true) (h : (pc : Int) + Op.lookupswitch.offset ps.toList df x.toInt = (t : Int)) : aX d mi pc ls (.int x :: st) σ Q ↔ aX d mi t ls st σ Q := by
  refine aX_next ?_
  rw [aAt_of hk]
  simp only [aAct]
  rw [if_pos hp]
  simp only [aSw]
  rw [aTgt_of h, if_pos h]
  rfl
theorem X_getf {i ci k w a : Nat} (hk : aCode mi pc = some (.getfield i, n)) (hl : aLk lF (aOwn mi) i = some (ci, k, w)) : aX d mi pc ls (.ref a :: st) σ Q ↔ ∃ v, aFld σ a ci k = some v ∧ aX d mi (pc + 3) ls (v :: st) σ Q := by
  have e : aAt mi pc ls (.ref a :: st) σ = aGetF (aOwn mi) pc ls (.ref a :: st) σ i := aAt_of hk
  unfold aGetF at e
  rw [hl] at e
  simp only at e
  unfold aFld aFds
  split at e
  · rename_i c2 fs ha
    rw [ha]
    simp only
    by_cases hc : c2 = ci
    · simp only [hc, if_true] at e ⊢
      split at e
      · rename_i v hv
        rw [hv, aX_next e]
        simp
      · rename_i hv
        rw [hv, aX_none e]
        simp
    · simp only [hc, if_false] at e ⊢
      rw [aX_none e]
      simp
  · rename_i hne
    rw [aX_none e]
    refine ⟨fun h => h.elim, fun ⟨v, hv, _⟩ => ?_⟩
    split at hv
    · rename_i fs hfs
      split at hfs
      · rename_i c2 fs2 ha
        exact hne _ _ ha
      · cases hfs
    · cases hv
theorem X_putf {i ci k w a : Nat} {v : Value} (hk : aCode mi pc = some (.putfield i, n)) (hl : aLk lF (aOwn mi) i = some (ci, k, w)) (hf : aFit ci k v = true) (hg : aFin mi ci k = true) : aX d mi pc ls (v :: .ref a :: st) σ Q ↔ ∃ fs, aFds σ a ci = some fs ∧ k < fs.length ∧ aX d mi (pc + 3) ls st (aput σ a (eO ci (fs.set k v))) Q := by
  have e : aAt mi pc ls (v :: .ref a :: st) σ = aPutF mi pc ls (v :: .ref a :: st) σ i := aAt_of hk
  unfold aPutF at e
  rw [hl] at e
  simp only at e
  unfold aFds
  split at e
  · rename_i c2 fs ha
    rw [ha]
    simp only
    by_cases hc : c2 = ci
    · simp only [hc, hf, hg, true_and, and_true] at e
      simp only [hc, if_true]
      by_cases hlen : k < fs.length
      · simp only [hlen, if_true] at e
        rw [aX_next e]
        simp [hlen]
      · simp only [hlen, if_false] at e
        rw [aX_none e]
        simp [hlen]
    · simp only [hc, false_and, if_false] at e ⊢
      rw [aX_none e]
      simp
  · rename_i hne
    rw [aX_none e]
    refine ⟨fun h => h.elim, fun ⟨fs, hv, _⟩ => ?_⟩
    split at hv
    · rename_i c2 fs2 ha
      exact hne _ _ ha
    · cases hv
theorem X_iaload {a : Nat} {i : Int32} (hk : aCode mi pc = some (.iaload, n)) : aX d mi pc ls (.int i :: .ref a :: st) σ Q ↔ ∃ x, aRowR σ a = some x ∧ vp_in i x.1 ∧ aX d mi (pc + 1) ls (.int (x.2 i.toNatClampNeg) :: st) σ Q := by
  have e : aAt mi pc ls (.int i :: .ref a :: st) σ = aIld pc ls (.int i :: .ref a :: st) σ := aAt_of hk
  unfold aIld at e
  simp only at e
  unfold aRowR
  split at e
  · rename_i m f ha
    rw [ha]
    simp only
    by_cases hi : ¬ (i < 0 ∨ m ≤ i.toNatClampNeg)
    · rw [if_pos hi] at e
      rw [aX_next e]
      exact ⟨fun h => ⟨_, rfl, hi, h⟩, fun ⟨x, hx, _, h⟩ => by cases hx; exact h⟩
    · rw [if_neg hi] at e
      rw [aX_none e]
      exact ⟨fun h => h.elim, fun ⟨x, hx, h, _⟩ => by cases hx; exact hi h⟩
  · rename_i m f ha
    rw [ha]
    simp only
    by_cases hi : ¬ (i < 0 ∨ m ≤ i.toNatClampNeg)
    · rw [if_pos hi] at e
      rw [aX_next e]
      exact ⟨fun h => ⟨_, rfl, hi, h⟩, fun ⟨x, hx, _, h⟩ => by cases hx; exact h⟩
    · rw [if_neg hi] at e
      rw [aX_none e]
      exact ⟨fun h => h.elim, fun ⟨x, hx, h, _⟩ => by cases hx; exact hi h⟩
  · rename_i h1 h2
    rw [aX_none e]
    refine ⟨fun h => h.elim, fun ⟨x, hx, _⟩ => ?_⟩
    split at hx
    · rename_i y ha
      exact h1 _ _ ha
    · rename_i y ha
      exact h2 _ _ ha
    · cases hx
theorem X_iastore {a : Nat} {i v : Int32} (hk : aCode mi pc = some (.iastore, n)) : aX d mi pc ls (.int v :: .int i :: .ref a :: st) σ Q ↔ ∃ x, aRow σ a = some x ∧ vp_in i x.1 ∧ aX d mi (pc + 1) ls st (aput σ a (eI x.1 (upd x.2 i.toNatClampNeg v))) Q := by
  have e : aAt mi pc ls (.int v :: .int i :: .ref a :: st) σ = aIst pc ls (.int v :: .int i :: .ref a :: st) σ := aAt_of hk
  unfold aIst at e
  simp only at e
  unfold aRow
  split at e
  · rename_i m f ha
    rw [ha]
    simp only
    by_cases hi : ¬ (i < 0 ∨ m ≤ i.toNatClampNeg)
    · rw [if_pos hi] at e
      rw [aX_next e]
      exact ⟨fun h => ⟨_, rfl, hi, h⟩, fun ⟨x, hx, _, h⟩ => by cases hx; exact h⟩
    · rw [if_neg hi] at e
      rw [aX_none e]
      exact ⟨fun h => h.elim, fun ⟨x, hx, h, _⟩ => by cases hx; exact hi h⟩
  · rename_i h1
    rw [aX_none e]
    refine ⟨fun h => h.elim, fun ⟨x, hx, _⟩ => ?_⟩
    split at hx
    · rename_i y ha
      exact h1 _ _ ha
    · cases hx
theorem X_aaload {a : Nat} {i : Int32} (hk : aCode mi pc = some (.aaload, n)) : aX d mi pc ls (.int i :: .ref a :: st) σ Q ↔ ∃ x, aRefs σ a = some x ∧ vp_in i x.2.1 ∧ aX d mi (pc + 1) ls (va_rf (x.2.2 i.toNatClampNeg) :: st) σ Q := by
  have e : aAt mi pc ls (.int i :: .ref a :: st) σ = aQld pc ls (.int i :: .ref a :: st) σ := aAt_of hk
  unfold aQld at e
  simp only at e
  unfold aRefs
  split at e
  · rename_i j m f ha
    rw [ha]
    simp only
    by_cases hi : ¬ (i < 0 ∨ m ≤ i.toNatClampNeg)
    · rw [if_pos hi] at e
      rw [aX_next e]
      exact ⟨fun h => ⟨_, rfl, hi, h⟩, fun ⟨x, hx, _, h⟩ => by cases hx; exact h⟩
    · rw [if_neg hi] at e
      rw [aX_none e]
      exact ⟨fun h => h.elim, fun ⟨x, hx, h, _⟩ => by cases hx; exact hi h⟩
  · rename_i h1
    rw [aX_none e]
    refine ⟨fun h => h.elim, fun ⟨x, hx, _⟩ => ?_⟩
    split at hx
    · rename_i y ha
      exact h1 _ _ _ ha
    · cases hx
theorem X_aastore {a v : Nat} {i : Int32} {j m ci : Nat} {f : Nat → Option Nat} {fs : List Value} (hk : aCode mi pc = some (.aastore, n)) (ha : σ.1 a = some (eQ j m f)) (hv : σ.1 v = some (eO ci fs)) (hi : vp_in i m) (hj : aQj ci = j ∧ aQc j = ci) : aX d mi pc ls (.ref v :: .int i :: .ref a :: st) σ Q ↔ aX d mi (pc + 1) ls st (aput σ a (eQ j m (va_up f i.toNatClampNeg (some v)))) Q := by
  refine aX_next ?_
  rw [aAt_of hk]
  simp only [aAct, aQst, ha, hv]
  rw [if_pos ⟨hi, hj⟩]
  rfl
theorem X_alen {a : Nat} (hk : aCode mi pc = some (.arraylength, n)) : aX d mi pc ls (.ref a :: st) σ Q ↔ ∃ m, aLn σ a = some m ∧ aX d mi (pc + 1) ls (.int (nI m) :: st) σ Q := by
  have e : aAt mi pc ls (.ref a :: st) σ = aLen pc ls (.ref a :: st) σ := aAt_of hk
  unfold aLen at e
  simp only at e
  unfold aLn
  split at e
  · rename_i m f ha
    rw [ha, aX_next e]
    exact ⟨fun h => ⟨_, rfl, h⟩, fun ⟨x, hx, h⟩ => by cases hx; exact h⟩
  · rename_i m f ha
    rw [ha, aX_next e]
    exact ⟨fun h => ⟨_, rfl, h⟩, fun ⟨x, hx, h⟩ => by cases hx; exact h⟩
  · rename_i j m f ha
    rw [ha, aX_next e]
    exact ⟨fun h => ⟨_, rfl, h⟩, fun ⟨x, hx, h⟩ => by cases hx; exact h⟩
  · rename_i h1 h2 h3
    rw [aX_none e]
    refine ⟨fun h => h.elim, fun ⟨x, hx, _⟩ => ?_⟩
    split at hx
    · rename_i y ha
      exact h1 _ _ ha
    · rename_i y ha
      exact h2 _ _ ha
    · rename_i y ha
      exact h3 _ _ _ ha
    · cases hx
theorem X_new {i ci N : Nat} {w : Nat × Nat × Nat} {fs : List Value} (hk : aCode mi pc = some (.new i, n)) (hl : aLk lC (aOwn mi) i = some (ci, w)) (hf : aDef ci = fs) (hN : (aNw ci).2.2 = N) : aX d mi pc ls st σ Q ↔ aX d mi (pc + 3) ls (.ref σ.2.1 :: st) (anew σ (eO ci fs) N) Q := by
  subst hf; subst hN
  exact aX_next (by rw [aAt_of hk]; simp only [aAct, hl]; rfl)
theorem X_newa {m : Nat} (hk : aCode mi pc = some (.newarray .int, n)) (hm : m ≤ 1000000) : aX d mi pc ls (.int (nI m) :: st) σ Q ↔ aX d mi (pc + 2) ls (.ref σ.2.1 :: st) (anew σ (eI m (fun _ => 0)) m) Q := by
  refine aX_next ?_
  rw [aAt_of hk]
  simp only [aAct]
  rw [nI_clamp (show m < 2 ^ 31 by omega), if_pos ⟨nI_pos (show m < 2 ^ 31 by omega), hm⟩]
  rfl
theorem X_anew {i ci m : Nat} {w : Nat × Nat × Nat} (hk : aCode mi pc = some (.anewarray i, n)) (hl : aLk lC (aOwn mi) i = some (ci, w)) (hm : m ≤ 1000000) (hq : aQc (aQj ci) = ci) : aX d mi pc ls (.int (nI m) :: st) σ Q ↔ aX d mi (pc + 3) ls (.ref σ.2.1 :: st) (anew σ (eQ (aQj ci) m (fun _ => none)) m) Q := by
  refine aX_next ?_
  rw [aAt_of hk]
  simp only [aAct, hl]
  rw [nI_clamp (show m < 2 ^ 31 by omega), if_pos ⟨nI_pos (show m < 2 ^ 31 by omega), hm, hq⟩]
  rfl
theorem aDo_recv {t pc b ci N : Nat} {As rest st0 : List Value} {L : aL} (hn : aArg t = N) (ht : st0.take N = As) (hd : st0.drop N = .ref b :: rest) (h4 : rest.length ≤ 4) (hlen : N ≤ st0.length) (hci : aOwn t = ci) (hL : aentry (aMax t) (.ref b :: As.reverse) = L) (ha : (aargs (.ref b :: As.reverse)).length ≤ aMax t) : aDo t pc true st0 σ = match σ.1 b with
      | some (.inr (.inr (c, _))) => if c = ci then some (.inr (.inr (t, L, pc + 3, rest))) else none
      | _ => none := by
  subst hn; subst ht; subst hci; subst hL
  unfold aDo
  rw [if_pos ⟨by rw [hd]; show (_ :: rest).length ≤ 5; rw [List.length_cons]; omega, hlen⟩, hd]
  simp only
  split
  · rename_i c fs hb
    rw [hb]
    simp only [ha, and_true]
  · rename_i h1
    split
    · rename_i c fs hb
      exact absurd hb (h1 c fs)
    · rfl
theorem aX_recv {t b ci : Nat} {L : aL} {rest st0 : List Value} (h : aAt mi pc ls st0 σ = match σ.1 b with
      | some (.inr (.inr (c, _))) => if c = ci then some (.inr (.inr (t, L, pc + 3, rest))) else none
      | _ => none) : aX (d + 1) mi pc ls st0 σ Q ↔ aIs σ b ci ∧ aX d t 0 L [] σ (fun r σ' => aX (d + 1) mi (pc + 3) ls (aret r rest) σ' Q) := by
  unfold aIs
  split at h
  · rename_i c fs hb
    by_cases hc : c = ci
    · rw [if_pos hc] at h
      rw [aX_call h]
      subst hc
      exact ⟨fun z => ⟨⟨fs, hb⟩, z⟩, fun z => z.2⟩
    · rw [if_neg hc] at h
      rw [aX_none h]
      refine ⟨fun z => z.elim, fun ⟨⟨f2, h2⟩, _⟩ => ?_⟩
      rw [hb] at h2
      cases h2
      exact hc rfl
  · rename_i h1
    rw [aX_none h]
    exact ⟨fun z => z.elim, fun ⟨⟨f2, h2⟩, _⟩ => h1 _ _ h2⟩
theorem X_invv {i t w b ci N : Nat} {As rest st0 : List Value} {L : aL} (hk : aCode mi pc = some (.invokevirtual i, n)) (hl : aLk lM (aOwn mi) i = some (t, 0, w)) (hn : aArg t = N) (ht : st0.take N = As) (hd : st0.drop N = .ref b :: rest) (h4 : rest.length ≤ 4) (hlen : N ≤ st0.length) (hci : aOwn t = ci) (hL : aentry (aMax t) (.ref b :: As.reverse) = L) (ha : (aargs (.ref b :: As.reverse)).length ≤ aMax t) :
    aX (d + 1) mi pc ls st0 σ Q ↔ aIs σ b ci ∧ aX d t 0 L [] σ (fun r σ' => aX (d + 1) mi (pc + 3) ls (aret r rest) σ' Q) :=
  aX_recv (by rw [aAt_of hk]; simp only [aAct, hl, if_true]; exact aDo_recv hn ht hd h4 hlen hci hL ha)
theorem X_invi {i t k w b ci N : Nat} {As rest st0 : List Value} {L : aL} (hk : aCode mi pc = some (.invokespecial i, n)) (hl : aLk lM (aOwn mi) i = some (t, k, w)) (hk2 : k = 2 ∨ k = 3) (hn : aArg t = N) (ht : st0.take N = As) (hd : st0.drop N = .ref b :: rest) (h4 : rest.length ≤ 4) (hlen : N ≤ st0.length) (hci : aOwn t = ci) (hL : aentry (aMax t) (.ref b :: As.reverse) = L) (ha : (aargs (.ref b :: As.reverse)).length ≤ aMax t) :
    aX (d + 1) mi pc ls st0 σ Q ↔ aIs σ b ci ∧ aX d t 0 L [] σ (fun r σ' => aX (d + 1) mi (pc + 3) ls (aret r rest) σ' Q) :=
  aX_recv (by rw [aAt_of hk]; simp only [aAct, hl]; rw [if_pos hk2]; exact aDo_recv hn ht hd h4 hlen hci hL ha)
theorem X_obj {i t w b : Nat} {rest : List Value} (hk : aCode mi pc = some (.invokespecial i, n)) (hl : aLk lM (aOwn mi) i = some (t, 5, w)) (h4 : rest.length ≤ 4) : aX d mi pc ls (.ref b :: rest) σ Q ↔ aX d mi (pc + 3) ls rest σ Q :=
  aX_next (by rw [aAt_of hk]; simp only [aAct, hl]; rw [if_neg (by decide), if_pos trivial]; simp only [aObj, h4, if_true]; rfl)
theorem X_invs {i t k w N : Nat} {As rest st0 : List Value} {L : aL} (hk : aCode mi pc = some (.invokestatic i, n)) (hl : aLk lM (aOwn mi) i = some (t, k, w)) (hk2 : k = 1 ∨ k = 4) (hn : aArg t = N) (ht : st0.take N = As) (hd : st0.drop N = rest) (h4 : rest.length ≤ 4) (hlen : N ≤ st0.length) (hL : aentry (aMax t) As.reverse = L) (ha : (aargs As.reverse).length ≤ aMax t) :
    aX (d + 1) mi pc ls st0 σ Q ↔ aX d t 0 L [] σ (fun r σ' => aX (d + 1) mi (pc + 3) ls (aret r rest) σ' Q) := by
  refine aX_call ?_
  rw [aAt_of hk]
  simp only [aAct, hl]
  rw [if_pos hk2]
  subst hn; subst ht; subst hd; subst hL
  unfold aDo
  rw [if_pos ⟨h4, hlen⟩]
  simp only [ha, if_true]
theorem X_min {i t w : Nat} {x y : Int32} {rest : List Value} (hk : aCode mi pc = some (.invokestatic i, n)) (hl : aLk lM (aOwn mi) i = some (t, 7, w)) (h4 : rest.length ≤ 4) : aX d mi pc ls (.int y :: .int x :: rest) σ Q ↔ aX d mi (pc + 3) ls (.int (if y < x then y else x) :: rest) σ Q :=
  aX_next (by rw [aAt_of hk]; simp only [aAct, hl]; rw [if_neg (by decide), if_neg (by decide), if_pos trivial]; simp only [aMin, h4, if_true]; rfl)
theorem X_cpy {i t w a a0 : Nat} {p q m : Int32} {n0 n1 : Nat} {f g : Nat → Int32} {rest : List Value} (hk : aCode mi pc = some (.invokestatic i, n)) (hl : aLk lM (aOwn mi) i = some (t, 6, w)) (h0 : σ.1 a0 = some (eI n0 f)) (h1 : σ.1 a = some (eI n1 g)) (hc : ¬ p < 0 ∧ ¬ q < 0 ∧ ¬ m < 0 ∧ p.toNatClampNeg + m.toNatClampNeg ≤ n0 ∧ q.toNatClampNeg + m.toNatClampNeg ≤ n1 ∧ rest.length ≤ 4) : aX d mi pc ls (.int m :: .int q :: .ref a :: .int p :: .ref a0 :: rest) σ Q ↔ aX d mi (pc + 3) ls rest (aput σ a (eI n1 (va_cpy f g p.toNatClampNeg q.toNatClampNeg m.toNatClampNeg))) Q :=
  aX_next (by rw [aAt_of hk]; simp only [aAct, hl]; rw [if_neg (by decide), if_pos trivial]; simp only [aCpy, h0, h1]; rw [if_pos hc]; rfl)
theorem X_iret {v : Int32} (hk : aCode mi pc = some (.ireturn, n)) (hr : aRet mi = some .int) : aX d mi pc ls [.int v] σ Q ↔ Q (some (.int v)) σ := aX_ret (by rw [aAt_of hk]; simp only [aAct, hr, true_or, if_true])
theorem X_zret {v : Int32} (hk : aCode mi pc = some (.ireturn, n)) (hr : aRet mi = some .boolean) : aX d mi pc ls [.int v] σ Q ↔ narrow .boolean (.int v) = .int v ∧ Q (some (.int v)) σ := by
  by_cases h : narrow .boolean (.int v) = .int v
  · rw [aX_ret (r := some (.int v)) (σ' := σ) (by rw [aAt_of hk]; simp only [aAct, hr]; rw [if_pos (Or.inr ⟨trivial, h⟩)])]
    exact ⟨fun z => ⟨h, z⟩, fun z => z.2⟩
  · rw [aX_none (by rw [aAt_of hk]; simp only [aAct, hr]; rw [if_neg]; rintro (z | z) <;> first | exact h z.2 | cases z)]
    exact ⟨fun z => z.elim, fun z => h z.1⟩
theorem X_aret {v : Value} {nm : String} (hk : aCode mi pc = some (.areturn, n)) (hr : aRet mi = some (.object nm)) (hv : aRef v = true) : aX d mi pc ls [v] σ Q ↔ Q (some v) σ := aX_ret (by rw [aAt_of hk]; simp only [aAct, hr, hv, if_true])
theorem X_vret (hk : aCode mi pc = some (.return_, n)) (hr : aRet mi = none) : aX d mi pc ls [] σ Q ↔ Q none σ := aX_ret (by rw [aAt_of hk]; simp only [aAct, hr, if_true])
end AOP
def aRT (t : FieldType) : Bool := match t with
  | .object _ => true
  | .array _ => true
  | _ => false
theorem aFit_I {ci k : Nat} {x : Int32} (h : parseFieldDescriptor ((aNw ci).2.1 k).2.2.1 = some .int) : aFit ci k (.int x) = true := by
  unfold aFit
  rw [h]
  simp [narrow, fits]
theorem aFit_R {ci k x : Nat} (h : (parseFieldDescriptor ((aNw ci).2.1 k).2.2.1).any aRT = true) : aFit ci k (.ref x) = true := by
  unfold aFit
  cases e : parseFieldDescriptor ((aNw ci).2.1 k).2.2.1 with
  | none => rw [e] at h; cases h
  | some t =>
    rw [e] at h
    cases t <;> simp [aRT] at h <;> simp [narrow, fits]
