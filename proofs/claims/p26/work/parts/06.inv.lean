/-! what an instruction's row says, read backwards -/
section AI
variable {pc pc' : Nat} {ls ls' : aL} {st st' : List Value} {σ σ' : aS}
theorem aGo_inv (h : aGo pc ls st σ = some (.inl (pc', ls', st', σ'))) : pc' = pc ∧ ls' = ls ∧ st' = st ∧ σ' = σ := by
  unfold aGo at h
  cases h
  exact ⟨rfl, rfl, rfl, rfl⟩
theorem aLd_inv {i : Nat} {t : Value → Bool} (h : aLd pc ls st σ i t = some (.inl (pc', ls', st', σ'))) : ∃ v, ls[i]? = some (some v) ∧ t v = true ∧ pc' = pc ∧ ls' = ls ∧ st' = v :: st ∧ σ' = σ := by
  unfold aLd at h
  split at h
  · rename_i v hv
    split at h
    · rename_i ht
      exact ⟨v, hv, ht, aGo_inv h⟩
    · cases h
  · cases h
theorem aIsI_inv {v : Value} (h : aIsI v = true) : ∃ x, v = .int x := by cases v <;> simp [aIsI] at h ⊢
theorem aIsJ_inv {v : Value} (h : aIsJ v = true) : ∃ x, v = .long x := by cases v <;> simp [aIsJ] at h ⊢
theorem aRef_inv {v : Value} (h : aRef v = true) : v = .null ∨ ∃ a, v = .ref a := by cases v <;> simp [aRef] at h ⊢
theorem aS1_inv {i : Nat} {t : Value → Bool} (h : aS1 pc ls st σ i t = some (.inl (pc', ls', st', σ'))) : ∃ v r, st = v :: r ∧ t v = true ∧ i < ls.length ∧ pc' = pc ∧ ls' = ast1 i v ls ∧ st' = r ∧ σ' = σ := by
  unfold aS1 at h
  split at h
  · rename_i v r
    split at h
    · rename_i ht
      exact ⟨v, r, rfl, ht.1, ht.2, aGo_inv h⟩
    · cases h
  · cases h
theorem aS2_inv {i : Nat} (h : aS2 pc ls st σ i = some (.inl (pc', ls', st', σ'))) : ∃ x r, st = .long x :: r ∧ i + 1 < ls.length ∧ pc' = pc ∧ ls' = ast2 i (.long x) ls ∧ st' = r ∧ σ' = σ := by
  unfold aS2 at h
  split at h
  · rename_i x r
    split at h
    · rename_i ht
      exact ⟨x, r, rfl, ht, aGo_inv h⟩
    · cases h
  · cases h
theorem aB2_inv {f : Int32 → Int32 → Int32} (h : aB2 pc ls st σ f = some (.inl (pc', ls', st', σ'))) : ∃ x y r, st = .int y :: .int x :: r ∧ pc' = pc ∧ ls' = ls ∧ st' = .int (f x y) :: r ∧ σ' = σ := by
  unfold aB2 at h
  split at h
  · exact ⟨_, _, _, rfl, aGo_inv h⟩
  · cases h
theorem aB2J_inv {f : Int64 → Int64 → Int64} (h : aB2J pc ls st σ f = some (.inl (pc', ls', st', σ'))) : ∃ x y r, st = .long y :: .long x :: r ∧ pc' = pc ∧ ls' = ls ∧ st' = .long (f x y) :: r ∧ σ' = σ := by
  unfold aB2J at h
  split at h
  · exact ⟨_, _, _, rfl, aGo_inv h⟩
  · cases h
theorem aBr_inv {b : Bool} {off : Int} (h : aBr b pc off ls st σ = some (.inl (pc', ls', st', σ'))) : (pc : Int) + off = (aTgt pc off : Int) ∧ pc' = (if b = true then aTgt pc off else pc + 3) ∧ ls' = ls ∧ st' = st ∧ σ' = σ := by
  unfold aBr at h
  split at h
  · rename_i ht
    refine ⟨ht, ?_⟩
    split at h
    · rename_i hb
      rw [if_pos hb]
      exact aGo_inv h
    · rename_i hb
      rw [if_neg hb]
      exact aGo_inv h
  · cases h
theorem aSw_inv {off : Int} (h : aSw pc off ls st σ = some (.inl (pc', ls', st', σ'))) : (pc : Int) + off = (aTgt pc off : Int) ∧ pc' = aTgt pc off ∧ ls' = ls ∧ st' = st ∧ σ' = σ := by
  unfold aSw at h
  split at h
  · rename_i ht
    exact ⟨ht, aGo_inv h⟩
  · cases h
theorem aBr_use {P : Nat → Prop} {b : Bool} {q t n : Nat} (h : q = if b = true then t else n) (k : P q) : (b = true → P t) ∧ (b = false → P n) := by
  cases b with
  | true => rw [if_pos rfl] at h; subst h; exact ⟨fun _ => k, fun z => by cases z⟩
  | false => rw [if_neg (by decide)] at h; subst h; exact ⟨fun z => (by cases z), fun _ => k⟩
theorem aDo_not {t : Nat} {rv : Bool} {x} : aDo t pc rv st σ ≠ some (.inl x) := by
  intro h
  unfold aDo at h
  split at h
  · split at h
    · split at h
      · split at h <;> cases h
      · cases h
    · split at h <;> cases h
    · cases h
  · cases h
theorem aGetF_inv {own i : Nat} (h : aGetF own pc ls st σ i = some (.inl (pc', ls', st', σ'))) : ∃ ci k w a r fs v, aLk lF own i = some (ci, k, w) ∧ st = .ref a :: r ∧ σ.1 a = some (eO ci fs) ∧ fs[k]? = some v ∧ pc' = pc + 3 ∧ ls' = ls ∧ st' = v :: r ∧ σ' = σ := by
  unfold aGetF at h
  split at h
  · rename_i ci k w a r hl
    split at h
    · rename_i c2 fs ha
      split at h
      · rename_i hc
        subst hc
        split at h
        · rename_i v hv
          exact ⟨_, _, _, _, _, _, _, hl, rfl, ha, hv, aGo_inv h⟩
        · cases h
      · cases h
    · cases h
  · cases h
theorem aPutF_inv {mi i : Nat} (h : aPutF mi pc ls st σ i = some (.inl (pc', ls', st', σ'))) : ∃ ci k w a r fs v, aLk lF (aOwn mi) i = some (ci, k, w) ∧ st = v :: .ref a :: r ∧ σ.1 a = some (eO ci fs) ∧ k < fs.length ∧ aFit ci k v = true ∧ aFin mi ci k = true ∧ pc' = pc + 3 ∧ ls' = ls ∧ st' = r ∧ σ' = aput σ a (eO ci (fs.set k v)) := by
  unfold aPutF at h
  split at h
  · rename_i ci k w v a r hl
    split at h
    · rename_i c2 fs ha
      split at h
      · rename_i hc
        obtain ⟨rfl, h1, h2, h3⟩ := hc
        exact ⟨_, _, _, _, _, _, _, hl, rfl, ha, h1, h2, h3, aGo_inv h⟩
      · cases h
    · cases h
  · cases h
theorem aIld_inv (h : aIld pc ls st σ = some (.inl (pc', ls', st', σ'))) : ∃ i a r n f, st = .int i :: .ref a :: r ∧ (σ.1 a = some (eI n f) ∨ σ.1 a = some (eS n f)) ∧ vp_in i n ∧ pc' = pc + 1 ∧ ls' = ls ∧ st' = .int (f i.toNatClampNeg) :: r ∧ σ' = σ := by
  unfold aIld at h
  split at h
  · rename_i i a r
    split at h
    · rename_i n f ha
      split at h
      · rename_i hi
        exact ⟨_, _, _, _, _, rfl, Or.inl ha, hi, aGo_inv h⟩
      · cases h
    · rename_i n f ha
      split at h
      · rename_i hi
        exact ⟨_, _, _, _, _, rfl, Or.inr ha, hi, aGo_inv h⟩
      · cases h
    · cases h
  · cases h
theorem aIst_inv (h : aIst pc ls st σ = some (.inl (pc', ls', st', σ'))) : ∃ x i a r n f, st = .int x :: .int i :: .ref a :: r ∧ σ.1 a = some (eI n f) ∧ vp_in i n ∧ pc' = pc + 1 ∧ ls' = ls ∧ st' = r ∧ σ' = aput σ a (eI n (upd f i.toNatClampNeg x)) := by
  unfold aIst at h
  split at h
  · rename_i x i a r
    split at h
    · rename_i n f ha
      split at h
      · rename_i hi
        exact ⟨_, _, _, _, _, _, rfl, ha, hi, aGo_inv h⟩
      · cases h
    · cases h
  · cases h
theorem aQld_inv (h : aQld pc ls st σ = some (.inl (pc', ls', st', σ'))) : ∃ i a r j n f, st = .int i :: .ref a :: r ∧ σ.1 a = some (eQ j n f) ∧ vp_in i n ∧ pc' = pc + 1 ∧ ls' = ls ∧ st' = va_rf (f i.toNatClampNeg) :: r ∧ σ' = σ := by
  unfold aQld at h
  split at h
  · rename_i i a r
    split at h
    · rename_i j n f ha
      split at h
      · rename_i hi
        exact ⟨_, _, _, _, _, _, rfl, ha, hi, aGo_inv h⟩
      · cases h
    · cases h
  · cases h
theorem aQst_inv (h : aQst pc ls st σ = some (.inl (pc', ls', st', σ'))) : ∃ v i a r j n f ci fs, st = .ref v :: .int i :: .ref a :: r ∧ σ.1 a = some (eQ j n f) ∧ σ.1 v = some (eO ci fs) ∧ vp_in i n ∧ aQc j = ci ∧ pc' = pc + 1 ∧ ls' = ls ∧ st' = r ∧ σ' = aput σ a (eQ j n (va_up f i.toNatClampNeg (some v))) := by
  unfold aQst at h
  split at h
  · rename_i v i a r
    split at h
    · rename_i j n f ci fs ha hv
      split at h
      · rename_i hi
        exact ⟨_, _, _, _, _, _, _, _, _, rfl, ha, hv, hi.1, hi.2.2, aGo_inv h⟩
      · cases h
    · cases h
  · cases h
theorem aLen_inv (h : aLen pc ls st σ = some (.inl (pc', ls', st', σ'))) : ∃ a r n, st = .ref a :: r ∧ ((∃ f, σ.1 a = some (eI n f)) ∨ (∃ f, σ.1 a = some (eS n f)) ∨ (∃ j f, σ.1 a = some (eQ j n f))) ∧ pc' = pc + 1 ∧ ls' = ls ∧ st' = .int (Int32.ofNat n) :: r ∧ σ' = σ := by
  unfold aLen at h
  split at h
  · rename_i a r
    split at h
    · rename_i n f ha
      exact ⟨_, _, _, rfl, Or.inl ⟨_, ha⟩, aGo_inv h⟩
    · rename_i n f ha
      exact ⟨_, _, _, rfl, Or.inr (Or.inl ⟨_, ha⟩), aGo_inv h⟩
    · rename_i j n f ha
      exact ⟨_, _, _, rfl, Or.inr (Or.inr ⟨_, _, ha⟩), aGo_inv h⟩
    · cases h
  · cases h
theorem aCpy_inv (h : aCpy pc ls st σ = some (.inl (pc', ls', st', σ'))) : ∃ n dp a sp a0 r n0 f n1 g, st = .int n :: .int dp :: .ref a :: .int sp :: .ref a0 :: r ∧ σ.1 a0 = some (eI n0 f) ∧ σ.1 a = some (eI n1 g) ∧ (¬ sp < 0 ∧ ¬ dp < 0 ∧ ¬ n < 0 ∧ sp.toNatClampNeg + n.toNatClampNeg ≤ n0 ∧ dp.toNatClampNeg + n.toNatClampNeg ≤ n1 ∧ r.length ≤ 4) ∧ pc' = pc + 3 ∧ ls' = ls ∧ st' = r ∧ σ' = aput σ a (eI n1 (va_cpy f g sp.toNatClampNeg dp.toNatClampNeg n.toNatClampNeg)) := by
  unfold aCpy at h
  split at h
  · rename_i n dp a sp a0 r
    split at h
    · rename_i n0 f n1 g h0 h1
      split at h
      · rename_i hi
        exact ⟨_, _, _, _, _, _, _, _, _, _, rfl, h0, h1, hi, aGo_inv h⟩
      · cases h
    · cases h
  · cases h
theorem aMin_inv (h : aMin pc ls st σ = some (.inl (pc', ls', st', σ'))) : ∃ x y r, st = .int y :: .int x :: r ∧ r.length ≤ 4 ∧ pc' = pc + 3 ∧ ls' = ls ∧ st' = .int (if y < x then y else x) :: r ∧ σ' = σ := by
  unfold aMin at h
  split at h
  · split at h
    · rename_i hi
      exact ⟨_, _, _, rfl, hi, aGo_inv h⟩
    · cases h
  · cases h
theorem aObj_inv (h : aObj pc ls st σ = some (.inl (pc', ls', st', σ'))) : ∃ a r, st = .ref a :: r ∧ r.length ≤ 4 ∧ pc' = pc + 3 ∧ ls' = ls ∧ st' = r ∧ σ' = σ := by
  unfold aObj at h
  split at h
  · split at h
    · rename_i hi
      exact ⟨_, _, rfl, hi, aGo_inv h⟩
    · cases h
  · cases h
theorem aCat (v : Value) : v.category ≤ 2 := by cases v <;> simp [Value.category]
theorem aCats : ∀ r : List Value, (r.map fun v => v.category).sum ≤ 2 * r.length
  | [] => Nat.le_refl _
  | v :: t => by
    have h1 := aCat v
    have h2 := aCats t
    simp only [List.map_cons, List.sum_cons, List.length_cons]
    omega
theorem aCats8 {r : List Value} (h : r.length ≤ 4) : (r.map fun v => v.category).sum ≤ 8 := by
  have := aCats r
  omega
end AI
