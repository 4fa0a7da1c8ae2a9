/-! THE SMALL MACHINE AND THE MACHINE: the heap, the locals, the tables -/
def aTys (c : Nat → ClassId) : List (ClassId × FieldType) := [(c 0, .int), (c 1, .object RX0), (c 2, .object RX5), (c 3, .object RX4)]
def aConc (c : Nat → ClassId) (e : aE) : va_E := match e with
  | .inl (.inl x) => .inl (c 0, x.1, .inl x.2)
  | .inl (.inr x) => .inl (c 0, x.1, .inl x.2)
  | .inr (.inl x) => .inl (c x.1, x.2.1, .inr (.inr (.inr (.inr x.2.2))))
  | .inr (.inr o) => .inr o
def aOKe (e : aE) : Prop := match e with
  | .inl (.inl _) => True
  | .inl (.inr _) => False
  | .inr (.inl x) => x.1 = 1 ∨ x.1 = 2 ∨ x.1 = 3
  | .inr (.inr _) => True
def aCell (D : va_G) (c : Nat → ClassId) (lo hi : Nat) (s : State) (H : Heap) (a : Nat) (e : aE) : Prop :=
  (∃ n f, e = eS n f ∧ a < lo ∧ va_X a n f s H) ∨ (aOKe e ∧ lo ≤ a ∧ a < hi ∧ va_at D vwCl (a, aConc c e) H)
def aRel (D : va_G) (c : Nat → ClassId) (lo : Nat) (s : State) (σ : aS) (H : Heap) : Prop := H.size = σ.2.1 ∧ lo ≤ σ.2.1 ∧ ∀ a e, σ.1 a = some e → aCell D c lo σ.2.1 s H a e
theorem aRel.at {D : va_G} {c : Nat → ClassId} {lo : Nat} {s : State} {σ : aS} {H : Heap} (h : aRel D c lo s σ H) {a : Nat} {e : aE} (ha : σ.1 a = some e) (he : aOKe e) : lo ≤ a ∧ a < σ.2.1 ∧ va_at D vwCl (a, aConc c e) H := by
  rcases h.2.2 a e ha with ⟨n, f, rfl, -⟩ | h
  · exact he.elim
  · exact h.2
theorem aRel.scr {D : va_G} {c : Nat → ClassId} {lo : Nat} {s : State} {σ : aS} {H : Heap} (h : aRel D c lo s σ H) {a n : Nat} {f : Nat → Int32} (ha : σ.1 a = some (eS n f)) : a < lo ∧ va_X a n f s H := by
  rcases h.2.2 a _ ha with ⟨n', f', e, h1⟩ | h
  · cases e; exact h1
  · exact h.1.elim
theorem aRel.isOK {D : va_G} {c : Nat → ClassId} {lo : Nat} {s : State} {σ : aS} {H : Heap} (h : aRel D c lo s σ H) {a : Nat} {x : Nat × Nat × (Nat → Option Nat)} (ha : σ.1 a = some (.inr (.inl x))) : x.1 = 1 ∨ x.1 = 2 ∨ x.1 = 3 := by
  rcases h.2.2 a _ ha with ⟨n', f', e, h1⟩ | h
  · cases e
  · exact h.1
theorem aRel.put {D : va_G} {c : Nat → ClassId} {lo : Nat} {s : State} {σ : aS} {H H1 : Heap} (h : aRel D c lo s σ H) {a : Nat} {e e0 : aE} (ha : σ.1 a = some e0) (h0 : aOKe e0) (he : aOKe e) (hn : va_at D vwCl (a, aConc c e) H1) (z : H1.size = H.size) (oq : ∀ q : Nat, q ≠ a → H1[q]? = H[q]?) : aRel D c lo s (aput σ a e) H1 := by
  have h1 := h.at ha h0
  refine ⟨z.trans h.1, h.2.1, fun b f hb => ?_⟩
  by_cases hq : b = a
  · subst hq
    simp only [aput, if_true] at hb
    cases hb
    exact Or.inr ⟨he, h1.1, h1.2.1, hn⟩
  · simp only [aput, if_neg hq] at hb
    rcases h.2.2 b f hb with ⟨n, g, rfl, q1, q2⟩ | ⟨q1, q2, q3, q4⟩
    · exact Or.inl ⟨n, g, rfl, q1, q2.kept (oq b hq)⟩
    · exact Or.inr ⟨q1, q2, q3, q4.kept (oq b hq)⟩
theorem aRel.new {D : va_G} {c : Nat → ClassId} {lo : Nat} {s : State} {σ : aS} {H H1 : Heap} (h : aRel D c lo s σ H) {e : aE} {n : Nat} (he : aOKe e) (hn : va_at D vwCl (H.size, aConc c e) H1) (z : H1.size = H.size + 1) (oq : ∀ q : Nat, q < H.size → H1[q]? = H[q]?) : aRel D c lo s (anew σ e n) H1 := by
  have hh := h.1
  have hlo := h.2.1
  refine ⟨by rw [z, h.1]; rfl, Nat.le_succ_of_le h.2.1, fun b f hb => ?_⟩
  by_cases hq : b = σ.2.1
  · subst hq
    simp only [anew, if_true] at hb
    cases hb
    refine Or.inr ⟨he, h.2.1, Nat.lt_succ_self _, ?_⟩
    rw [← h.1]
    exact hn
  · simp only [anew, if_neg hq] at hb
    rcases h.2.2 b f hb with ⟨n, g, rfl, q1, q2⟩ | ⟨q1, q2, q3, q4⟩
    · exact Or.inl ⟨n, g, rfl, q1, q2.kept (oq b (by omega))⟩
    · exact Or.inr ⟨q1, q2, Nat.lt_succ_of_lt q3, q4.kept (oq b (by omega))⟩
theorem aRel.moved {D : va_G} {c : Nat → ClassId} {lo : Nat} {s U : State} {σ : aS} {H : Heap} (hvm : s.vm.Alike U.vm) (h : aRel D c lo s σ H) : aRel D c lo U σ H := by
  refine ⟨h.1, h.2.1, fun a e ha => ?_⟩
  rcases h.2.2 a e ha with ⟨n, g, q0, q1, q2⟩ | q
  · exact Or.inl ⟨n, g, q0, q1, q2.moved hvm⟩
  · exact Or.inr q
theorem aP1 {D : va_G} {cl : List vw_C} {q : Nat × va_E} {H : Heap} (h : va_at D cl q H) : va_P D cl [q] H := by
  intro k x hx
  have hk : k = 0 := by
    have := (List.getElem?_eq_some_iff.mp hx).1
    simp at this
    exact this
  subst hk
  cases hx
  exact h
-- the locals
def aLs (arr : Array Slot) (n : Nat) (L : aL) : Prop := L.length = n ∧ ∃ lv, lv_has arr n lv ∧ ∀ i v, L[i]? = some (some v) → (i, v) ∈ lv
theorem aLs.get {arr : Array Slot} {n : Nat} {L : aL} (h : aLs arr n L) {i : Nat} {v : Value} (hi : L[i]? = some (some v)) : arr[i]? = some (.val v) := by
  obtain ⟨-, lv, h1, h2⟩ := h
  exact h1.2.2 _ (h2 i v hi)
theorem aLs.size {arr : Array Slot} {n : Nat} {L : aL} (h : aLs arr n L) : arr.size = n := by
  obtain ⟨-, lv, h1, -⟩ := h
  exact h1.1
theorem ast1_len : ∀ (i : Nat) (v : Value) (L : aL), (ast1 i v L).length = L.length
  | 0, _, [] => rfl
  | 0, _, _ :: _ => rfl
  | 1, _, [] => rfl
  | 1, _, [_] => rfl
  | 1, _, _ :: _ :: _ => rfl
  | _ + 2, _, [] => rfl
  | i + 2, v, x :: t => by
    show (x :: ast1 (i + 1) v t).length = _
    simp [ast1_len (i + 1) v t]
theorem ast2_len : ∀ (i : Nat) (v : Value) (L : aL), (ast2 i v L).length = L.length
  | 0, _, [] => rfl
  | 0, _, [_] => rfl
  | 0, _, _ :: _ :: _ => rfl
  | 1, _, [] => rfl
  | 1, _, [_] => rfl
  | 1, _, [_, _] => rfl
  | 1, _, _ :: _ :: _ :: _ => rfl
  | _ + 2, _, [] => rfl
  | i + 2, v, x :: t => by
    show (x :: ast2 (i + 1) v t).length = _
    simp [ast2_len (i + 1) v t]
theorem aclr_some {o : Option Value} {w : Value} (h : aclr o = some w) : o = some w ∧ w.category ≠ 2 := by
  cases o with
  | none => simp [aclr] at h
  | some v => cases v <;> simp [aclr] at h <;> subst h <;> simp [Value.category]
theorem ast1_get : ∀ (i : Nat) (v : Value) (L : aL) (j : Nat) (w : Value), i < L.length → (ast1 i v L)[j]? = some (some w) → (j = i ∧ w = v) ∨ (j ≠ i ∧ L[j]? = some (some w) ∧ (j + 1 = i → w.category ≠ 2))
  | 0, v, x :: t, 0, w, _, h => by
    simp only [ast1, List.getElem?_cons_zero, Option.some.injEq] at h
    exact Or.inl ⟨rfl, h.symm⟩
  | 0, v, x :: t, j + 1, w, _, h => by
    simp only [ast1, List.getElem?_cons_succ] at h
    exact Or.inr ⟨by omega, by simpa using h, fun q => by omega⟩
  | 1, v, x :: y :: t, 0, w, _, h => by
    simp only [ast1, List.getElem?_cons_zero, Option.some.injEq] at h
    obtain ⟨h1, h2⟩ := aclr_some h
    exact Or.inr ⟨by omega, by simp [h1], fun _ => h2⟩
  | 1, v, x :: y :: t, 1, w, _, h => by
    simp only [ast1, List.getElem?_cons_succ, List.getElem?_cons_zero, Option.some.injEq] at h
    exact Or.inl ⟨rfl, h.symm⟩
  | 1, v, x :: y :: t, j + 2, w, _, h => by
    simp only [ast1, List.getElem?_cons_succ] at h
    exact Or.inr ⟨by omega, by simpa using h, fun q => by omega⟩
  | 1, _, [_], _, _, hl, _ => by simp at hl
  | _, _, [], _, _, hl, _ => by simp at hl
  | i + 2, v, x :: t, 0, w, _, h => by
    simp only [ast1, List.getElem?_cons_zero] at h
    exact Or.inr ⟨by omega, by simpa using h, fun q => by omega⟩
  | i + 2, v, x :: t, j + 1, w, hl, h => by
    simp only [ast1, List.getElem?_cons_succ] at h
    rcases ast1_get (i + 1) v t j w (by simp at hl; omega) h with ⟨h1, h2⟩ | ⟨h1, h2, h3⟩
    · exact Or.inl ⟨by omega, h2⟩
    · exact Or.inr ⟨by omega, by simpa using h2, fun q => h3 (by omega)⟩
theorem ast2_get : ∀ (i : Nat) (v : Value) (L : aL) (j : Nat) (w : Value), i + 1 < L.length → (ast2 i v L)[j]? = some (some w) → (j = i ∧ w = v) ∨ (j ≠ i ∧ j ≠ i + 1 ∧ L[j]? = some (some w) ∧ (j + 1 = i → w.category ≠ 2))
  | 0, v, x :: y :: t, 0, w, _, h => by
    simp only [ast2, List.getElem?_cons_zero, Option.some.injEq] at h
    exact Or.inl ⟨rfl, h.symm⟩
  | 0, v, x :: y :: t, 1, w, _, h => by
    simp only [ast2, List.getElem?_cons_succ, List.getElem?_cons_zero] at h
    simp at h
  | 0, v, x :: y :: t, j + 2, w, _, h => by
    simp only [ast2, List.getElem?_cons_succ] at h
    exact Or.inr ⟨by omega, by omega, by simpa using h, fun q => by omega⟩
  | 1, v, x :: y :: z :: t, 0, w, _, h => by
    simp only [ast2, List.getElem?_cons_zero, Option.some.injEq] at h
    obtain ⟨h1, h2⟩ := aclr_some h
    exact Or.inr ⟨by omega, by omega, by simp [h1], fun _ => h2⟩
  | 1, v, x :: y :: z :: t, 1, w, _, h => by
    simp only [ast2, List.getElem?_cons_succ, List.getElem?_cons_zero, Option.some.injEq] at h
    exact Or.inl ⟨rfl, h.symm⟩
  | 1, v, x :: y :: z :: t, 2, w, _, h => by
    simp only [ast2, List.getElem?_cons_succ, List.getElem?_cons_zero] at h
    simp at h
  | 1, v, x :: y :: z :: t, j + 3, w, _, h => by
    simp only [ast2, List.getElem?_cons_succ] at h
    exact Or.inr ⟨by omega, by omega, by simpa using h, fun q => by omega⟩
  | 0, _, [_], _, _, hl, _ => by simp at hl
  | 1, _, [_], _, _, hl, _ => by simp at hl
  | 1, _, [_, _], _, _, hl, _ => by simp at hl
  | _, _, [], _, _, hl, _ => by simp at hl
  | i + 2, v, x :: t, 0, w, _, h => by
    simp only [ast2, List.getElem?_cons_zero] at h
    exact Or.inr ⟨by omega, by omega, by simpa using h, fun q => by omega⟩
  | i + 2, v, x :: t, j + 1, w, hl, h => by
    simp only [ast2, List.getElem?_cons_succ] at h
    rcases ast2_get (i + 1) v t j w (by simp at hl; omega) h with ⟨h1, h2⟩ | ⟨h1, h0, h2, h3⟩
    · exact Or.inl ⟨by omega, h2⟩
    · exact Or.inr ⟨by omega, by omega, by simpa using h2, fun q => h3 (by omega)⟩
theorem aLs.s1 {arr : Array Slot} {n : Nat} {L : aL} {lv : List (Nat × Value)} (hl : L.length = n) (hm : ∀ i v, L[i]? = some (some v) → (i, v) ∈ lv) {i : Nat} {v : Value} (hi : i < n) (h : lv_has arr n ((i, v) :: lv.filter (fun q => !(q.1 == i) && !(q.1 + 1 == i && q.2.category == 2)))) : aLs arr n (ast1 i v L) := by
  refine ⟨(ast1_len i v L).trans hl, _, h, fun j w hj => ?_⟩
  rcases ast1_get i v L j w (by omega) hj with ⟨rfl, rfl⟩ | ⟨h1, h2, h3⟩
  · exact List.mem_cons_self
  · refine List.mem_cons_of_mem _ (List.mem_filter.mpr ⟨hm j w h2, ?_⟩)
    simp only [Bool.and_eq_true, Bool.not_eq_true', beq_eq_false_iff_ne, ne_eq, Bool.and_eq_false_iff]
    exact ⟨h1, if q : j + 1 = i then Or.inr (h3 q) else Or.inl q⟩
theorem aLs.s2 {arr : Array Slot} {n : Nat} {L : aL} {lv : List (Nat × Value)} (hl : L.length = n) (hm : ∀ i v, L[i]? = some (some v) → (i, v) ∈ lv) {i : Nat} {v : Value} (hi : i + 1 < n) (h : lv_has arr n ((i, v) :: lv.filter (fun q => !(q.1 == i) && (!(q.1 == i + 1) && !(q.1 + 1 == i && q.2.category == 2))))) : aLs arr n (ast2 i v L) := by
  refine ⟨(ast2_len i v L).trans hl, _, h, fun j w hj => ?_⟩
  rcases ast2_get i v L j w (by omega) hj with ⟨rfl, rfl⟩ | ⟨h1, h0, h2, h3⟩
  · exact List.mem_cons_self
  · refine List.mem_cons_of_mem _ (List.mem_filter.mpr ⟨hm j w h2, ?_⟩)
    simp only [Bool.and_eq_true, Bool.not_eq_true', beq_eq_false_iff_ne, ne_eq, Bool.and_eq_false_iff]
    exact ⟨h1, h0, if q : j + 1 = i then Or.inr (h3 q) else Or.inl q⟩
theorem aargs_sl : ∀ vs : List Value, (aargs vs).length = (lg_sl vs).length
  | [] => rfl
  | v :: t => by
    have ih := aargs_sl t
    have e : lg_sl (v :: t) = (if v.category = 2 then [.val v, .second] else [.val v]) ++ lg_sl t := by simp [lg_sl]
    rw [e]
    cases v <;> simp [aargs, Value.category, ih] <;> omega
theorem aargs_get : ∀ (vs : List Value) (k i : Nat) (w : Value), (aargs vs)[i]? = some (some w) → (k + i, w) ∈ lv_args k vs
  | [], _, _, _, h => by simp [aargs] at h
  | v :: t, k, i, w, h => by
    have two : ∀ (x : Value), x = v → v.category = 2 → (some x :: none :: aargs t)[i]? = some (some w) → (k + i, w) ∈ lv_args k (v :: t) := by
      intro x hx hc h
      unfold lv_args
      rw [if_pos hc]
      match i, h with
      | 0, h =>
        simp at h
        rw [← h, hx]
        exact List.mem_cons_self
      | 1, h => simp at h
      | i + 2, h =>
        simp only [List.getElem?_cons_succ] at h
        have := aargs_get t (k + 2) i w h
        rw [show k + 2 + i = k + (i + 2) by omega] at this
        exact List.mem_cons_of_mem _ this
    have one : v.category ≠ 2 → (some v :: aargs t)[i]? = some (some w) → (k + i, w) ∈ lv_args k (v :: t) := by
      intro hc h
      unfold lv_args
      rw [if_neg hc]
      match i, h with
      | 0, h =>
        simp at h
        rw [← h]
        exact List.mem_cons_self
      | i + 1, h =>
        simp only [List.getElem?_cons_succ] at h
        have := aargs_get t (k + 1) i w h
        rw [show k + 1 + i = k + (i + 1) by omega] at this
        exact List.mem_cons_of_mem _ this
    cases v with
    | long x => exact two _ rfl rfl h
    | double x => exact two _ rfl rfl h
    | int x => exact one (by simp [Value.category]) h
    | float x => exact one (by simp [Value.category]) h
    | null => exact one (by simp [Value.category]) h
    | ref x => exact one (by simp [Value.category]) h
    | retAddr x => exact one (by simp [Value.category]) h
theorem aLs.entry (vs : List Value) {n : Nat} (h : (aargs vs).length ≤ n) : aLs ((lg_sl vs ++ List.replicate (n - (lg_sl vs).length) Slot.unset).toArray) n (aentry n vs) := by
  refine ⟨by simp [aentry]; omega, _, lv_entry vs (by rw [← aargs_sl]; exact h), fun i v hi => ?_⟩
  unfold aentry at hi
  by_cases hl : i < (aargs vs).length
  · rw [List.getElem?_append_left hl] at hi
    have := aargs_get vs 0 i v hi
    rwa [Nat.zero_add] at this
  · rw [List.getElem?_append_right (by omega)] at hi
    have := List.mem_of_getElem? hi
    simp at this
-- the tables
theorem aFind_mem : ∀ (l : List (Nat × Instr × Nat)) (pc : Nat) (q : Instr × Nat), aFind l pc = some q → (pc, q) ∈ l
  | [], _, _, h => by simp [aFind] at h
  | x :: l, pc, q, h => by
    unfold aFind at h
    split at h
    · rename_i e
      cases h
      rw [← e]
      exact List.mem_cons_self
    · exact List.mem_cons_of_mem _ (aFind_mem l pc q h)
theorem aLk_mem {α : Type} : ∀ (l : List (Nat × Nat × α)) (o i : Nat) (q : α), aLk l o i = some q → (o, i, q) ∈ l
  | [], _, _, _, h => by simp [aLk] at h
  | x :: l, o, i, q, h => by
    unfold aLk at h
    split at h
    · rename_i e
      cases h
      rw [← e.1, ← e.2]
      exact List.mem_cons_self
    · exact List.mem_cons_of_mem _ (aLk_mem l o i q h)
theorem aLens : aMeths.length = aCodes.length := by decide +kernel
theorem aCode_dec {mi pc : Nat} {q : Instr × Nat} (h : aCode mi pc = some q) : decode (aRec mi).2.1 pc = .ok q ∧ aLenOK q.1 q.2 = true := by
  have h1 := aFind_mem _ _ _ h
  by_cases hl : mi < aCodes.length
  · have hm : mi < aMeths.length := by rw [aLens]; exact hl
    have e1 : aCodes.getD mi [] = aCodes[mi] := by rw [List.getD_eq_getElem?_getD, List.getElem?_eq_getElem hl]; rfl
    have e2 : aRec mi = aMeths[mi] := by unfold aRec; rw [List.getD_eq_getElem?_getD, List.getElem?_eq_getElem hm]; rfl
    rw [e1] at h1
    have h2 := aDecs_at aMeths aCodes mi _ _ aDecs_ok (List.getElem?_eq_getElem hm) (List.getElem?_eq_getElem hl) _ h1
    rw [e2]
    exact h2
  · have e1 : aCodes.getD mi [] = [] := by simp [List.getD_eq_getElem?_getD, Nat.not_lt.mp hl]
    rw [e1] at h1
    exact absurd h1 List.not_mem_nil
theorem aNw_at {ci : Nat} (h : ci < 7) : vwCl[ci]? = some (aNw ci) := by
  have h2 : ci < vwCl.length := h
  unfold aNw
  rw [List.getD_eq_getElem?_getD, List.getElem?_eq_getElem h2]; rfl
theorem aLay {ci : Nat} (h : ci < 7) : ∀ w ∈ u_ws (aNw ci).1 (aNw ci).2.1 (aNw ci).2.2, w ∈ aTbl := fun w hw =>
  have h1 := aW_lay _ (List.mem_of_getElem? (aNw_at h)) w hw
  List.mem_filter.mpr ⟨h1.2, h1.1⟩
def aTyf (ci k : Nat) : FieldType := (parseFieldDescriptor ((aNw ci).2.1 k).2.2.1).getD .int
theorem aTyf_all : ∀ q ∈ vwCl, ∀ k, k < q.2.2 → (parseFieldDescriptor (q.2.1 k).2.2.1).isSome = true := by decide +kernel
theorem aNms_all : ∀ q ∈ vwCl, ∀ a, a < q.2.2 → ∀ b, b < q.2.2 → a ≠ b → (q.2.1 a).2.1 ≠ (q.2.1 b).2.1 := by decide +kernel
theorem aTyf_ok {ci : Nat} (h : ci < 7) : ∀ k, k < (aNw ci).2.2 → parseFieldDescriptor ((aNw ci).2.1 k).2.2.1 = some (aTyf ci k) := fun k hk => by
  have h1 := aTyf_all _ (List.mem_of_getElem? (aNw_at h)) k hk
  unfold aTyf
  cases e : parseFieldDescriptor ((aNw ci).2.1 k).2.2.1 with
  | none => rw [e] at h1; cases h1
  | some t => rfl
theorem aNms {ci : Nat} (h : ci < 7) : ∀ a, a < (aNw ci).2.2 → ∀ b, b < (aNw ci).2.2 → a ≠ b → ((aNw ci).2.1 a).2.1 ≠ ((aNw ci).2.1 b).2.1 := aNms_all _ (List.mem_of_getElem? (aNw_at h))
theorem aDef_at {ci : Nat} (h : ci < 7) : ∀ j, j < (aNw ci).2.2 → defaultValue (aTyf ci j) = vp_V (aDef ci) j := fun j hj => by
  have h1 := aTyf_ok h j hj
  simp [vp_V, aDef, List.getD_eq_getElem?_getD, hj, h1]
def aFix (D : va_G) (c : Nat → ClassId) (U : State) : Prop := va_K D vwCl (aTys c) U ∧ (∀ q ∈ lM, (q.2.2.2.1 = 3 ∨ q.2.2.2.1 = 4) → va_Nw (.methodLinkNest (aClass q.1) q.2.1 (aName q.2.2.1) RX6) U) ∧ va_AO RX0 U ∧ va_AO RX5 U ∧ va_AO RX4 U
theorem aFix.warm {D : va_G} {c : Nat → ClassId} {s U : State} (hW : s.WarmedH U.vm) (h : aFix D c s) : aFix D c U :=
  ⟨va_K.moved hW.alike h.1, fun q hq hk => va_Nw.warmM hW (h.2.1 q hq hk), h.2.2.1.moved hW.alike, h.2.2.2.1.moved hW.alike, h.2.2.2.2.moved hW.alike⟩
theorem aFix.same {D : va_G} {c : Nat → ClassId} {s U : State} (hv : s.vm = U.vm) (h : aFix D c s) : aFix D c U :=
  have ha : s.vm.Alike U.vm := by rw [hv]; exact Vm.Alike.refl _
  ⟨va_K.moved ha h.1, fun q hq hk => va_Nw.same rfl hv (h.2.1 q hq hk), h.2.2.1.moved ha, h.2.2.2.1.moved ha, h.2.2.2.2.moved ha⟩
/-- what holds all along a method's walk -/
def aCtx (D : va_G) (c : Nat → ClassId) (p : Program) (s : State) (args : Array Value) (m : MethodId) (meth : Method) (cd : Code) (mi : Nat) : Prop :=
  p.tables.exec = Jvm.exec ∧ cd.code = (aRec mi).2.1 ∧ cd.maxLocals = aMax mi ∧ s.vm.findClass (aClass (aOwn mi)) = some m.cls ∧ meth.sig.returnType = aRet mi ∧ (∀ w ∈ aTbl, w.before args s = true) ∧ meth.locks = false ∧ (aKnd mi = 2 → meth.name = "<init>") ∧ aFix D c s
