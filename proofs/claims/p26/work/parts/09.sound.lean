/-! A WHOLE RUN: what the small machine does, the machine does -/
section AUP
variable {mi pc : Nat} {ls : aL} {st : List Value} {σ : aS}
set_option maxHeartbeats 4000000 in
theorem aAct_up {I : Instr} {x : Nat × aL × List Value × aS} (hA : aAct mi pc I ls st σ = some (.inl x)) : σ.2.1 ≤ x.2.2.2.2.1 ∧ σ.2.2 ≤ x.2.2.2.2.2 := by
  cases I
  all_goals (simp only [aAct, aLd, aS1, aS2, aB2, aB2J, aBr, aSw, aGo, aGetF, aPutF, aIld, aIst, aQld, aQst, aLen, aCpy, aMin, aObj] at hA)
  all_goals (try (repeat' split at hA))
  all_goals (first
    | (exact absurd hA aDo_not)
    | (simp only [Option.some.injEq, Sum.inl.injEq] at hA; subst hA; first | exact ⟨Nat.le_refl _, Nat.le_refl _⟩ | exact ⟨Nat.le_succ _, Nat.le_add_right _ _⟩)
    | (cases hA; done))
theorem aDo_ret {t : Nat} {rv : Bool} {x} : aDo t pc rv st σ ≠ some (.inr (.inl x)) := by
  intro h
  unfold aDo at h
  split at h
  · split at h
    · split at h
      · split at h <;> cases h
      · cases h
    · split at h <;> cases h
    · cases h
  · cases h
set_option maxHeartbeats 4000000 in
theorem aAct_ret {I : Instr} {r : Option Value} {σ' : aS} (hA : aAct mi pc I ls st σ = some (.inr (.inl (r, σ')))) : σ' = σ ∧ ((I = .ireturn ∧ ∃ v, st = [.int v] ∧ r = some (.int v) ∧ (aRet mi = some .int ∨ (aRet mi = some .boolean ∧ narrow .boolean (.int v) = .int v))) ∨ (I = .areturn ∧ ∃ v n, st = [v] ∧ r = some v ∧ aRef v = true ∧ aRet mi = some (.object n)) ∨ (I = .return_ ∧ st = [] ∧ r = none ∧ aRet mi = none)) := by
  cases I
  case ireturn =>
    simp only [aAct] at hA
    split at hA
    · split at hA
      · rename_i hv
        cases hA
        exact ⟨rfl, Or.inl ⟨rfl, _, rfl, rfl, hv⟩⟩
      · cases hA
    · cases hA
  case areturn =>
    simp only [aAct] at hA
    split at hA
    · rename_i hq
      split at hA
      · rename_i hv
        cases hA
        exact ⟨rfl, Or.inr (Or.inl ⟨rfl, _, _, rfl, rfl, hv, hq⟩)⟩
      · cases hA
    · cases hA
  case return_ =>
    simp only [aAct] at hA
    split at hA
    · split at hA
      · rename_i hv
        cases hA
        exact ⟨rfl, Or.inr (Or.inr ⟨rfl, rfl, rfl, hv⟩)⟩
      · cases hA
    · cases hA
  all_goals (simp only [aAct, aLd, aS1, aS2, aB2, aB2J, aBr, aSw, aGo, aGetF, aPutF, aIld, aIst, aQld, aQst, aLen, aCpy, aMin, aObj] at hA)
  all_goals (try (repeat' split at hA))
  all_goals (first | (exact absurd hA aDo_ret) | (cases hA; done))
/-- a call, read backwards -/
def aRecv (t : Nat) (st : List Value) (σ : aS) (L : aL) (rest : List Value) : Prop := ∃ b fs, st = st.take (aArg t) ++ .ref b :: rest ∧ (st.take (aArg t)).length = aArg t ∧ σ.1 b = some (eO (aOwn t) fs) ∧ L = aentry (aMax t) (.ref b :: (st.take (aArg t)).reverse) ∧ (aargs (.ref b :: (st.take (aArg t)).reverse)).length ≤ aMax t
def aStat (t : Nat) (st : List Value) (L : aL) (rest : List Value) : Prop := st = st.take (aArg t) ++ rest ∧ (st.take (aArg t)).length = aArg t ∧ L = aentry (aMax t) (st.take (aArg t)).reverse ∧ (aargs (st.take (aArg t)).reverse).length ≤ aMax t
theorem aDo_inv {t t2 pc' : Nat} {rv : Bool} {L : aL} {rest : List Value} (h : aDo t pc rv st σ = some (.inr (.inr (t2, L, pc', rest)))) : t2 = t ∧ pc' = pc + 3 ∧ rest.length ≤ 4 ∧ ((rv = true ∧ aRecv t st σ L rest) ∨ (rv = false ∧ aStat t st L rest)) := by
  unfold aDo at h
  split at h
  · rename_i h4
    have htk : (st.take (aArg t)).length = aArg t := by rw [List.length_take]; omega
    split at h
    · rename_i b rest2 hdr
      split at h
      · rename_i ci fs hb
        split at h
        · rename_i hci
          cases h
          obtain ⟨rfl, hlen⟩ := hci
          have hst : st = st.take (aArg t) ++ .ref b :: rest := by rw [← hdr, List.take_append_drop]
          refine ⟨rfl, rfl, ?_, Or.inl ⟨rfl, b, fs, hst, htk, hb, rfl, hlen⟩⟩
          have h5 : (st.drop (aArg t)).length ≤ 5 := h4.1
          rw [hdr, List.length_cons] at h5
          omega
        · cases h
      · cases h
    · split at h
      · rename_i hlen
        cases h
        exact ⟨rfl, rfl, h4.1, Or.inr ⟨rfl, (List.take_append_drop _ _).symm, htk, rfl, hlen⟩⟩
      · cases h
    · cases h
  · cases h
set_option maxHeartbeats 4000000 in
theorem aAct_call {I : Instr} {t pc' : Nat} {L : aL} {rest : List Value} (hA : aAct mi pc I ls st σ = some (.inr (.inr (t, L, pc', rest)))) : pc' = pc + 3 ∧ rest.length ≤ 4 ∧ ∃ i k w, aLk lM (aOwn mi) i = some (t, k, w) ∧ ((I = .invokevirtual i ∧ k = 0 ∧ aRecv t st σ L rest) ∨ (I = .invokespecial i ∧ (k = 2 ∨ k = 3) ∧ aRecv t st σ L rest) ∨ (I = .invokestatic i ∧ (k = 1 ∨ k = 4) ∧ aStat t st L rest)) := by
  cases I
  case invokevirtual i =>
    simp only [aAct] at hA
    split at hA
    · rename_i t2 k w hl
      split at hA
      · rename_i hk
        obtain ⟨rfl, rfl, h4, h⟩ := aDo_inv hA
        rcases h with ⟨-, h⟩ | ⟨h, -⟩
        · exact ⟨rfl, h4, i, k, w, hl, Or.inl ⟨rfl, hk, h⟩⟩
        · cases h
      · cases hA
    · cases hA
  case invokespecial i =>
    simp only [aAct] at hA
    split at hA
    · rename_i t2 k w hl
      split at hA
      · rename_i hk
        obtain ⟨rfl, rfl, h4, h⟩ := aDo_inv hA
        rcases h with ⟨-, h⟩ | ⟨h, -⟩
        · exact ⟨rfl, h4, i, k, w, hl, Or.inr (Or.inl ⟨rfl, hk, h⟩)⟩
        · cases h
      · simp only [aObj, aGo] at hA
        repeat' split at hA
        all_goals cases hA
    · cases hA
  case invokestatic i =>
    simp only [aAct] at hA
    split at hA
    · rename_i t2 k w hl
      split at hA
      · rename_i hk
        obtain ⟨rfl, rfl, h4, h⟩ := aDo_inv hA
        rcases h with ⟨h, -⟩ | ⟨-, h⟩
        · cases h
        · exact ⟨rfl, h4, i, k, w, hl, Or.inr (Or.inr ⟨rfl, hk, h⟩)⟩
      · simp only [aCpy, aMin, aGo] at hA
        repeat' split at hA
        all_goals cases hA
    · cases hA
  all_goals (simp only [aAct, aLd, aS1, aS2, aB2, aB2J, aBr, aSw, aGo, aGetF, aPutF, aIld, aIst, aQld, aQst, aLen, aCpy, aMin, aObj] at hA)
  all_goals (try (repeat' split at hA))
  all_goals (cases hA; done)
end AUP
def aUp (call : aC) : Prop := ∀ (t : Nat) (L : aL) (σ : aS) (Q : aQ), call t L σ Q → ∃ r s, Q r s ∧ σ.2.1 ≤ s.2.1 ∧ σ.2.2 ≤ s.2.2
theorem aRun_up {call : aC} (h : aUp call) (mi : Nat) : ∀ (n pc : Nat) (ls : aL) (st : List Value) (σ : aS) (Q : aQ), aRun call mi n pc ls st σ Q → ∃ r s, Q r s ∧ σ.2.1 ≤ s.2.1 ∧ σ.2.2 ≤ s.2.2
  | 0, _, _, _, _, _, hr => hr.elim
  | n + 1, pc, ls, st, σ, Q, hr => by
    unfold aRun at hr
    split at hr
    · rename_i x hx
      obtain ⟨r, s, hq, h1, h2⟩ := aRun_up h mi n _ _ _ _ _ hr
      unfold aAt at hx
      split at hx
      · obtain ⟨g1, g2⟩ := aAct_up hx
        exact ⟨r, s, hq, Nat.le_trans g1 h1, Nat.le_trans g2 h2⟩
      · cases hx
    · rename_i x hx
      unfold aAt at hx
      split at hx
      · obtain ⟨r, s⟩ := x
        obtain ⟨rfl, -⟩ := aAct_ret hx
        exact ⟨r, _, hr, Nat.le_refl _, Nat.le_refl _⟩
      · cases hx
    · obtain ⟨r, s, hq, h1, h2⟩ := h _ _ _ _ hr
      obtain ⟨r2, s2, hq2, h3, h4⟩ := aRun_up h mi n _ _ _ _ _ hq
      exact ⟨r2, s2, hq2, Nat.le_trans h1 h3, Nat.le_trans h2 h4⟩
    · exact hr.elim
theorem aCall_up : ∀ d, aUp (aCall d)
  | 0 => fun _ _ _ _ h => h.elim
  | d + 1 => fun mi L σ Q h => by
    obtain ⟨n, hn⟩ := h
    exact aRun_up (aCall_up d) mi n _ _ _ _ _ hn
-- contracts
def aWs (t : Nat) : List Cond := Cond.code (aRec t).1 (aRec t).2.1 (aRec t).2.2.1 (aRec t).2.2.2.1 :: aTbl
def aRoom (d mc ms : Nat) : Room := { frames := d + 1, cells := mc, slots := ms, locals := 37 * (d + 1) }
def aPc (D : va_G) (c : Nat → ClassId) (lo : Nat) (σ : aS) (vs : List Value) : Array Value → State → Prop := va_Pc vs (fun U => aRel D c lo U σ U.heap ∧ aFix D c U)
def aQc' (D : va_G) (c : Nat → ClassId) (lo : Nat) (r : Option Value) (σ : aS) : Array Value → State → Outcome → State → Prop := fun _ st o t => o = .returned r ∧ aRel D c lo t σ t.heap ∧ va_F (fun q : Nat => lo ≤ q) st t
def aMetAt (l : Launch) (D : va_G) (c : Nat → ClassId) (lo d : Nat) : Prop := ∀ (t : Nat), t < aMethsC.length → ∀ (vs : List Value) (σ : aS) (r : Option Value) (σ2 : aS), aX d t 0 (aentry (aMax t) vs) [] σ (fun r' s' => r' = r ∧ s' = σ2) → (aargs vs).length ≤ aMax t →
  Met l (aRec t).1 (aWs t) (aRoom d (σ2.2.1 - σ.2.1) (σ2.2.2 - σ.2.2)) (aPc D c lo σ vs) (aQc' D c lo r σ2) (σ2.2.1 - σ.2.1) (σ2.2.2 - σ.2.2) (fun q : Nat => lo ≤ q)
theorem aPc_blind (D : va_G) (c : Nat → ClassId) (lo : Nat) (σ : aS) (vs : List Value) : FrameBlind (aPc D c lo σ vs) := fun a U g mk h =>
  ⟨h.1, h.2.1.moved (U := U.calling g mk a) (Vm.Alike.refl U.vm), h.2.2.same (U := U.calling g mk a) rfl⟩
theorem aRec_mem {t : Nat} (h : t < aMethsC.length) : aRec t ∈ aMethsC := by
  have h2 : aMethsC.length ≤ aMeths.length := by decide +kernel
  have hm : t < aMeths.length := Nat.lt_of_lt_of_le h h2
  have e2 : aRec t = aMeths[t] := by unfold aRec; rw [List.getD_eq_getElem?_getD, List.getElem?_eq_getElem hm]; rfl
  have e3 : aMethsC[t]? = aMeths[t]? := by
    unfold aMethsC
    rw [List.getElem?_take, if_pos]
    unfold aMethsC at h
    rw [List.length_take] at h
    omega
  rw [e2]
  exact List.mem_of_getElem? (by rw [e3]; exact List.getElem?_eq_getElem hm)
theorem aCls_all : ∀ t ∈ aMethsC, t.1.cls = aClass t.2.2.2.2.1 ∧ (t.2.2.2.2.2.2.1 ≠ 1 → t.2.2.2.2.1 < 7 ∧ t.1.cls = (aNw t.2.2.2.2.1).1) ∧ plainName t.1.cls = true := by decide +kernel
theorem aGood_in (t : Nat) (h : t < aMethsC.length) : GoodIn aTbl (aWs t) := by
  intro w hw
  have hM := aMs_ok _ (aRec_mem h)
  rcases List.mem_cons.mp hw with rfl | hw
  · exact ⟨aTbl_in hM.1 hM.2.1, good_of_word hM.2.1⟩
  · exact ⟨hw, good_of_word (List.mem_filter.mp hw).2⟩
theorem aRm {x d n : Nat} (h : x ≤ 18) (h2 : 37 * (d + 2) ≤ n) : 8 + (x + 11) + 37 * (d + 1) ≤ n := by omega
section AWC
variable {p : Program} {l : Launch} {e : Env} {R : Room} {s : State} {m : MethodId} {args : Array Value} {below : List Frame} {meth : Method} {cd : Code} {H : Heap} {locs : List Loc} {Z : State → Prop}
variable {D : va_G} {c : Nat → ClassId} {lo mi h0 s0 : Nat} {arr : Array Slot} {pc : Nat} {ls : aL} {st : List Value} {σ : aS}
theorem aW_run1 {cells slots mc ms : Nat} {rest : List Value} {r : Option Value} {σ2 : aS} {a : Array Value} (hr : va_Run p l e R s m args below meth cd H locs cells slots mc ms (F0 m pc arr st) rest (aQc' D c lo r σ2 a) (fun q : Nat => lo ≤ q)) (hS : va_S (fun q : Nat => lo ≤ q) s.heap H locs)
    (kk : ∀ (H1 : Heap) (locs1 : List Loc), aRel D c lo s σ2 H1 → va_S (fun q : Nat => lo ≤ q) s.heap H1 locs1 → W p l e R s m args below meth cd H1 locs1 (cells + mc) (slots + ms) Z (F0 m (pc + 3) arr (aret r rest))) : W p l e R s m args below meth cd H locs cells slots Z (F0 m pc arr st) := by
  intro T hT X
  obtain ⟨v, st₀, t, T', L, e0, X', hL, e1, e2, ⟨hv, hrel, hz, hk⟩, stp⟩ := hr T hT X
  cases hv
  rw [e0] at hz hk
  have ha : t.vm.Alike s.vm := by rw [← e2]; exact X'.warmed.alike.symm
  have hret : aret r rest = r.toList ++ rest := by cases r <;> rfl
  obtain ⟨t2, a1, b1⟩ := kk T'.heap (locs ++ L) (by rw [e1]; exact hrel.moved ha)
    ⟨Nat.le_trans hS.1 (by rw [e1]; exact hz), fun q h1 h2 => by rw [e1, hk q (Nat.lt_of_lt_of_le h1 hS.1) h2]; exact hS.2.1 q h1 h2, fun q hq => by
      rcases List.mem_append.mp hq with h | h
      · exact hS.2.2 q h
      · exact hL q h⟩ T' rfl X'
  rw [hret] at a1
  exact ⟨t2, stp t2 a1, b1⟩
theorem aW_call (C : aCtx D c p s args m meth cd mi) {d : Nat} (hM : aMetAt l D c lo d) (hfr : d + 2 ≤ R.frames) (hlo : 37 * (d + 2) ≤ R.locals) {t pc' : Nat} {L : aL} {rest : List Value} (hA : aAt mi pc ls st σ = some (.inr (.inr (t, L, pc', rest)))) (hl : aLs arr (aMax mi) ls) (hR : aRel D c lo s σ H) (hS : va_S (fun q : Nat => lo ≤ q) s.heap H locs)
    {r : Option Value} {σ2 : aS} (hX : aX d t 0 L [] σ (fun r' s' => r' = r ∧ s' = σ2)) (hh : h0 ≤ σ.2.1 ∧ s0 ≤ σ.2.2) (hu : σ.2.1 ≤ σ2.2.1 ∧ σ.2.2 ≤ σ2.2.2) (hc : σ2.2.1 - h0 ≤ R.cells ∧ σ2.2.2 - s0 ≤ R.slots)
    (kk : aKo D c lo mi p l e R s m args below meth cd h0 s0 Z pc' ls (aret r rest) σ2) : aW p l e R s m args below meth cd h0 s0 Z H locs σ pc arr st := by
  unfold aAt at hA
  split at hA
  · rename_i q hq
    obtain ⟨hd, hn⟩ := aCode_dec hq
    obtain ⟨I, n⟩ := q
    obtain ⟨hx, hb, hml, hown, hr, hts, hlk, hin, hF⟩ := id C
    have hfit : (σ.2.1 - h0) + (σ2.2.1 - σ.2.1) ≤ R.cells ∧ (σ.2.2 - s0) + (σ2.2.2 - σ.2.2) ≤ R.slots := by omega
    have hcc : σ2.2.1 - h0 = (σ.2.1 - h0) + (σ2.2.1 - σ.2.1) := by omega
    have hss : σ2.2.2 - s0 = (σ.2.2 - s0) + (σ2.2.2 - σ.2.2) := by omega
    obtain ⟨rfl, h4, i, k, w, hlM, hkind⟩ := aAct_call hA
    obtain ⟨hw1, hw2, -, -, -, -, hw3⟩ := lM_ok _ (aLk_mem _ _ _ _ hlM)
    have hk5 : k < 5 := by rcases hkind with ⟨-, rfl, -⟩ | ⟨-, rfl | rfl, -⟩ | ⟨-, rfl | rfl, -⟩ <;> decide
    obtain ⟨ht, hkd⟩ := hw3 hk5
    have htl : t < aMethsC.length := ht
    have hmem := aRec_mem htl
    have hMO := aMs_ok _ hmem
    have hCl := aCls_all _ hmem
    have hGI := aGood_in t htl
    have h8 := aCats8 h4
    obtain ⟨m1, m2, m3, m4, m5, m6, m7, m8, m9, m10, m11⟩ := hMO
    have hdd : (aRec t).1.cls ≠ "java/lang/invoke/MethodHandle" ∧ (aRec t).1.cls ≠ "java/lang/invoke/VarHandle" ∧ (parseMethodDescriptor (aRec t).1.desc).map (fun d => d.parameters.length) = some (aArg t) := ⟨m8, m9, m10⟩
    have hini : (Cond.initialized (aRec t).1.cls).before args s = true := hts _ (aTbl_in m6.1 m6.2)
    have hRm : (aRoom d (σ2.2.1 - σ.2.1) (σ2.2.2 - σ.2.2)).frames + 1 ≤ R.frames ∧ 8 + ((aRec t).2.2.1 + 11) + (aRoom d (σ2.2.1 - σ.2.1) (σ2.2.2 - σ.2.2)).locals ≤ R.locals := ⟨hfr, aRm m11 hlo⟩
    have hS5 : CallFix p m cd (aRec mi).2.1 (aMax mi) s args aTbl (aClass (aOwn mi)) := ⟨hx, hb, hml, hown, hts⟩
    have hkk : ∀ (H1 : Heap) (locs1 : List Loc), aRel D c lo s σ2 H1 → va_S (fun q : Nat => lo ≤ q) s.heap H1 locs1 → W p l e R s m args below meth cd H1 locs1 ((σ.2.1 - h0) + (σ2.2.1 - σ.2.1)) ((σ.2.2 - s0) + (σ2.2.2 - σ.2.2)) Z (F0 m (pc + 3) arr (aret r rest)) := by
      intro H1 locs1 g1 g2
      have kz := kk arr H1 locs1 hl g1 g2
      unfold aW at kz
      rw [hcc, hss] at kz
      exact kz
    have hkd2 : (aRec t).2.2.2.2.2.2.1 = (if k = 3 then 2 else if k = 4 then 1 else k) := hkd
    have hPS : ∀ vs : List Value, PreS s H (aPc D c lo σ vs) vs := fun vs => ⟨aPc_blind D c lo σ vs, fun U hU hW => ⟨rfl, by rw [hU]; exact hR.moved hW.alike, hF.warm hW⟩⟩
    have hrw : 2 * (F0 m pc arr st).monitorRoom + (rest.map fun v => v.category).sum ≤ 8 := lv_room h8
    rcases hkind with ⟨rfl, rfl, b, fs, hst, htk, hbc, rfl, hla⟩ | ⟨rfl, hk, b, fs, hst, htk, hbc, rfl, hla⟩ | ⟨rfl, hk, hst, htk, rfl, hla⟩
    · simp only [aLenOK, beq_iff_eq] at hn
      subst hn
      have hknd : (aRec t).2.2.2.2.2.2.1 = 0 := hkd2
      have hMet := hM t htl _ σ r σ2 hX hla
      obtain ⟨g1, g2⟩ := hw1 (Or.inl rfl)
      obtain ⟨g3, g4⟩ := hCl.2.1 (by rw [hknd]; decide)
      rw [if_neg (by rw [hknd]; decide)] at m3
      have hsel := m4 hknd
      refine aW_run1 (va_runV hS5 hMet ⟨callB_of (aArg t) hts hGI rfl rfl rfl hini (hts _ (aTbl_in g1 g2)) hdd hRm, hts _ (aTbl_in m3.1 m3.2), hts _ (aTbl_in hsel.1 hsel.2)⟩ ⟨aPc_blind _ _ _ _ _, ?_, (hPS _).2⟩ rfl (by rw [List.length_reverse]; exact htk) hl.size (by rw [List.reverse_reverse]; exact hst) hrw hd hfit) hS hkk
      have := va_recv (q0 := 0) (ws := [(b, .inr (aOwn t, fs))]) hF.1 (aP1 (hR.at hbc trivial).2.2) (aNw_at g3) rfl
      rw [g4]
      exact this
    · simp only [aLenOK, beq_iff_eq] at hn
      subst hn
      have hMet := hM t htl _ σ r σ2 hX hla
      have hknd : (aRec t).2.2.2.2.2.2.1 = 2 := by rw [hkd2]; rcases hk with rfl | rfl <;> rfl
      rw [if_neg (by rw [hknd]; decide)] at m3
      obtain ⟨hnm, hrt⟩ := m5 hknd
      have hws : aWs t = Cond.code (aRec t).1 (aRec t).2.1 (aRec t).2.2.1 none :: aTbl := by unfold aWs; rw [hrt]
      rcases hk with rfl | rfl
      · obtain ⟨g1, g2⟩ := hw1 (Or.inr (Or.inr rfl))
        exact aW_run1 (va_runI hS5 hMet ⟨callB_of (aArg t) hts hGI hws rfl rfl hini (hts _ (aTbl_in g1 g2)) hdd hRm, hnm, hts _ (aTbl_in m3.1 m3.2)⟩ (hPS _) rfl (by rw [List.length_reverse]; exact htk) hl.size (by rw [List.reverse_reverse]; exact hst) hrw hd hfit) hS hkk
      · have g1 := hF.2.1 _ (aLk_mem _ _ _ _ hlM) (Or.inl rfl)
        exact aW_run1 (va_runIN hS5 hMet ⟨va_cnB (aArg t) hts hGI hws rfl rfl g1 hini hdd hRm, hnm, hts _ (aTbl_in m3.1 m3.2)⟩ (hPS _) rfl (by rw [List.length_reverse]; exact htk) hl.size (by rw [List.reverse_reverse]; exact hst) hrw hd hfit) hS hkk
    · simp only [aLenOK, beq_iff_eq] at hn
      subst hn
      have hMet := hM t htl _ σ r σ2 hX hla
      have hknd : (aRec t).2.2.2.2.2.2.1 = 1 := by rw [hkd2]; rcases hk with rfl | rfl <;> rfl
      rw [if_pos hknd] at m3
      rcases hk with rfl | rfl
      · obtain ⟨g1, g2⟩ := hw1 (Or.inr (Or.inl rfl))
        exact aW_run1 (va_runS hS5 hMet ⟨callB_of (aArg t) hts hGI rfl rfl rfl hini (hts _ (aTbl_in g1 g2)) hdd hRm, hts _ (aTbl_in m3.1 m3.2)⟩ (hPS _) rfl (by rw [List.length_reverse]; exact htk) hl.size (by rw [List.reverse_reverse]; exact hst) hrw hd hfit) hS hkk
      · have g1 := hF.2.1 _ (aLk_mem _ _ _ _ hlM) (Or.inr rfl)
        exact aW_run1 (va_runSN hS5 hMet ⟨va_cnB (aArg t) hts hGI rfl rfl rfl g1 hini hdd hRm, hts _ (aTbl_in m3.1 m3.2), trivial⟩ (hPS _) rfl (by rw [List.length_reverse]; exact htk) hl.size (by rw [List.reverse_reverse]; exact hst) hrw hd hfit) hS hkk
  · cases hA
/-- a run from anywhere in a method: 'fin' says what its own end is worth -/
theorem aW_all (C : aCtx D c p s args m meth cd mi) {d : Nat} (hM : ∀ d', d = d' + 1 → aMetAt l D c lo d') (hfr : d + 1 ≤ R.frames) (hlo : 37 * (d + 1) ≤ R.locals) {r : Option Value} {σ2 : aS} (hc : σ2.2.1 - h0 ≤ R.cells ∧ σ2.2.2 - s0 ≤ R.slots)
    (fin : ∀ (pc : Nat) (ls : aL) (st : List Value) (arr : Array Slot) (H : Heap) (locs : List Loc), aAt mi pc ls st σ2 = some (.inr (.inl (r, σ2))) → aLs arr (aMax mi) ls → aRel D c lo s σ2 H → va_S (fun q : Nat => lo ≤ q) s.heap H locs → aW p l e R s m args below meth cd h0 s0 Z H locs σ2 pc arr st) :
    ∀ (n pc : Nat) (ls : aL) (st : List Value) (σ : aS) (arr : Array Slot) (H : Heap) (locs : List Loc), aRun (aCall d) mi n pc ls st σ (fun r' s' => r' = r ∧ s' = σ2) → aLs arr (aMax mi) ls → aRel D c lo s σ H → va_S (fun q : Nat => lo ≤ q) s.heap H locs → (h0 ≤ σ.2.1 ∧ s0 ≤ σ.2.2) → aW p l e R s m args below meth cd h0 s0 Z H locs σ pc arr st
  | 0, _, _, _, _, _, _, _, hr, _, _, _, _ => hr.elim
  | n + 1, pc, ls, st, σ, arr, H, locs, hrun, hl, hR, hS, hh => by
    have hup : σ.2.1 ≤ σ2.2.1 ∧ σ.2.2 ≤ σ2.2.2 := by
      obtain ⟨_, _, ⟨-, rfl⟩, g1, g2⟩ := aRun_up (aCall_up d) mi _ _ _ _ _ _ hrun
      exact ⟨g1, g2⟩
    unfold aRun at hrun
    split at hrun
    · rename_i x hx
      obtain ⟨pc', ls', st', σ'⟩ := x
      have hup' : σ'.2.1 ≤ σ2.2.1 ∧ σ'.2.2 ≤ σ2.2.2 := by
        obtain ⟨_, _, ⟨-, rfl⟩, g1, g2⟩ := aRun_up (aCall_up d) mi _ _ _ _ _ _ hrun
        exact ⟨g1, g2⟩
      have hst : σ.2.1 ≤ σ'.2.1 ∧ σ.2.2 ≤ σ'.2.2 := by
        unfold aAt at hx
        split at hx
        · exact aAct_up hx
        · cases hx
      exact aW_step C (by omega) (by omega) hx hl hR hS hh (by omega) (by omega) (fun arr' H' locs' g1 g2 g3 => aW_all C hM hfr hlo hc fin n _ _ _ _ _ _ _ hrun g1 g2 g3 (by omega))
    · rename_i x hx
      obtain ⟨r', σ'⟩ := x
      obtain ⟨rfl, rfl⟩ := hrun
      have hst : σ' = σ := by
        unfold aAt at hx
        split at hx
        · exact (aAct_ret hx).1
        · cases hx
      subst hst
      exact fin _ _ _ _ _ _ hx hl hR hS
    · rename_i x hx
      obtain ⟨t, L, pc', rest⟩ := x
      cases d with
      | zero => exact hrun.elim
      | succ d =>
        have hX : aX d t 0 L [] σ (fun r' σ' => aRun (aCall (d + 1)) mi n pc' ls (aret r' rest) σ' (fun r' s' => r' = r ∧ s' = σ2)) := hrun
        obtain ⟨⟨r1, σ1⟩, hX1, hK⟩ := aX_val hX
        dsimp only at hX1 hK
        have hup1 : σ1.2.1 ≤ σ2.2.1 ∧ σ1.2.2 ≤ σ2.2.2 := by
          obtain ⟨_, _, ⟨-, rfl⟩, g1, g2⟩ := aRun_up (aCall_up (d + 1)) mi _ _ _ _ _ _ hK
          exact ⟨g1, g2⟩
        have hup0 : σ.2.1 ≤ σ1.2.1 ∧ σ.2.2 ≤ σ1.2.2 := by
          obtain ⟨k, hk⟩ := hX1
          obtain ⟨_, _, ⟨-, rfl⟩, g1, g2⟩ := aRun_up (aCall_up d) t _ _ _ _ _ _ hk
          exact ⟨g1, g2⟩
        exact aW_call C (hM d rfl) (by omega) (by omega) hx hl hR hS hX1 hh hup0 (by omega) (fun arr' H' locs' g1 g2 g3 => aW_all C hM hfr hlo hc fin n _ _ _ _ _ _ _ hK g1 g2 g3 (by omega))
    · exact hrun.elim
end AWC
theorem aMet_step (l : Launch) (D : va_G) (c : Nat → ClassId) (lo d : Nat) (hM : ∀ d', d = d' + 1 → aMetAt l D c lo d') : aMetAt l D c lo d := by
  intro t ht vs σ r σ2 hX hla
  have hmem := aRec_mem ht
  have hMO := aMs_ok _ hmem
  have hCl := aCls_all _ hmem
  refine Met.ofW (cc := (aRec t).2.1) (maxL := (aRec t).2.2.1) (ret := (aRec t).2.2.2.1) hCl.2.2 rfl ?_
  intro p e s m args below meth cd s₁ B hml hv
  obtain ⟨rfl, hrel, hfix⟩ := hv
  have hts := atoms_spec (ws := aWs t) B.pre
  have hlocks : meth.locks = false := B.notSynchronized
  have hr : meth.sig.returnType = aRet t := B.returns
  have C : aCtx D c p s vs.toArray m meth cd t := ⟨B.exec, B.bytes, hml, by
    have h1 : s.vm.findClass (aRec t).1.cls = some m.cls := findClass_of_methodNamed B.named
    rw [hCl.1] at h1
    exact h1, hr, fun w hw => hts w (List.mem_cons_of_mem _ hw), hlocks, fun hk => by
    rw [(name_of_methodNamed B.named B.method).1]
    exact (hMO.2.2.2.2.1 hk).1, hfix⟩
  have hl := aLs.entry vs hla
  rw [lg_entry_eq]
  obtain ⟨n, hn⟩ := hX
  have hb : cd.code = (aRec t).2.1 := B.bytes
  have hx : p.tables.exec = Jvm.exec := B.exec
  have key := aW_all (l := l) (e := e) (R := (headSpec (aWs t) (aRoom d (σ2.2.1 - σ.2.1) (σ2.2.2 - σ.2.2))).room) (below := below) (h0 := σ.2.1) (s0 := σ.2.2) (Z := MQ below (aQc' D c lo r σ2) vs.toArray s (σ2.2.1 - σ.2.1) (σ2.2.2 - σ.2.2) (fun q : Nat => lo ≤ q)) C hM (Nat.le_refl _) (Nat.le_refl _) ⟨Nat.le_refl _, Nat.le_refl _⟩ ?_ n 0 _ [] σ _ s.heap [] hn hl hrel va_S.rf ⟨Nat.le_refl _, Nat.le_refl _⟩
  · unfold aW at key
    rw [Nat.sub_self, Nat.sub_self] at key
    exact key
  · intro pc ls st arr H locs hA hl2 hR2 hS2
    unfold aAt at hA
    split at hA
    · rename_i q hq
      obtain ⟨hd, hlen⟩ := aCode_dec hq
      obtain ⟨I, k⟩ := q
      have hqq : ∀ T : State, T.heap = H → s.WarmedH T.vm → aQc' D c lo r σ2 vs.toArray s (.returned r) T := fun T hT hW => ⟨rfl, by rw [hT]; exact hR2.moved hW.alike, hS2.F hT⟩
      rcases (aAct_ret hA).2 with ⟨rfl, v, rfl, rfl, hv⟩ | ⟨rfl, v, nm, rfl, rfl, hv, hrt⟩ | ⟨rfl, rfl, rfl, hrt⟩
      · simp only [aLenOK, beq_iff_eq] at hlen
        subst hlen
        rcases hv with hv | ⟨hv, hnar⟩
        · exact W.zret hx hb (hr.trans hv) rfl hqq hS2.2.2 hd
        · exact W.zret hx hb (hr.trans hv) hnar hqq hS2.2.2 hd
      · simp only [aLenOK, beq_iff_eq] at hlen
        subst hlen
        exact W.aret hx hb (hr.trans hrt) (Or.inl ⟨_, rfl⟩) (aRef_inv hv) hqq hS2.2.2 hd
      · simp only [aLenOK, beq_iff_eq] at hlen
        subst hlen
        exact W.vret hx hb (hr.trans hrt) hqq hS2.2.2 hd
    · cases hA
/-- THE SMALL MACHINE IS SOUND -/
theorem aMet (l : Launch) (D : va_G) (c : Nat → ClassId) (lo : Nat) : ∀ d, aMetAt l D c lo d
  | 0 => aMet_step l D c lo 0 (fun _ h => by omega)
  | d + 1 => aMet_step l D c lo (d + 1) (fun d' h => by
    have : d' = d := by omega
    subst this
    exact aMet l D c lo d')
