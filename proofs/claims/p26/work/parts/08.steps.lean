/-! ONE STEP, every instruction that leads to the next one -/
section AST2
variable {p : Program} {l : Launch} {e : Env} {R : Room} {s : State} {m : MethodId} {args : Array Value} {below : List Frame} {meth : Method} {cd : Code} {H : Heap} {locs : List Loc} {Z : State → Prop}
variable {D : va_G} {c : Nat → ClassId} {lo mi h0 s0 : Nat} {arr : Array Slot} {pc : Nat} {ls : aL} {st : List Value} {σ : aS}
theorem aW_lds (C : aCtx D c p s args m meth cd mi) {i pc' n : Nat} {ls' : aL} {st' : List Value} {σ' : aS} {J : Instr} (hd : decode (aRec mi).2.1 pc = .ok (J, n)) {t : Value → Bool} (h : aLd (pc + n) ls st σ i t = some (.inl (pc', ls', st', σ'))) (hl : aLs arr (aMax mi) ls) (hR : aRel D c lo s σ H) (hS : va_S (fun q : Nat => lo ≤ q) s.heap H locs)
    (kk : aKo D c lo mi p l e R s m args below meth cd h0 s0 Z pc' ls' st' σ')
    (row : ∀ v, t v = true → arr[i]? = some (.val v) → aW p l e R s m args below meth cd h0 s0 Z H locs σ (pc + n) arr (v :: st) → aW p l e R s m args below meth cd h0 s0 Z H locs σ pc arr st) : aW p l e R s m args below meth cd h0 s0 Z H locs σ pc arr st := by
  obtain ⟨v, hv, ht, rfl, rfl, rfl, rfl⟩ := aLd_inv h
  exact row v ht (hl.get hv) (kk _ _ _ hl hR hS)
theorem aW_sts (C : aCtx D c p s args m meth cd mi) {i pc' n : Nat} {ls' : aL} {st' : List Value} {σ' : aS} {t : Value → Bool} (h : aS1 (pc + n) ls st σ i t = some (.inl (pc', ls', st', σ'))) (hl : aLs arr (aMax mi) ls) (hR : aRel D c lo s σ H) (hS : va_S (fun q : Nat => lo ≤ q) s.heap H locs)
    (kk : aKo D c lo mi p l e R s m args below meth cd h0 s0 Z pc' ls' st' σ')
    (row : ∀ v r lv, st = v :: r → t v = true → lv_has arr (aMax mi) lv → i < aMax mi → (∀ arr' : Array Slot, lv_has arr' (aMax mi) ((i, v) :: lv.filter (fun q => !(q.1 == i) && !(q.1 + 1 == i && q.2.category == 2))) → aW p l e R s m args below meth cd h0 s0 Z H locs σ (pc + n) arr' r) → aW p l e R s m args below meth cd h0 s0 Z H locs σ pc arr (v :: r)) : aW p l e R s m args below meth cd h0 s0 Z H locs σ pc arr st := by
  obtain ⟨v, r, rfl, ht, hi, rfl, rfl, rfl, rfl⟩ := aS1_inv h
  obtain ⟨hlen, lv, h1, hm⟩ := id hl
  exact row v _ lv rfl ht h1 (by omega) (fun arr' h2 => kk _ _ _ (aLs.s1 hlen hm (by omega) h2) hR hS)
theorem aW_sts2 (C : aCtx D c p s args m meth cd mi) {i pc' n : Nat} {ls' : aL} {st' : List Value} {σ' : aS} (h : aS2 (pc + n) ls st σ i = some (.inl (pc', ls', st', σ'))) (hl : aLs arr (aMax mi) ls) (hR : aRel D c lo s σ H) (hS : va_S (fun q : Nat => lo ≤ q) s.heap H locs)
    (kk : aKo D c lo mi p l e R s m args below meth cd h0 s0 Z pc' ls' st' σ')
    (row : ∀ v r lv, st = .long v :: r → lv_has arr (aMax mi) lv → i + 1 < aMax mi → (∀ arr' : Array Slot, lv_has arr' (aMax mi) ((i, .long v) :: lv.filter (fun q => !(q.1 == i) && (!(q.1 == i + 1) && !(q.1 + 1 == i && q.2.category == 2)))) → aW p l e R s m args below meth cd h0 s0 Z H locs σ (pc + n) arr' r) → aW p l e R s m args below meth cd h0 s0 Z H locs σ pc arr (.long v :: r)) : aW p l e R s m args below meth cd h0 s0 Z H locs σ pc arr st := by
  obtain ⟨v, r, rfl, hi, rfl, rfl, rfl, rfl⟩ := aS2_inv h
  obtain ⟨hlen, lv, h1, hm⟩ := id hl
  exact row v _ lv rfl h1 (by omega) (fun arr' h2 => kk _ _ _ (aLs.s2 hlen hm (by omega) h2) hR hS)
set_option maxHeartbeats 4000000 in
theorem aW_step (C : aCtx D c p s args m meth cd mi) (hfr : 1 ≤ R.frames) (hlo : 35 ≤ R.locals) {pc' : Nat} {ls' : aL} {st' : List Value} {σ' : aS} (hA : aAt mi pc ls st σ = some (.inl (pc', ls', st', σ'))) (hl : aLs arr (aMax mi) ls) (hR : aRel D c lo s σ H) (hS : va_S (fun q : Nat => lo ≤ q) s.heap H locs) (hh : h0 ≤ σ.2.1 ∧ s0 ≤ σ.2.2) (hc : σ.2.1 - h0 ≤ R.cells ∧ σ.2.2 - s0 ≤ R.slots) (hc' : σ'.2.1 - h0 ≤ R.cells ∧ σ'.2.2 - s0 ≤ R.slots)
    (kk : aKo D c lo mi p l e R s m args below meth cd h0 s0 Z pc' ls' st' σ') : aW p l e R s m args below meth cd h0 s0 Z H locs σ pc arr st := by
  unfold aAt at hA
  split at hA
  · rename_i q hq
    obtain ⟨hd, hn⟩ := aCode_dec hq
    obtain ⟨I, n⟩ := q
    obtain ⟨hx, hb, hml, hown, hr, hts, hlk, hin, hF⟩ := id C
    cases I
    case iconst i =>
      simp only [aLenOK, beq_iff_eq] at hn
      subst hn
      simp only [aAct] at hA
      obtain ⟨rfl, rfl, rfl, rfl⟩ := aGo_inv hA
      exact lv_iconst hx hb hd rfl (kk _ _ _ hl hR hS)
    case bipush i =>
      simp only [aLenOK, beq_iff_eq] at hn
      subst hn
      simp only [aAct] at hA
      obtain ⟨rfl, rfl, rfl, rfl⟩ := aGo_inv hA
      exact lv_bipush hx hb hd rfl (kk _ _ _ hl hR hS)
    case sipush i =>
      simp only [aLenOK, beq_iff_eq] at hn
      subst hn
      simp only [aAct] at hA
      obtain ⟨rfl, rfl, rfl, rfl⟩ := aGo_inv hA
      exact lv_sipush hx hb hd rfl (kk _ _ _ hl hR hS)
    case lconst i =>
      simp only [aLenOK, beq_iff_eq] at hn
      subst hn
      simp only [aAct] at hA
      obtain ⟨rfl, rfl, rfl, rfl⟩ := aGo_inv hA
      exact lv_lconst hx hb hd rfl (kk _ _ _ hl hR hS)
    case aconst_null =>
      simp only [aLenOK, beq_iff_eq] at hn
      subst hn
      simp only [aAct] at hA
      obtain ⟨rfl, rfl, rfl, rfl⟩ := aGo_inv hA
      exact lv_null hx hb hd (kk _ _ _ hl hR hS)
    case ldc_w i =>
      simp only [aLenOK, beq_iff_eq] at hn
      subst hn
      simp only [aAct] at hA
      split at hA
      · rename_i v w hlk2
        obtain ⟨rfl, rfl, rfl, rfl⟩ := aGo_inv hA
        obtain ⟨g1, g2⟩ := lI_ok _ (aLk_mem _ _ _ _ hlk2)
        exact lv_ldcw hx hb hown (hts _ (aTbl_in g1 g2)) hd (kk _ _ _ hl hR hS)
      · cases hA
    case ldc i =>
      simp only [aLenOK, beq_iff_eq] at hn
      subst hn
      simp only [aAct] at hA
      split at hA
      · rename_i v w hlk2
        obtain ⟨rfl, rfl, rfl, rfl⟩ := aGo_inv hA
        obtain ⟨g1, g2⟩ := lI_ok _ (aLk_mem _ _ _ _ hlk2)
        exact lv_ldc hx hb hown (hts _ (aTbl_in g1 g2)) hd (kk _ _ _ hl hR hS)
      · cases hA
    case ldc2_w i =>
      simp only [aLenOK, beq_iff_eq] at hn
      subst hn
      simp only [aAct] at hA
      split at hA
      · rename_i v w hlk2
        obtain ⟨rfl, rfl, rfl, rfl⟩ := aGo_inv hA
        obtain ⟨g1, g2⟩ := lJ_ok _ (aLk_mem _ _ _ _ hlk2)
        exact lv_ldc2 hx hb hown (hts _ (aTbl_in g1 g2)) hd (kk _ _ _ hl hR hS)
      · cases hA
    case iload_n i =>
      simp only [aLenOK, beq_iff_eq] at hn
      subst hn
      simp only [aAct] at hA
      refine aW_lds C hd hA hl hR hS kk (fun v ht hg k => ?_)
      obtain ⟨x, rfl⟩ := aIsI_inv ht
      exact lv_iload_n hx hb hd rfl hg k
    case iload i =>
      simp only [aLenOK, beq_iff_eq] at hn
      subst hn
      simp only [aAct] at hA
      refine aW_lds C hd hA hl hR hS kk (fun v ht hg k => ?_)
      obtain ⟨x, rfl⟩ := aIsI_inv ht
      exact lv_iload hx hb hd hg k
    case lload_n i =>
      simp only [aLenOK, beq_iff_eq] at hn
      subst hn
      simp only [aAct] at hA
      refine aW_lds C hd hA hl hR hS kk (fun v ht hg k => ?_)
      obtain ⟨x, rfl⟩ := aIsJ_inv ht
      exact lv_lload_n hx hb hd rfl hg k
    case lload i =>
      simp only [aLenOK, beq_iff_eq] at hn
      subst hn
      simp only [aAct] at hA
      refine aW_lds C hd hA hl hR hS kk (fun v ht hg k => ?_)
      obtain ⟨x, rfl⟩ := aIsJ_inv ht
      exact lv_lload hx hb hd hg k
    case aload_n i =>
      simp only [aLenOK, beq_iff_eq] at hn
      subst hn
      simp only [aAct] at hA
      refine aW_lds C hd hA hl hR hS kk (fun v ht hg k => ?_)
      rcases aRef_inv ht with rfl | ⟨x, rfl⟩
      · exact lv_aload_nN hx hb hd rfl hg k
      · exact lv_aload_n hx hb hd rfl hg k
    case aload i =>
      simp only [aLenOK, beq_iff_eq] at hn
      subst hn
      simp only [aAct] at hA
      refine aW_lds C hd hA hl hR hS kk (fun v ht hg k => ?_)
      rcases aRef_inv ht with rfl | ⟨x, rfl⟩
      · exact lv_aloadN hx hb hd hg k
      · exact lv_aload hx hb hd hg k
    case istore_n i =>
      simp only [aLenOK, beq_iff_eq] at hn
      subst hn
      simp only [aAct] at hA
      refine aW_sts C hA hl hR hS kk (fun v r lv hst ht h1 h2 k => ?_)
      obtain ⟨x, rfl⟩ := aIsI_inv ht
      exact lv_istore_n hx hb hd rfl h1 h2 rfl k
    case istore i =>
      simp only [aLenOK, beq_iff_eq] at hn
      subst hn
      simp only [aAct] at hA
      refine aW_sts C hA hl hR hS kk (fun v r lv hst ht h1 h2 k => ?_)
      obtain ⟨x, rfl⟩ := aIsI_inv ht
      exact lv_istore hx hb hd h1 h2 rfl k
    case astore_n i =>
      simp only [aLenOK, beq_iff_eq] at hn
      subst hn
      simp only [aAct] at hA
      refine aW_sts C hA hl hR hS kk (fun v r lv hst ht h1 h2 k => ?_)
      rcases aRef_inv ht with rfl | ⟨x, rfl⟩
      · exact lv_astore_nN hx hb hd rfl h1 h2 rfl k
      · exact lv_astore_n hx hb hd rfl h1 h2 rfl k
    case astore i =>
      simp only [aLenOK, beq_iff_eq] at hn
      subst hn
      simp only [aAct] at hA
      refine aW_sts C hA hl hR hS kk (fun v r lv hst ht h1 h2 k => ?_)
      rcases aRef_inv ht with rfl | ⟨x, rfl⟩
      · exact lv_astoreN hx hb hd h1 h2 rfl k
      · exact lv_astore hx hb hd h1 h2 rfl k
    case lstore_n i =>
      simp only [aLenOK, beq_iff_eq] at hn
      subst hn
      simp only [aAct] at hA
      refine aW_sts2 C hA hl hR hS kk (fun v r lv hst h1 h2 k => ?_)
      exact lv_lstore_n hx hb hd rfl h1 h2 rfl k
    case lstore i =>
      simp only [aLenOK, beq_iff_eq] at hn
      subst hn
      simp only [aAct] at hA
      refine aW_sts2 C hA hl hR hS kk (fun v r lv hst h1 h2 k => ?_)
      exact lv_lstore hx hb hd h1 h2 rfl k
    case iinc i k =>
      simp only [aLenOK, beq_iff_eq] at hn
      subst hn
      simp only [aAct] at hA
      split at hA
      · rename_i x hxi
        obtain ⟨rfl, rfl, rfl, rfl⟩ := aGo_inv hA
        obtain ⟨hlen, lv, h1, hm⟩ := id hl
        obtain ⟨kx, hkx⟩ := List.getElem?_of_mem (hm _ _ hxi)
        have hi := (List.getElem?_eq_some_iff.mp hxi).1
        exact lv_iinc hx hb hd h1 hkx rfl (by omega) rfl (fun arr2 h2 => kk _ _ _ (aLs.s1 hlen hm (by omega) h2) hR hS)
      · cases hA
    case iadd =>
      simp only [aLenOK, beq_iff_eq] at hn
      subst hn
      simp only [aAct] at hA
      obtain ⟨x, y, r, rfl, rfl, rfl, rfl, rfl⟩ := aB2_inv hA
      exact lv_iadd hx hb hd (kk _ _ _ hl hR hS)
    case isub =>
      simp only [aLenOK, beq_iff_eq] at hn
      subst hn
      simp only [aAct] at hA
      obtain ⟨x, y, r, rfl, rfl, rfl, rfl, rfl⟩ := aB2_inv hA
      exact lv_isub hx hb hd (kk _ _ _ hl hR hS)
    case imul =>
      simp only [aLenOK, beq_iff_eq] at hn
      subst hn
      simp only [aAct] at hA
      obtain ⟨x, y, r, rfl, rfl, rfl, rfl, rfl⟩ := aB2_inv hA
      exact lv_imul hx hb hd (kk _ _ _ hl hR hS)
    case iand =>
      simp only [aLenOK, beq_iff_eq] at hn
      subst hn
      simp only [aAct] at hA
      obtain ⟨x, y, r, rfl, rfl, rfl, rfl, rfl⟩ := aB2_inv hA
      exact lv_iand hx hb hd (kk _ _ _ hl hR hS)
    case ior =>
      simp only [aLenOK, beq_iff_eq] at hn
      subst hn
      simp only [aAct] at hA
      obtain ⟨x, y, r, rfl, rfl, rfl, rfl, rfl⟩ := aB2_inv hA
      exact lv_ior hx hb hd (kk _ _ _ hl hR hS)
    case ixor =>
      simp only [aLenOK, beq_iff_eq] at hn
      subst hn
      simp only [aAct] at hA
      obtain ⟨x, y, r, rfl, rfl, rfl, rfl, rfl⟩ := aB2_inv hA
      exact lv_ixor hx hb hd (kk _ _ _ hl hR hS)
    case ishl =>
      simp only [aLenOK, beq_iff_eq] at hn
      subst hn
      simp only [aAct] at hA
      obtain ⟨x, y, r, rfl, rfl, rfl, rfl, rfl⟩ := aB2_inv hA
      exact lv_ishl hx hb hd (kk _ _ _ hl hR hS)
    case ishr =>
      simp only [aLenOK, beq_iff_eq] at hn
      subst hn
      simp only [aAct] at hA
      obtain ⟨x, y, r, rfl, rfl, rfl, rfl, rfl⟩ := aB2_inv hA
      exact lv_ishr hx hb hd (kk _ _ _ hl hR hS)
    case iushr =>
      simp only [aLenOK, beq_iff_eq] at hn
      subst hn
      simp only [aAct] at hA
      obtain ⟨x, y, r, rfl, rfl, rfl, rfl, rfl⟩ := aB2_inv hA
      exact lv_iushr hx hb hd rfl (kk _ _ _ hl hR hS)
    case land =>
      simp only [aLenOK, beq_iff_eq] at hn
      subst hn
      simp only [aAct] at hA
      obtain ⟨x, y, r, rfl, rfl, rfl, rfl, rfl⟩ := aB2J_inv hA
      exact lv_land hx hb hd (kk _ _ _ hl hR hS)
    case lor =>
      simp only [aLenOK, beq_iff_eq] at hn
      subst hn
      simp only [aAct] at hA
      obtain ⟨x, y, r, rfl, rfl, rfl, rfl, rfl⟩ := aB2J_inv hA
      exact lv_lor hx hb hd (kk _ _ _ hl hR hS)
    case idiv =>
      simp only [aLenOK, beq_iff_eq] at hn
      subst hn
      simp only [aAct] at hA
      split at hA
      · split at hA
        · cases hA
        · rename_i hy
          obtain ⟨rfl, rfl, rfl, rfl⟩ := aGo_inv hA
          exact lv_idiv hx hb hd hy (kk _ _ _ hl hR hS)
      · cases hA
    case irem =>
      simp only [aLenOK, beq_iff_eq] at hn
      subst hn
      simp only [aAct] at hA
      split at hA
      · split at hA
        · cases hA
        · rename_i hy
          obtain ⟨rfl, rfl, rfl, rfl⟩ := aGo_inv hA
          exact lv_irem hx hb hd hy (kk _ _ _ hl hR hS)
      · cases hA
    case lshl =>
      simp only [aLenOK, beq_iff_eq] at hn
      subst hn
      simp only [aAct] at hA
      split at hA
      · obtain ⟨rfl, rfl, rfl, rfl⟩ := aGo_inv hA
        exact lv_lshl hx hb hd rfl (kk _ _ _ hl hR hS)
      · cases hA
    case lushr =>
      simp only [aLenOK, beq_iff_eq] at hn
      subst hn
      simp only [aAct] at hA
      split at hA
      · obtain ⟨rfl, rfl, rfl, rfl⟩ := aGo_inv hA
        exact lv_lushr hx hb hd rfl (kk _ _ _ hl hR hS)
      · cases hA
    case lcmp =>
      simp only [aLenOK, beq_iff_eq] at hn
      subst hn
      simp only [aAct] at hA
      split at hA
      · obtain ⟨rfl, rfl, rfl, rfl⟩ := aGo_inv hA
        exact W.lcmp hx hb hd (kk _ _ _ hl hR hS)
      · cases hA
    case i2l =>
      simp only [aLenOK, beq_iff_eq] at hn
      subst hn
      simp only [aAct] at hA
      split at hA
      · obtain ⟨rfl, rfl, rfl, rfl⟩ := aGo_inv hA
        exact lv_i2l hx hb hd rfl (kk _ _ _ hl hR hS)
      · cases hA
    case l2i =>
      simp only [aLenOK, beq_iff_eq] at hn
      subst hn
      simp only [aAct] at hA
      split at hA
      · obtain ⟨rfl, rfl, rfl, rfl⟩ := aGo_inv hA
        exact lv_l2i hx hb hd rfl (kk _ _ _ hl hR hS)
      · cases hA
    case dup =>
      simp only [aLenOK, beq_iff_eq] at hn
      subst hn
      simp only [aAct] at hA
      split at hA
      · split at hA
        · rename_i hv
          obtain ⟨rfl, rfl, rfl, rfl⟩ := aGo_inv hA
          exact lv_dup hx hb hd hv (kk _ _ _ hl hR hS)
        · cases hA
      · cases hA
    case pop =>
      simp only [aLenOK, beq_iff_eq] at hn
      subst hn
      simp only [aAct] at hA
      split at hA
      · split at hA
        · rename_i hv
          obtain ⟨rfl, rfl, rfl, rfl⟩ := aGo_inv hA
          exact lv_pop hx hb hd hv (kk _ _ _ hl hR hS)
        · cases hA
      · cases hA
    case dup2 =>
      simp only [aLenOK, beq_iff_eq] at hn
      subst hn
      simp only [aAct] at hA
      split at hA
      · split at hA
        · rename_i hv
          obtain ⟨rfl, rfl, rfl, rfl⟩ := aGo_inv hA
          exact lv_dup2_11 hx hb hd hv.1 hv.2 (kk _ _ _ hl hR hS)
        · cases hA
      · cases hA
    case dup_x2 =>
      simp only [aLenOK, beq_iff_eq] at hn
      subst hn
      simp only [aAct] at hA
      split at hA
      · split at hA
        · rename_i hv
          obtain ⟨rfl, rfl, rfl, rfl⟩ := aGo_inv hA
          exact lv_dup_x2 hx hb hd hv.1 hv.2.1 hv.2.2 (kk _ _ _ hl hR hS)
        · cases hA
      · cases hA
    case ifCond cc off =>
      simp only [aLenOK, beq_iff_eq] at hn
      subst hn
      simp only [aAct] at hA
      split at hA
      · obtain ⟨ht, hp, rfl, rfl, rfl⟩ := aBr_inv hA
        have hk2 := aBr_use (P := fun q => aW p l e R s m args below meth cd h0 s0 Z H locs σ' q arr st') hp (kk _ _ _ hl hR hS)
        cases cc
        · exact lv_if_eq hx hb hd ht (fun hcc => hk2.1 (by simp [aCmp, hcc])) (fun hcc => hk2.2 (by simp [aCmp, hcc]))
        · exact lv_if_ne hx hb hd ht (fun hcc => hk2.1 (by simp [aCmp, hcc])) (fun hcc => hk2.2 (by simp [aCmp, hcc]))
        · exact lv_if_lt hx hb hd ht (fun hcc => hk2.1 (by simp [aCmp, hcc])) (fun hcc => hk2.2 (by simp [aCmp, hcc]))
        · exact lv_if_ge hx hb hd ht (fun hcc => hk2.1 (by simp [aCmp, hcc])) (fun hcc => hk2.2 (by simp [aCmp, hcc]))
        · exact lv_if_gt hx hb hd ht (fun hcc => hk2.1 (by simp [aCmp, hcc])) (fun hcc => hk2.2 (by simp [aCmp, hcc]))
        · exact lv_if_le hx hb hd ht (fun hcc => hk2.1 (by simp [aCmp, hcc])) (fun hcc => hk2.2 (by simp [aCmp, hcc]))
      · cases hA
    case if_icmp cc off =>
      simp only [aLenOK, beq_iff_eq] at hn
      subst hn
      simp only [aAct] at hA
      split at hA
      · obtain ⟨ht, hp, rfl, rfl, rfl⟩ := aBr_inv hA
        have hk2 := aBr_use (P := fun q => aW p l e R s m args below meth cd h0 s0 Z H locs σ' q arr st') hp (kk _ _ _ hl hR hS)
        cases cc
        · exact lv_icmp_eq hx hb hd ht (fun hcc => hk2.1 (by simp [aCmp, hcc])) (fun hcc => hk2.2 (by simp [aCmp, hcc]))
        · exact lv_icmp_ne hx hb hd ht (fun hcc => hk2.1 (by simp [aCmp, hcc])) (fun hcc => hk2.2 (by simp [aCmp, hcc]))
        · exact lv_icmp_lt hx hb hd ht (fun hcc => hk2.1 (by simp [aCmp, hcc])) (fun hcc => hk2.2 (by simp [aCmp, hcc]))
        · exact lv_icmp_ge hx hb hd ht (fun hcc => hk2.1 (by simp [aCmp, hcc])) (fun hcc => hk2.2 (by simp [aCmp, hcc]))
        · exact lv_icmp_gt hx hb hd ht (fun hcc => hk2.1 (by simp [aCmp, hcc])) (fun hcc => hk2.2 (by simp [aCmp, hcc]))
        · exact lv_icmp_le hx hb hd ht (fun hcc => hk2.1 (by simp [aCmp, hcc])) (fun hcc => hk2.2 (by simp [aCmp, hcc]))
      · cases hA
    case ifnull off =>
      simp only [aLenOK, beq_iff_eq] at hn
      subst hn
      simp only [aAct] at hA
      split at hA
      · obtain ⟨ht, hp, rfl, rfl, rfl⟩ := aBr_inv hA
        rw [if_pos rfl] at hp
        subst hp
        exact lv_ifnullN hx hb hd ht (kk _ _ _ hl hR hS)
      · obtain ⟨ht, hp, rfl, rfl, rfl⟩ := aBr_inv hA
        rw [if_neg (by decide)] at hp
        subst hp
        exact lv_ifnull hx hb hd (kk _ _ _ hl hR hS)
      · cases hA
    case ifnonnull off =>
      simp only [aLenOK, beq_iff_eq] at hn
      subst hn
      simp only [aAct] at hA
      split at hA
      · obtain ⟨ht, hp, rfl, rfl, rfl⟩ := aBr_inv hA
        rw [if_neg (by decide)] at hp
        subst hp
        exact lv_ifnonnullN hx hb hd (kk _ _ _ hl hR hS)
      · obtain ⟨ht, hp, rfl, rfl, rfl⟩ := aBr_inv hA
        rw [if_pos rfl] at hp
        subst hp
        exact lv_ifnonnull hx hb hd ht (kk _ _ _ hl hR hS)
      · cases hA
    case goto off =>
      simp only [aLenOK, beq_iff_eq] at hn
      subst hn
      simp only [aAct] at hA
      obtain ⟨ht, rfl, rfl, rfl, rfl⟩ := aSw_inv hA
      exact lv_goto hx hb hd ht (kk _ _ _ hl hR hS)
    case tableswitch df tlo thi offs =>
      simp only [aAct] at hA
      split at hA
      · split at hA
        · rename_i hx1
          obtain ⟨ht, rfl, rfl, rfl, rfl⟩ := aSw_inv hA
          exact lv_tableOut hx hb hd hx1 ht (kk _ _ _ hl hR hS)
        · rename_i hx1
          split at hA
          · rename_i off ho
            obtain ⟨ht, rfl, rfl, rfl, rfl⟩ := aSw_inv hA
            exact lv_tableIn hx hb hd (fun z => hx1 (Or.inl z)) (fun z => hx1 (Or.inr z)) ho ht (kk _ _ _ hl hR hS)
          · cases hA
      · cases hA
    case lookupswitch df ps =>
      simp only [aAct] at hA
      split at hA
      · split at hA
        · rename_i hx1
          obtain ⟨ht, rfl, rfl, rfl, rfl⟩ := aSw_inv hA
          exact lv_lookup hx hb hd hx1 rfl ht (kk _ _ _ hl hR hS)
        · cases hA
      · cases hA
    case getfield i =>
      simp only [aLenOK, beq_iff_eq] at hn
      subst hn
      simp only [aAct] at hA
      exact aW_getf C hd hA hl hR hS kk
    case putfield i =>
      simp only [aLenOK, beq_iff_eq] at hn
      subst hn
      simp only [aAct] at hA
      exact aW_putf C hd hA hl hR hS kk
    case iaload =>
      simp only [aLenOK, beq_iff_eq] at hn
      subst hn
      simp only [aAct] at hA
      exact aW_iald C hd hA hl hR hS kk
    case iastore =>
      simp only [aLenOK, beq_iff_eq] at hn
      subst hn
      simp only [aAct] at hA
      exact aW_iast C hd hA hl hR hS kk
    case aaload =>
      simp only [aLenOK, beq_iff_eq] at hn
      subst hn
      simp only [aAct] at hA
      exact aW_aald C hd hA hl hR hS kk
    case aastore =>
      simp only [aLenOK, beq_iff_eq] at hn
      subst hn
      simp only [aAct] at hA
      exact aW_aast C hd hA hl hR hS kk
    case arraylength =>
      simp only [aLenOK, beq_iff_eq] at hn
      subst hn
      simp only [aAct] at hA
      exact aW_alen C hd hA hl hR hS kk
    case newarray t =>
      simp only [aLenOK, beq_iff_eq] at hn
      subst hn
      exact aW_newa C hd hA hl hR hS hh hc' kk
    case anewarray i =>
      simp only [aLenOK, beq_iff_eq] at hn
      subst hn
      exact aW_anew C hd hA hl hR hS hh hc' kk
    case new i =>
      simp only [aLenOK, beq_iff_eq] at hn
      subst hn
      exact aW_new C hd hA hl hR hS hh hc' kk
    case invokevirtual i =>
      simp only [aAct] at hA
      split at hA
      · split at hA
        · exact absurd hA aDo_not
        · cases hA
      · cases hA
    case invokespecial i =>
      simp only [aLenOK, beq_iff_eq] at hn
      subst hn
      simp only [aAct] at hA
      split at hA
      · rename_i t k w hlM
        split at hA
        · exact absurd hA aDo_not
        · split at hA
          · rename_i hk5
            obtain ⟨a, r, rfl, h4, rfl, rfl, rfl, rfl⟩ := aObj_inv hA
            obtain ⟨g1, g2⟩ := (lM_ok _ (aLk_mem _ _ _ _ hlM)).2.2.1 hk5
            have h8 := aCats8 h4
            exact W.objInit hx hb hown (hts _ (aTbl_in g1 g2)) (hts _ (aTbl_in aW_objI.1 aW_objI.2)) (hts _ (aTbl_in aW_objC.1 aW_objC.2)) rfl (by rw [hml]; exact hl.size) rfl hd hfr (by show 2 * 0 + _ + 12 ≤ _; omega) (kk _ _ _ hl hR hS)
          · cases hA
      · cases hA
    case invokestatic i =>
      simp only [aLenOK, beq_iff_eq] at hn
      subst hn
      simp only [aAct] at hA
      split at hA
      · rename_i t k w hlM
        split at hA
        · exact absurd hA aDo_not
        · split at hA
          · rename_i hk6
            obtain ⟨g1, g2⟩ := (lM_ok _ (aLk_mem _ _ _ _ hlM)).2.2.2.1 hk6
            exact aW_copy C hfr hlo hd (aTbl_in g1 g2) hA hl hR hS kk
          · split at hA
            · rename_i hk7
              obtain ⟨g1, g2⟩ := (lM_ok _ (aLk_mem _ _ _ _ hlM)).2.2.2.2.1 hk7
              obtain ⟨x, y, r, rfl, h4, rfl, rfl, rfl, rfl⟩ := aMin_inv hA
              have h8 := aCats8 h4
              exact va_mmin hx hb (by rw [hml]; exact hl.size.symm) hown (hts _ (aTbl_in g1 g2)) (hts _ (aTbl_in aW_mmS.1 aW_mmS.2)) (hts _ (aTbl_in aW_mmI.1 aW_mmI.2)) (hts _ (aTbl_in aW_mmC.1 aW_mmC.2)) hfr (by omega) hc.1 hc.2 hd (kk _ _ _ hl hR hS)
            · cases hA
      · cases hA
    case ireturn =>
      simp only [aAct] at hA
      split at hA
      · split at hA <;> cases hA
      · cases hA
    case areturn =>
      simp only [aAct] at hA
      split at hA
      · split at hA <;> cases hA
      · cases hA
    case return_ =>
      simp only [aAct] at hA
      split at hA
      · split at hA <;> cases hA
      · cases hA
    all_goals (simp only [aAct] at hA; cases hA)
  · cases hA
end AST2
