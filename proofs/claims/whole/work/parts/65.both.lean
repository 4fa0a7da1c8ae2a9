/-! THE LAW: the rest, side by side -/
section BO3
variable {d x m : Nat} {σ : aS}
theorem Bo_gen2 {D mi mj : Nat} {L1 L2 : aL} {v : Int32} {st st' : Nat → Int32} {o' rc rc' : Nat} {hi sl sv hi' sl' sv' : Nat → Int32} {L L' : Nat} {sg' pd pd' kp kp' : Nat → Int32} {at' le fi se at2 le2 fi2 se2 : Int32} (hm : x + 423 ≤ m) (hM : MoC σ m (mF m (nI rc) (nI L) at' le fi se) kp hi sl sv pd st) (hcls : ∀ Q : aQ, (∀ σ', ClC σ' x st' o' rc' hi' sl' sv' L' sg' → InV st' rc' hi' sl' sv' L' pd' sg' → (∀ q, (q < x ∨ x + 423 ≤ q) → σ'.1 q = σ.1 q) → σ'.2 = σ.2 → Q (some (.int v)) σ') → aX D mi 0 L1 [] σ Q) (hmod : ∀ (τ : aS) (Q : aQ), Q (some (.int v)) (mT τ m (mF m (nI rc') (nI L') at2 le2 fi2 se2) kp' hi' sl' sv' pd' st') → aX D mj 0 L2 [] (mT τ m (mF m (nI rc) (nI L) at' le fi se) kp hi sl sv pd st) Q) : Bo D mi mj L1 L2 σ x m := by
  refine hcls _ (fun τ hC hV hk h2 => ⟨v, rfl, fun q hq => hk q (by omega), ?_⟩)
  have hMτ : MoC τ m (mF m (nI rc) (nI L) at' le fi se) kp hi sl sv pd st := MoC_keep (fun q hq => hk q (by omega)) hM
  have key := hmod τ (fun r2 τ2 => r2 = some (.int v) ∧ LaI τ2 x m ∧ τ2.2 = σ.2 ∧ ∀ q, q < x → τ2.1 q = σ.1 q) ⟨rfl, LaI_mk hm hC hV, h2, fun q hq => (mT_ne (by omega)).trans (hk q (by omega))⟩
  rw [MoC_T hMτ] at key
  exact key
theorem cK_eq {sg pd : Nat → Int32} {L : Nat} (h : ∀ q, q < L → sg q = pd q) : cK sg L = cK pd L := by
  funext q
  unfold cK
  by_cases g : q < L
  · rw [if_pos g, if_pos g, h q g]
  · rw [if_neg g, if_neg g]
theorem pOK_eq {sg pd : Nat → Int32} {L : Nat} (h : ∀ q, q < L → sg q = pd q) (hp : pOK pd L) : pOK sg L := ⟨hp.1, fun q hq => by rw [h q hq]; exact hp.2 q hq⟩
theorem pC_ok (n : Nat) : ∀ k i, pC n k i ≠ 0 → ∀ j, i ≤ j → j < pC n k i → 33 ≤ pR n j % 256 ∧ pR n j % 256 ≤ 126
  | 0, i, _, j, h1, h2 => by rw [pC] at h2; omega
  | k + 1, i, h, j, h1, h2 => by
    rw [pC] at h h2
    by_cases g0 : pR n i = 0
    · rw [if_pos g0] at h2; omega
    · rw [if_neg g0] at h h2
      by_cases g1 : 33 ≤ pR n i % 256 ∧ pR n i % 256 ≤ 126
      · rw [if_pos g1] at h h2
        by_cases e : j = i
        · subst e; exact g1
        · exact pC_ok n k (i + 1) h j (by omega) h2
      · rw [if_neg g1] at h
        exact absurd rfl h
/-- behind what changes the pad alone -/
theorem ClC_pa {σ' : aS} {st : Nat → Int32} {o rc : Nat} {hi sl sv : Nat → Int32} {L L' : Nat} {sg sg' : Nat → Int32} {po ki fi se : Int32} (hC : ClC σ x st o rc hi sl sv L sg) (hp : PaC σ' (x + 337) L' sg' po ki fi se) (hk : ∀ q, q ≠ x + 337 → q ≠ x + 338 → σ'.1 q = σ.1 q) : ClC σ' x st o rc hi sl sv L' sg' := by
  obtain ⟨h0, h1, ⟨P, h2⟩, h3, h4, -⟩ := hC
  exact ⟨(hk _ (by omega) (by omega)).trans h0, TabR_keep (fun q a b => hk q (by omega) (by omega)) h1, ⟨P, FoS_keep (fun q a b => hk q (by omega) (by omega)) h2⟩, HisR_keep (fun q a b => hk q (by omega) (by omega)) h3, SloR_keep (fun q a b => hk q (by omega) (by omega)) h4, po, ki, fi, se, hp⟩
theorem bo_foretold (hm : x + 423 ≤ m) (hI : LaI σ x m) (a1 a2 : Int32) : Bo (d + 8) iX6_foretold iX7_foretold [some (.ref x), some (.int a1), some (.int a2), none] [some (.ref m), some (.int a1), some (.int a2), none, none] σ x m := by
  obtain ⟨st, o, rc, hi, sl, sv, L, sg, pd, kp, at', le, fi, se, hC, hM, hV⟩ := hI
  obtain ⟨hx, hT, ⟨P, hP⟩, hH, hS, po, ki, fi2, se2, hp⟩ := id hC
  obtain ⟨v1, v2, v3, v4, v5⟩ := id hV
  have hok := v1.1
  have hr := fun i hi => (v2 i hi).1
  have h6 := hH.2.2.1
  obtain ⟨he, c, hc, h12, hb⟩ := id hok
  rcases isA_split c h12 a1 with ⟨a, ha, e⟩ | e
  · subst e
    rcases inR_split 0 3 a2 (by decide) rfl with ⟨w, hw, e2⟩ | e2
    · subst e2
      exact Bo_gen (at2 := at') (le2 := le) (fi2 := fi) (se2 := se) hm hM (fun Q K => cq_fore hx hT hP hok hc h12 ha hw (fun σ' P' y1 y2 => K σ' (ClC_fo hC y1 y2) (fun q hq => y2.1 q (by omega)) y2.2)) (fun τ Q h => (mq_fore hok hc h12 ha hw).mpr h) hV
    · exact Bo_gen hm hM (fun Q K => (cq_foreB hx hT hc h12 ha e2).mpr (K σ hC (fun _ _ => rfl) rfl)) (fun τ Q h => (mq_foreB mU_0 hc h12 ha e2).mpr h) hV
  · exact Bo_gen hm hM (fun Q K => (cq_foreN hx hT hc h12 e).mpr (K σ hC (fun _ _ => rfl) rfl)) (fun τ Q h => (mq_foreN mU_0 hc e).mpr h) hV
theorem bo_bestWord (hm : x + 423 ≤ m) (hI : LaI σ x m) (a1 a2 : Int32) : Bo (d + 8) iX6_bestWord iX7_bestWord [some (.ref x), some (.int a1), some (.int a2), none, none, none, none] [some (.ref m), some (.int a1), some (.int a2), none, none, none, none] σ x m := by
  obtain ⟨st, o, rc, hi, sl, sv, L, sg, pd, kp, at', le, fi, se, hC, hM, hV⟩ := hI
  obtain ⟨hx, hT, ⟨P, hP⟩, hH, hS, po, ki, fi2, se2, hp⟩ := id hC
  obtain ⟨v1, v2, v3, v4, v5⟩ := id hV
  have hok := v1.1
  have hr := fun i hi => (v2 i hi).1
  have h6 := hH.2.2.1
  obtain ⟨he, c, hc, h12, hb⟩ := id hok
  rcases inR_split 0 7 a1 (by decide) rfl with ⟨s, hs, e⟩ | e
  · subst e
    rcases inR_split 0 1 a2 (by decide) rfl with ⟨w, hw, e2⟩ | e2
    · subst e2
      by_cases ht : mTk st (nI s) = true
      · exact Bo_gen (at2 := at') (le2 := le) (fi2 := fi) (se2 := se) hm hM (fun Q K => cq_best hx hT hP he hs hw ht (fun σ' P' y1 y2 => K σ' (ClC_fo hC y1 y2) (fun q hq => y2.1 q (by omega)) y2.2)) (fun τ Q h => (mq_best he hs hw ht).mpr h) hV
      · exact Bo_gen hm hM (fun Q K => (cq_bestE hx hT hs hw (Bool.eq_false_iff.mpr ht)).mpr (K σ hC (fun _ _ => rfl) rfl)) (fun τ Q h => (mq_bestE mU_0 hs hw (Bool.eq_false_iff.mpr ht)).mpr h) hV
    · exact Bo_gen hm hM (fun Q K => (cq_bestB hs e2).mpr (K σ hC (fun _ _ => rfl) rfl)) (fun τ Q h => (mq_bestB hs e2).mpr h) hV
  · exact Bo_gen hm hM (fun Q K => (cq_bestN e).mpr (K σ hC (fun _ _ => rfl) rfl)) (fun τ Q h => (mq_bestN e).mpr h) hV
theorem bo_pointsThen (hm : x + 423 ≤ m) (hI : LaI σ x m) (a1 : Int32) : Bo (d + 8) iX6_pointsThen iX7_pointsThen [some (.ref x), some (.int a1)] [some (.ref m), some (.int a1), none] σ x m := by
  obtain ⟨st, o, rc, hi, sl, sv, L, sg, pd, kp, at', le, fi, se, hC, hM, hV⟩ := hI
  obtain ⟨hx, hT, ⟨P, hP⟩, hH, hS, po, ki, fi2, se2, hp⟩ := id hC
  obtain ⟨v1, v2, v3, v4, v5⟩ := id hV
  have hok := v1.1
  have hr := fun i hi => (v2 i hi).1
  have h6 := hH.2.2.1
  obtain ⟨he, c, hc, h12, hb⟩ := id hok
  rcases inR_split 0 7 a1 (by decide) rfl with ⟨s, hs, e⟩ | e
  · subst e
    exact Bo_gen (at2 := at') (le2 := le) (fi2 := fi) (se2 := se) hm hM (fun Q K => cq_pts hx hT hP hok hc h12 hs (fun σ' P' y1 y2 => K σ' (ClC_fo hC y1 y2) (fun q hq => y2.1 q (by omega)) y2.2)) (fun τ Q h => (mq_pts hok hc h12 hs).mpr h) hV
  · exact Bo_gen hm hM (fun Q K => (cq_ptsN e).mpr (K σ hC (fun _ _ => rfl) rfl)) (fun τ Q h => (mq_ptsN e).mpr h) hV
theorem bo_put (hm : x + 423 ≤ m) (hI : LaI σ x m) {n : Nat} (hn : n < 2 ^ 64) : Bo (d + 8) iX6_put iX7_put [some (.ref x), some (.long (lN n)), none] [some (.ref m), some (.long (lN n)), none, none, none, none, none, none] σ x m := by
  obtain ⟨st, o, rc, hi, sl, sv, L, sg, pd, kp, at', le, fi, se, hC, hM, hV⟩ := hI
  obtain ⟨hx, hT, ⟨P, hP⟩, hH, hS, po, ki, fi2, se2, hp⟩ := id hC
  obtain ⟨v1, v2, v3, v4, v5⟩ := id hV
  have hok := v1.1
  have hr := fun i hi => (v2 i hi).1
  have h6 := hH.2.2.1
  obtain ⟨he, c, hc, h12, hb⟩ := id hok
  have hL := v4.1
  by_cases g : pC n 8 0 = 0
  · exact Bo_gen (v := -2) hm hM (fun Q K => (cs_put hx hp hn hL).mpr (by rw [if_pos g]; exact K σ hC (fun _ _ => rfl) rfl)) (fun τ Q h => (mq_put hn hL).mpr (by rw [if_pos g]; exact h)) hV
  · by_cases g2 : 80 < L + pC n 8 0
    · exact Bo_gen (v := -4) hm hM (fun Q K => (cs_put hx hp hn hL).mpr (by rw [if_neg g, if_pos g2]; exact K σ hC (fun _ _ => rfl) rfl)) (fun τ Q h => (mq_put hn hL).mpr (by rw [if_neg g, if_pos g2]; exact h)) hV
    · refine Bo_gen (v := nI (L + pC n 8 0)) (st' := st) (o' := o) (rc' := rc) (hi' := hi) (sl' := sl) (sv' := sv) (kp' := kp) (at2 := at') (le2 := le) (fi2 := fi) (se2 := se) (L' := L + pC n 8 0) (sg' := cPd sg L n (pC n 8 0) (pC n 8 0)) (pd' := mPd pd L n (pC n 8 0) (pC n 8 0)) hm hM (fun Q K => (cs_put hx hp hn hL).mpr ?_) (fun τ Q h => (mq_put hn hL).mpr (by rw [if_neg g, if_neg g2]; exact h)) ⟨v1, v2, v3, ⟨by omega, fun q hq => ?_⟩, fun q hq => cPd_mPd sg pd v5 hq⟩
      · rw [if_neg g, if_neg g2]
        have hk : ∀ q, q ≠ x + 337 → q ≠ x + 338 → (qP σ (x + 337) (qF (nI (L + pC n 8 0)) po ki fi2 se2) (cPd sg L n (pC n 8 0) (pC n 8 0))).1 q = σ.1 q := fun q g1 g2 => (aput_ne _ _ (by omega)).trans (aput_ne _ _ g1)
        exact K _ (ClC_pa hC ⟨qP_0, qP_1⟩ hk) (fun q hq => hk q (by omega) (by omega)) rfl
      · rw [mPd_at]
        by_cases gq : L ≤ q ∧ q < L + pC n 8 0
        · rw [if_pos gq]
          obtain ⟨k1, k2⟩ := pC_ok n 8 0 g (pC n 8 0 - 1 - (q - L)) (by omega) (by omega)
          exact ⟨_, rfl, k1, k2⟩
        · rw [if_neg gq]
          exact v4.2 q (by omega)
theorem bo_wipe (hm : x + 423 ≤ m) (hI : LaI σ x m) : Bo (d + 8) iX6_wipe iX7_wipe [some (.ref x)] [some (.ref m), none] σ x m := by
  obtain ⟨st, o, rc, hi, sl, sv, L, sg, pd, kp, at', le, fi, se, hC, hM, hV⟩ := hI
  obtain ⟨hx, hT, ⟨P, hP⟩, hH, hS, po, ki, fi2, se2, hp⟩ := id hC
  obtain ⟨v1, v2, v3, v4, v5⟩ := id hV
  have hok := v1.1
  have hr := fun i hi => (v2 i hi).1
  have h6 := hH.2.2.1
  obtain ⟨he, c, hc, h12, hb⟩ := id hok
  have hk : ∀ q, q ≠ x + 337 → q ≠ x + 338 → (qS σ (x + 337) (qF (nI 0) po ki fi2 se2)).1 q = σ.1 q := fun q g1 _ => aput_ne _ _ g1
  exact Bo_gen (v := nI L) (L' := 0) (sg' := sg) (pd' := pd) (st' := st) hm hM (fun Q K => (cs_wipe hx hp).mpr (K _ (ClC_pa hC (PaC_S hp) hk) (fun q hq => hk q (by omega) (by omega)) rfl)) (fun τ Q h => mq_wipe.mpr h) ⟨v1, v2, v3, ⟨by omega, fun q hq => absurd hq (Nat.not_lt_zero q)⟩, fun q hq => absurd hq (Nat.not_lt_zero q)⟩
theorem bo_fault (hm : x + 423 ≤ m) (hI : LaI σ x m) : Bo (d + 8) iX6_fault iX7_fault [some (.ref x)] [some (.ref m)] σ x m := by
  obtain ⟨st, o, rc, hi, sl, sv, L, sg, pd, kp, at', le, fi, se, hC, hM, hV⟩ := hI
  obtain ⟨hx, hT, ⟨P, hP⟩, hH, hS, po, ki, fi2, se2, hp⟩ := id hC
  obtain ⟨v1, v2, v3, v4, v5⟩ := id hV
  have hok := v1.1
  have hr := fun i hi => (v2 i hi).1
  have h6 := hH.2.2.1
  obtain ⟨he, c, hc, h12, hb⟩ := id hok
  have hk : ∀ po ki fi se q, q ≠ x + 337 → q ≠ x + 338 → (qS σ (x + 337) (qF (nI L) po ki fi se)).1 q = σ.1 q := fun po ki fi se q g1 _ => aput_ne _ _ g1
  refine Bo_gen (v := fF (cK pd L) L 81 0 fi se) (o' := o) hm hM (fun Q K => cs_fault hx hp (pOK_eq v5 v4) fi se (fun po ki fi se => ?_)) (fun τ Q h => (mq_fault v4).mpr h) hV
  rw [cK_eq v5]
  exact K _ (ClC_pa hC (PaC_S hp) (hk po ki fi se)) (fun q hq => hk po ki fi se q (by omega) (by omega)) rfl
theorem bo_carryOut (hm : x + 423 ≤ m) (hI : LaI σ x m) : Bo (d + 8) iX6_carryOut iX7_carryOut [some (.ref x), none] [some (.ref m), none, none] σ x m := by
  obtain ⟨st, o, rc, hi, sl, sv, L, sg, pd, kp, at', le, fi, se, hC, hM, hV⟩ := hI
  obtain ⟨hx, hT, ⟨P, hP⟩, hH, hS, po, ki, fi2, se2, hp⟩ := id hC
  obtain ⟨v1, v2, v3, v4, v5⟩ := id hV
  have hok := v1.1
  have hr := fun i hi => (v2 i hi).1
  have h6 := hH.2.2.1
  obtain ⟨he, c, hc, h12, hb⟩ := id hok
  by_cases hF : fF (cK pd L) L 81 0 fi se = -6
  · have hF2 : fF (cK sg L) L 81 0 (rFi (fO (cK pd L) L 81 0 fi se)) (rSe (fO (cK pd L) L 81 0 fi se)) = -6 := by rw [cK_eq v5, fF_ind (cK pd L) L 81 0 _ _ fi se]; exact hF
    refine Bo_gen2 (v := nI (oEnd pd L fi se st).1) (st' := (oEnd pd L fi se st).2.1) (o' := mRecO o rc) (rc' := mRecN rc) (hi' := mRecH hi st rc) (sl' := sl) (sv' := sv) (L' := 0) (sg' := sg) (pd' := pd) (kp' := kp) hm hM (fun Q K => co_carry (rLe (fO (cK pd L) L 81 0 fi se)) (rFi (fO (cK pd L) L 81 0 fi se)) (rSe (fO (cK pd L) L 81 0 fi se)) hx hT hH v1 hr hp (pOK_eq v5 v4) hF2 (fun σ' po' ki' fi' se' y1 y2 y3 y4 y5 y6 => ?_)) (fun τ Q h => (mq_carry v4 h6 hok hF).mpr h)
    rw [cK_eq v5] at y1 y2 ⊢
    have hV2 := InV_rec hV h6 y2
    refine K σ' ⟨(y5 _ (by omega) (by omega)).trans hx, y1, ⟨P, FoS_keep (fun q a b => y5 q (by omega) (by omega)) hP⟩, y3, SloR_keep (fun q a b => y5 q (by omega) (by omega)) hS, _, _, _, _, y4⟩ ⟨hV2.1, hV2.2.1, hV2.2.2.1, ⟨by omega, fun q hq => absurd hq (Nat.not_lt_zero q)⟩, fun q hq => absurd hq (Nat.not_lt_zero q)⟩ (fun q hq => y5 q (by omega) (by omega)) y6
  · have hF2 : ¬ fF (cK sg L) L 81 0 fi se = -6 := by rw [cK_eq v5]; exact hF
    have hk : ∀ po ki fi se q, q ≠ x + 337 → q ≠ x + 338 → (qS σ (x + 337) (qF (nI L) po ki fi se)).1 q = σ.1 q := fun po ki fi se q g1 _ => aput_ne _ _ g1
    exact Bo_gen (v := -3) hm hM (fun Q K => co_carryE hx hp (pOK_eq v5 v4) fi se hF2 (fun po ki fi se => K _ (ClC_pa hC (PaC_S hp) (hk po ki fi se)) (fun q hq => hk po ki fi se q (by omega) (by omega)) rfl)) (fun τ Q h => (mq_carryE v4 hF).mpr h) hV
theorem bo_undo (hm : x + 423 ≤ m) (hI : LaI σ x m) : Bo (d + 8) iX6_undo iX7_undo [some (.ref x)] [some (.ref m)] σ x m := by
  obtain ⟨st, o, rc, hi, sl, sv, L, sg, pd, kp, at', le, fi, se, hC, hM, hV⟩ := hI
  obtain ⟨hx, hT, ⟨P, hP⟩, hH, hS, po, ki, fi2, se2, hp⟩ := id hC
  obtain ⟨v1, v2, v3, v4, v5⟩ := id hV
  have hok := v1.1
  have hr := fun i hi => (v2 i hi).1
  have h6 := hH.2.2.1
  obtain ⟨he, c, hc, h12, hb⟩ := id hok
  rcases Nat.eq_zero_or_pos rc with e | e
  · subst e
    exact Bo_gen (v := -5) hm hM (fun Q K => (cs_undoE hx hH).mpr (K σ hC (fun _ _ => rfl) rfl)) (fun τ Q h => mq_undoN.mpr h) hV
  · have hrow : ∀ k, k < 371 → mMv hi ((rc - 1) * 371) st 0 371 k = hRow hi (rc - 1) k := fun k hk => by
      rw [mMv_at, if_pos (by omega), Nat.sub_zero]
      rfl
    have hKr := v2 (rc - 1) (by omega)
    exact Bo_gen (v := nI (rc - 1)) (st' := mMv hi ((rc - 1) * 371) st 0 371) (o' := o) (rc' := rc - 1) (hi' := hi) hm hM (fun Q K => cs_undo hx hT hH e hr (fun σ' y1 y2 y3 => K σ' (ClC_ch hC (TabR_cong hrow hKr.1 y1) y2 y3) (fun q hq => y3.1 q (by omega)) y3.2)) (fun τ Q h => (mq_undo e h6).mpr h) ⟨mK_cong hrow hKr, fun i hi2 => v2 i (by omega), v3, v4, v5⟩
theorem bo_save (hm : x + 423 ≤ m) (hI : LaI σ x m) (a1 : Int32) : Bo (d + 8) iX6_save iX7_save [some (.ref x), some (.int a1), none] [some (.ref m), some (.int a1)] σ x m := by
  obtain ⟨st, o, rc, hi, sl, sv, L, sg, pd, kp, at', le, fi, se, hC, hM, hV⟩ := hI
  obtain ⟨hx, hT, ⟨P, hP⟩, hH, hS, po, ki, fi2, se2, hp⟩ := id hC
  obtain ⟨v1, v2, v3, v4, v5⟩ := id hV
  have hok := v1.1
  have hr := fun i hi => (v2 i hi).1
  have h6 := hH.2.2.1
  obtain ⟨he, c, hc, h12, hb⟩ := id hok
  have hrs : ∀ s, s < 2 → ¬ sv s = nI 0 → mOK (sRow sl s) := fun s hs h => by
    rcases v3 s hs with e | e
    · exact absurd e h
    · exact e.2.1
  rcases inR_split 0 1 a1 (by decide) rfl with ⟨s, hs, e⟩ | e
  · subst e
    refine Bo_gen (v := st 34) (st' := st) (o' := o) (rc' := rc) (hi' := hi) (sl' := mMv st 0 sl (371 * s) 371) (sv' := upd sv s (nI 1)) (L' := L) (sg' := sg) (pd' := pd) hm hM (fun Q K => cs_save hx hT hS hok hrs (show s < 2 by omega) (fun σ' y1 y2 y3 => K σ' ⟨(y2 _ (by omega)).trans hx, TabR_keep (fun q a b => y2 q (by omega)) hT, ⟨P, FoS_keep (fun q a b => y2 q (by omega)) hP⟩, HisR_keep (fun q a b => y2 q (by omega)) hH, y1, _, _, _, _, PaC_keep (fun q a b => y2 q (by omega)) hp⟩ (fun q hq => y2 q (by omega)) y3)) (fun τ Q h => (mq_save hs).mpr h) ⟨v1, v2, fun s' hs' => ?_, v4, v5⟩
    by_cases e : s' = s
    · subst e
      refine Or.inr ⟨upd_same, mK_cong (fun k hk => ?_) v1⟩
      unfold sRow
      rw [mMv_at, if_pos (by omega), show 0 + (371 * s' + k - 371 * s') = k by omega]
    · rw [upd_ne e]
      refine (v3 s' hs').imp id (fun z => ⟨z.1, mK_cong (fun k hk => ?_) z.2⟩)
      unfold sRow
      rw [mMv_at, if_neg (by omega)]
  · exact Bo_gen hm hM (fun Q K => (cs_saveN hx hS e).mpr (K σ hC (fun _ _ => rfl) rfl)) (fun τ Q h => (mq_saveN e).mpr h) hV
theorem bo_restore (hm : x + 423 ≤ m) (hI : LaI σ x m) (a1 : Int32) : Bo (d + 8) iX6_restore iX7_restore [some (.ref x), some (.int a1), none] [some (.ref m), some (.int a1)] σ x m := by
  obtain ⟨st, o, rc, hi, sl, sv, L, sg, pd, kp, at', le, fi, se, hC, hM, hV⟩ := hI
  obtain ⟨hx, hT, ⟨P, hP⟩, hH, hS, po, ki, fi2, se2, hp⟩ := id hC
  obtain ⟨v1, v2, v3, v4, v5⟩ := id hV
  have hok := v1.1
  have hr := fun i hi => (v2 i hi).1
  have h6 := hH.2.2.1
  obtain ⟨he, c, hc, h12, hb⟩ := id hok
  rcases inR_split 0 1 a1 (by decide) rfl with ⟨s, hs, e⟩ | e
  · subst e
    rcases v3 s (by omega) with e2 | ⟨e2, hKr⟩
    · exact Bo_gen (v := -5) hm hM (fun Q K => (cs_restE hx hS (show s < 2 by omega) e2).mpr (K σ hC (fun _ _ => rfl) rfl)) (fun τ Q h => (mq_restE hs e2).mpr h) hV
    · have hne : ¬ sv s = nI 0 := by rw [e2]; decide
      have hrow : ∀ k, k < 371 → mMv sl (371 * s) st 0 371 k = sRow sl s k := fun k hk => by
        rw [mMv_at, if_pos (by omega), Nat.sub_zero]
        rfl
      refine Bo_gen (v := mMv sl (371 * s) st 0 371 34) (st' := mMv sl (371 * s) st 0 371) (o' := mRecO o rc) (rc' := mRecN rc) (hi' := mRecH hi st rc) hm hM (fun Q K => cs_rest hx hT hH hS hok hr (show s < 2 by omega) hne hKr.1 (fun σ' y1 y2 y3 => ?_)) (fun τ Q h => (mq_rest hs hne h6).mpr h) (InV_rec hV h6 (mK_cong hrow hKr))
      rw [← hrow 34 (by omega)]
      exact K σ' (ClC_ch hC (TabR_cong hrow hKr.1 y1) y2 y3) (fun q hq => y3.1 q (by omega)) y3.2
  · exact Bo_gen hm hM (fun Q K => (cs_restN hx hS e).mpr (K σ hC (fun _ _ => rfl) rfl)) (fun τ Q h => (mq_restN e).mpr h) hV
end BO3
