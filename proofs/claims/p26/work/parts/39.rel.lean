/-! THE CLASS AND THE REFERENCE: an album and its block, a round -/
def albR (b : Nat → Int32) (ow pg hw tn tp : Int32) (f g : Nat → Int32) : Prop := ow = b 0 ∧ pg = b 1 ∧ hw = b 2 ∧ tn = b 3 ∧ (∀ i, i < bN b → f i = b (4 + 3 * i) ∧ g i = b (4 + 3 * i + 1)) ∧ ∀ i, i < 8 → bt tp i = decide (i < bN b ∧ b (4 + 3 * i + 2) = nI 1)
theorem cSet_bSe {b f : Nat → Int32} : ∀ n, (∀ i, i < n → f i = b (4 + 3 * i)) → cSet f n = bSe b n
  | 0, _ => rfl
  | n + 1, h => by rw [cSet, bSe, cSet_bSe n (fun i hi => h i (by omega)), h n (by omega)]
theorem mG_row {st ft : Nat → Int32} {dr : Int32} : ∀ w, (∀ i, i < w → ft i = st i) → mG ft dr w = mG st dr w
  | 0, _ => rfl
  | 1, _ => by simp [mG]
  | w + 2, h => by
    have hl := mG_lt st dr (w + 1) (by omega)
    rw [mG_succ ft dr (by omega), mG_succ st dr (by omega), mG_row (w + 1) (fun i hi => h i (by omega)), h (w + 1) (by omega), h (mG st dr (w + 1)) (by omega)]
theorem mTk_of {st : Nat → Int32} {pl : Int32} {o : Nat} (hst : st 16 = pl) (ho : o < 8) : (mTk st (nI o) = true) = (bt pl o = true) := by rw [mTk_bt st (by omega), hst]
section CR
variable {d : Nat} {σ : aS} {Q : aQ} {t a p : Nat} {ft dr f g P st b : Nat → Int32} {ow pg hw tn tp pl ac ro : Int32}
theorem cc_passOn (h0 : σ.1 t = some (eO 5 (.ref (t + 1) :: tF t pl ac ro))) (hf1 : σ.1 (t + 1) = some (eI 16 ft)) (hf2 : σ.1 (t + 2) = some (eI 8 dr)) (hd : t + 2 < a ∧ t + 2 < p ∧ (p < a ∨ a + 2 < p)) (hft : ∀ w, w < 16 → ft w = st w) (hdr : ∀ s, s < 8 → dr s = st (17 + s)) (hst : st 16 = pl) (hE : eOK st) (hb : bOK b) (hgo : b 2 = nI 0) (hR : albR b ow pg hw tn tp f g) (K : ∀ P' ow pg hw tn tp f g, (∀ j, j < 8 → P' j = P j + bDl st b j) → albR (bStep st b) ow pg hw tn tp f g → Q none (cA (aput σ p (eI 8 P')) a (cF a ow pg hw tn tp) f g)) : aX (d + 3) iX5_passOn 0 [some (.ref t), some (.ref a), some (.ref p), none] [] (cA (aput σ p (eI 8 P)) a (cF a ow pg hw tn tp) f g) Q := by
  obtain ⟨e0, e1, e2, e3, hrow, htp⟩ := hR
  obtain ⟨n, n1, n2, n3, ⟨o, o1, o2⟩, nh, ns, nd, nw, nt, ntn⟩ := id hb
  have eN := bOK_N n1 n3
  rw [eN] at hrow htp
  obtain ⟨s, s1, s2⟩ := ns (n - 1) (by omega)
  obtain ⟨v, v1, v2, v3⟩ := nw (n - 1) (by omega)
  have hl : f (n - 1) = nI s := by rw [(hrow (n - 1) (by omega)).1, s1]
  have hlg : g (n - 1) = nI v := by rw [(hrow (n - 1) (by omega)).2, v1]
  have hLi : bLi b = s := by unfold bLi; rw [eN, s1, nIc (by omega)]
  have hOw : bOw b = o := by unfold bOw; rw [o1, nIc (by omega)]
  have hff : ∀ w, w < 16 → ∃ x, ft w = nI x ∧ x < 4096 := fun w hw => by rw [hft w hw]; exact hE.1 w hw
  have hset : cSet f n = bSe b n := cSet_bSe n (fun i hi => (hrow i hi).1)
  have hnxE : mNx st (cSet f n) s 8 = bNx st b := by unfold bNx; rw [hset, eN, hLi]
  rw [e0, e1, e2, e3, o1, n1, hgo]
  rcases bNx_cases (st := st) hb with hx | ⟨q, hq, hx, hqt, hq7, hqn⟩
  · rw [ct_passOn_end h0 hd hst (by omega) n3 hl s2 o2 (hnxE.trans hx)]
    have hS : bStep st b = upd b 2 (if mTk st (b 0) = true then nI 1 else nI 2) := by unfold bStep; rw [if_pos hgo, if_pos hx]
    have hD : ∀ j, bDl st b j = if mTk st (b 0) = true ∧ bLw b = b 5 ∧ 2 < bN b ∧ j = bOw b then nI 2 else nI 0 := fun j => by unfold bDl; rw [if_pos hgo, if_pos hx]
    have hbN : bN (bStep st b) = n := by rw [hS]; unfold bN; rw [upd_ne (by omega)]; exact eN
    have hRR : ∀ x : Int32, (x = if mTk st (b 0) = true then nI 1 else nI 2) → albR (bStep st b) (nI o) (nI n) x (b 3) tp f g := fun x hxx => by
      unfold albR
      rw [hbN, hS]
      refine ⟨by rw [upd_ne (by omega)]; exact o1.symm, by rw [upd_ne (by omega)]; exact n1.symm, by rw [upd_same]; exact hxx, by rw [upd_ne (by omega)], fun i hi => ?_, fun i hi => ?_⟩
      · rw [upd_ne (by omega), upd_ne (by omega)]; exact hrow i hi
      · rw [upd_ne (by omega)]; exact htp i hi
    have hTk : (mTk st (b 0) = true) = (bt pl o = true) := by rw [o1]; exact mTk_of hst o2
    by_cases gt : bt pl o = true
    · rw [if_pos gt]
      refine K _ _ _ _ _ _ _ _ (fun j hj => ?_) (hRR _ (by rw [if_pos (hTk.mpr gt)]))
      rw [hD, eN, hOw]
      have hlw : bLw b = g ((n - 1) / 2 * 2) := by unfold bLw; rw [eN]; exact ((hrow _ (by omega)).2).symm
      have h5 : b 5 = g 0 := ((hrow 0 (by omega)).2).symm
      rw [hlw, h5]
      unfold cEndP
      by_cases gc : g ((n - 1) / 2 * 2) = g 0 ∧ 2 < n
      · rw [if_pos gc]
        by_cases gj : j = o
        · subst gj
          rw [upd_same, if_pos ⟨hTk.mpr gt, gc.1, gc.2, rfl⟩]
        · rw [upd_ne gj, if_neg (fun z => gj z.2.2.2)]
          rw [nI_0, Int32.add_zero]
      · rw [if_neg gc, if_neg (fun z => gc ⟨z.2.1, z.2.2.1⟩)]
        rw [nI_0, Int32.add_zero]
    · rw [if_neg gt]
      refine K _ _ _ _ _ _ _ _ (fun j hj => ?_) (hRR _ (by rw [if_neg (fun z => gt (hTk.mp z))]))
      rw [hD, if_neg (fun z => gt (hTk.mp z.1)), nI_0, Int32.add_zero]
  · rw [eN] at hq7
    rw [ct_passOn_go h0 hf1 hf2 hd hff hst (by omega) hq7 hl s2 hlg v2 (fun z => v3 (by omega)) hq (hnxE.trans hx)]
    have h6 : ¬ bNx st b = -6 := by rw [hx]; exact of_eq_false (nI_neg6 (by omega))
    have hqn' : (bNx st b).toNatClampNeg = q := by rw [hx]; exact nIc (by omega)
    have hw : cNew ft dr g n q (b 3) = bNew st b q := by
      unfold cNew bNew
      by_cases h3 : b 3 = -6
      · rw [if_pos h3, if_pos h3]
        unfold cWhat bWhat
        rw [eN]
        by_cases h2 : n % 2 = 0
        · rw [if_pos h2, if_pos h2, (hrow (n - 1) (by omega)).2, mG_row 16 (fun i hi => hft i hi)]
        · have hv := v3 (by omega)
          rw [if_neg h2, if_neg h2, hlg, v1, nIc (by omega), hft v hv, hdr q hq]
      · rw [if_neg h3, if_neg h3]
    have hS : bStep st b = bGo b q (bNew st b q) (if b 3 = -6 then nI 0 else nI 1) := by unfold bStep; rw [if_pos hgo, if_neg h6, hqn']
    have hD : ∀ j, bDl st b j = if n % 2 = 0 ∧ bNew st b q = b (4 + 3 * (n - 2) + 1) then (if j = s then nI 1 else nI 0) + (if j = q then nI 1 else nI 0) else nI 0 := fun j => by unfold bDl; rw [if_pos hgo, if_neg h6, hqn', eN, hLi]
    have hbN : bN (bStep st b) = n + 1 := by
      rw [hS]
      unfold bN bGo
      rw [upd_ne (by omega), upd_same, eN]
      exact nIc (by omega)
    rw [hw]
    refine K _ _ _ _ _ _ _ _ (fun j hj => ?_) ?_
    · rw [hD]
      unfold cGoP
      by_cases gc : n % 2 = 0 ∧ bNew st b q = g (n - 2)
      · have hg2 : g (n - 2) = b (4 + 3 * (n - 2) + 1) := (hrow (n - 2) (by omega)).2
        rw [if_pos gc, if_pos ⟨gc.1, gc.2.trans hg2⟩]
        by_cases gj : j = q
        · subst gj
          rw [upd_same, if_pos rfl]
          by_cases gs : j = s
          · subst gs
            rw [upd_same, if_pos rfl, Int32.add_assoc]
          · rw [upd_ne gs, if_neg gs, nI_0, Int32.zero_add]
        · rw [upd_ne gj, if_neg gj]
          by_cases gs : j = s
          · subst gs
            rw [upd_same, if_pos rfl, nI_0, Int32.add_zero]
          · rw [upd_ne gs, if_neg gs, nI_0, Int32.add_zero, Int32.add_zero]
      · have gc2 : ¬ (n % 2 = 0 ∧ bNew st b q = b (4 + 3 * (n - 2) + 1)) := fun z => gc ⟨z.1, by rw [(hrow (n - 2) (by omega)).2]; exact z.2⟩
        rw [if_neg gc, if_neg gc2, nI_0, Int32.add_zero]
    · unfold albR
      rw [hbN, hS]
      unfold bGo
      rw [eN]
      refine ⟨?_, ?_, ?_, ?_, fun i hi => ⟨?_, ?_⟩, fun i hi => ?_⟩
      · simp (disch := omega) only [upd_same, upd_ne]; exact o1.symm
      · simp (disch := omega) only [upd_same, upd_ne]
      · simp (disch := omega) only [upd_same, upd_ne]; exact hgo.symm
      · simp (disch := omega) only [upd_same, upd_ne]
      · by_cases gi : i = n
        · subst gi
          simp (disch := omega) only [upd_same, upd_ne]
        · simp (disch := omega) only [upd_same, upd_ne]
          exact (hrow i (by omega)).1
      · by_cases gi : i = n
        · subst gi
          simp (disch := omega) only [upd_same, upd_ne]
        · simp (disch := omega) only [upd_same, upd_ne]
          exact (hrow i (by omega)).2
      · have ht := htp i hi
        unfold cTp
        by_cases h3 : b 3 = -6
        · rw [if_pos h3, if_pos h3, ht]
          by_cases gi : i = n
          · subst gi
            simp (disch := omega) only [upd_same, upd_ne]
            rw [decide_eq_false (fun z => by omega), decide_eq_false (fun z => absurd z.2 (by decide))]
          · simp (disch := omega) only [upd_same, upd_ne]
            exact decide_eq_decide.mpr ⟨fun z => ⟨by omega, z.2⟩, fun z => ⟨by omega, z.2⟩⟩
        · rw [if_neg h3, if_neg h3, b_orset tp (by omega) (by omega), ht]
          by_cases gi : i = n
          · subst gi
            simp (disch := omega) only [upd_same, upd_ne]
            simp
          · simp (disch := omega) only [upd_same, upd_ne]
            rw [decide_eq_false gi, Bool.or_false]
            exact decide_eq_decide.mpr ⟨fun z => ⟨by omega, z.2⟩, fun z => ⟨by omega, z.2⟩⟩
end CR
