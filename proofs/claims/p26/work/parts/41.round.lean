/-! THE CLASS: a round of the whole table -/
theorem albR_cong {b b' : Nat → Int32} {ow pg hw tn tp : Int32} {f g : Nat → Int32} (hN : bN b ≤ 8) (h : ∀ i, i < 28 → b' i = b i) (hR : albR b ow pg hw tn tp f g) : albR b' ow pg hw tn tp f g := by
  obtain ⟨e0, e1, e2, e3, h1, h2⟩ := hR
  have eN : bN b' = bN b := by unfold bN; rw [h 1 (by omega)]
  refine ⟨by rw [h 0 (by omega)]; exact e0, by rw [h 1 (by omega)]; exact e1, by rw [h 2 (by omega)]; exact e2, by rw [h 3 (by omega)]; exact e3, fun i hi => ?_, fun i hi => ?_⟩
  · rw [eN] at hi
    rw [h _ (by omega), h _ (by omega)]
    exact h1 i hi
  · rw [eN, h2 i hi]
    by_cases g : i < bN b
    · rw [h _ (by omega)]
    · rw [decide_eq_false (fun z => g z.1), decide_eq_false (fun z => g z.1)]
theorem bN_8 {b : Nat → Int32} (h : bOK b) : bN b ≤ 8 := by
  obtain ⟨n, n1, n2, n3, -⟩ := h
  rw [bOK_N n1 n3]
  exact n3
theorem TabR_pass {σ : aS} {t a c : Nat} {X P P' : Nat → Int32} {v : Int32} (hT : TabR σ t (upd X 33 v)) (hok : mOK X) (hc : X 34 = nI c) (h12 : c ≤ 12) (ha : a < c) (hP0 : σ.1 (t + 3) = some (eI 8 P)) (hP : ∀ j, j < 8 → P' j = P j + bDl X (bk X a) j) {ow pg hw tn tp : Int32} {f g : Nat → Int32} (hR : albR (bStep X (bk X a)) ow pg hw tn tp f g) : TabR (cA (aput σ (t + 3) (eI 8 P')) (t + 5 + 3 * a) (cF (t + 5 + 3 * a) ow pg hw tn tp) f g) t (upd (mOne X a) 33 v) := by
  obtain ⟨h0, ⟨ft, h1, h1'⟩, ⟨dr, h2, h2'⟩, ⟨P0, h3, h3'⟩, ⟨F, h4, h4'⟩, hA⟩ := hT
  obtain ⟨he, c', hc', h12', hb⟩ := hok
  have hcc : c' = c := nI_inj (by omega) (by omega) (hc'.symm.trans hc)
  subst hcc
  have hPP : P0 = P := by
    rw [h3] at hP0
    injection hP0 with e
    injection e with e
    injection e with e
    injection e with e1 e2
  subst hPP
  have hr : ∀ q e, σ.1 q = some e → (q < t + 5 + 3 * a ∨ t + 5 + 3 * a + 2 < q) → q ≠ t + 3 → (cA (aput σ (t + 3) (eI 8 P')) (t + 5 + 3 * a) (cF (t + 5 + 3 * a) ow pg hw tn tp) f g).1 q = some e := fun q e h g1 g2 => cE_r h g1 g2
  have u : ∀ (k : Nat), k ≠ 33 → upd (mOne X a) 33 v k = mOne X a k := fun k hk => upd_ne hk
  have u' : ∀ (k : Nat), k ≠ 33 → upd X 33 v k = X k := fun k hk => upd_ne hk
  have hE : ∀ k, (k < 25 ∨ k = 34) → upd (mOne X a) 33 v k = upd X 33 v k := fun k hk => by rw [u k (by omega), u' k (by omega), mOne_env X a (by omega)]
  refine ⟨?_, ⟨ft, hr _ _ h1 (by omega) (by omega), fun w hw => by rw [hE w (by omega)]; exact h1' w hw⟩, ⟨dr, hr _ _ h2 (by omega) (by omega), fun s hs => by rw [hE _ (by omega)]; exact h2' s hs⟩, ⟨P', cE_p (by omega), fun s hs => ?_⟩, ⟨F, hr _ _ h4 (by omega) (by omega), h4'⟩, fun j hj => ?_⟩
  · rw [hE 16 (by omega), hE 34 (by omega), show upd (mOne X a) 33 v 33 = upd X 33 v 33 by rw [upd_same, upd_same]]
    exact hr _ _ h0 (by omega) (by omega)
  · rw [hP s hs, h3' s hs, u _ (by omega), u' _ (by omega)]
    unfold mOne
    rw [if_neg (by omega), if_pos (by omega), show 25 + s - 25 = s by omega]
  · by_cases gj : j = a
    · subst gj
      refine ⟨ow, pg, hw, tn, tp, f, g, cA_alb, fun _ => ?_⟩
      exact albR_cong (bN_8 (bStep_ok he (hb j ha))) (fun i hi => by show upd (mOne X j) 33 v (35 + 28 * j + i) = _; rw [u _ (by omega)]; exact mOne_bk X j hi) hR
    · obtain ⟨ow', pg', hw', tn', tp', f', g', ⟨a0, a1, a2⟩, hR'⟩ := hA j hj
      refine ⟨ow', pg', hw', tn', tp', f', g', ⟨hr _ _ a0 (by omega) (by omega), hr _ _ a1 (by omega) (by omega), hr _ _ a2 (by omega) (by omega)⟩, fun h => ?_⟩
      rw [hE 34 (by omega)] at h
      have hjc : j < c' := by rw [u' 34 (by omega), hc, nIc (by omega)] at h; exact h
      have hbj : bOK (bk (upd X 33 v) j) := bOK_congr (fun i hi => upd_ne (by omega)) (hb j hjc)
      refine albR_cong (bN_8 hbj) (fun i hi => ?_) (hR' h)
      show upd (mOne X a) 33 v (35 + 28 * j + i) = upd X 33 v (35 + 28 * j + i)
      rw [u _ (by omega), u' _ (by omega)]
      exact mOne_bk_ne X (fun z => gj z.symm) hi
