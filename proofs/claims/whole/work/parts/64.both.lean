/-! THE LAW: what is asked, side by side -/
theorem i_split (n : Nat) (w : Int32) : (∃ k, k ≤ n ∧ w = nI k) ∨ ∀ k, k ≤ n → ¬ w = nI k := by
  by_cases h : ∃ k, k ≤ n ∧ w = nI k
  · exact Or.inl h
  · exact Or.inr (fun k hk e => h ⟨k, hk, e⟩)
theorem inR_no {n : Nat} {w : Int32} (hn : n < 2147483648) (h : ∀ k, k ≤ n → ¬ w = nI k) : inR w 0 n = False := by
  rcases inR_split 0 n w hn rfl with ⟨j, hj, e⟩ | e
  · exact absurd e (h j hj)
  · exact e
section BO2
variable {d x m : Nat} {σ : aS}
theorem bo_of (hm : x + 423 ≤ m) (hI : LaI σ x m) (a1 a2 : Int32) : Bo (d + 8) iX6_of iX7_of [some (.ref x), some (.int a1), some (.int a2), none] [some (.ref m), some (.int a1), some (.int a2)] σ x m := by
  obtain ⟨st, o, rc, hi, sl, sv, L, sg, pd, kp, at', le, fi, se, hC, hM, hV⟩ := hI
  obtain ⟨hx, hT, ⟨P, hP⟩, hH, hS, po, ki, fi2, se2, hp⟩ := id hC
  obtain ⟨v1, v2, v3, v4, v5⟩ := id hV
  have hok := v1.1
  have hr := fun i hi => (v2 i hi).1
  have h6 := hH.2.2.1
  obtain ⟨he, c, hc, h12, hb⟩ := id hok
  rcases isA_split c h12 a1 with ⟨a, ha, e⟩ | e
  · subst e
    obtain ⟨n, n1, n2, n3, -, -, -, -, nw, -⟩ := mOK_b hok hc h12 ha
    obtain ⟨y, y1, -, y3⟩ := nw ((n - 1) / 2 * 2) (by omega)
    obtain ⟨z, z1, -, z3⟩ := nw 0 (by omega)
    have n1' : st (35 + 28 * a + 1) = nI n := n1
    have y1' : st (35 + 28 * a + (4 + 3 * ((n - 1) / 2 * 2) + 1)) = nI y := y1
    have z1' : st (35 + 28 * a + 5) = nI z := z1
    rcases i_split 8 a2 with ⟨k, hk, e2⟩ | e2
    · have hk9 : k = 0 ∨ k = 1 ∨ k = 2 ∨ k = 3 ∨ k = 4 ∨ k = 5 ∨ k = 6 ∨ k = 7 ∨ k = 8 := by omega
      subst e2
      rcases hk9 with e | e | e | e | e | e | e | e | e <;> subst e
      · exact Bo_gen hm hM (fun Q K => (cq_of0 hx hT hok hc h12 ha).mpr (K σ hC (fun _ _ => rfl) rfl)) (fun τ Q h => (mp_of0 mU_0 hc h12 ha n1' n2 n3).mpr h) hV
      · exact Bo_gen (v := nI n) hm hM (fun Q K => (cq_of1 hx hT hok hc h12 ha).mpr (by rw [n1']; exact K σ hC (fun _ _ => rfl) rfl)) (fun τ Q h => (mp_of1 mU_0 hc h12 ha n1' n2 n3).mpr h) hV
      · exact Bo_gen hm hM (fun Q K => (cq_of2 hx hT hok hc h12 ha n1' n3).mpr (K σ hC (fun _ _ => rfl) rfl)) (fun τ Q h => (mp_of2 mU_0 hc h12 ha n1' n2 n3).mpr h) hV
      · exact Bo_gen hm hM (fun Q K => (cq_of3 hx hT hok hc h12 ha).mpr (K σ hC (fun _ _ => rfl) rfl)) (fun τ Q h => (mp_of3 mU_0 hc h12 ha n1' n2 n3).mpr h) hV
      · exact Bo_gen hm hM (fun Q K => (cq_of4 hx hT hok hc h12 ha n1' n3).mpr (K σ hC (fun _ _ => rfl) rfl)) (fun τ Q h => (mp_of4 mU_0 hc h12 ha n1' n2 n3).mpr h) hV
      · exact Bo_gen hm hM (fun Q K => (cq_of5 hx hT hok hc h12 ha n1' n3).mpr (K σ hC (fun _ _ => rfl) rfl)) (fun τ Q h => (mp_of5 mU_0 hc h12 ha n1' n2 n3).mpr h) hV
      · exact Bo_gen hm hM (fun Q K => (cq_of6 hx hT hok hc h12 ha).mpr (K σ hC (fun _ _ => rfl) rfl)) (fun τ Q h => (mp_of6 mU_0 hc h12 ha n1' n2 n3).mpr h) hV
      · exact Bo_gen hm hM (fun Q K => (cq_of7 hx hT hok hc h12 ha n1' n3).mpr (K σ hC (fun _ _ => rfl) rfl)) (fun τ Q h => (mp_of7 mU_0 hc h12 ha n1' n2 n3).mpr h) hV
      · exact Bo_gen hm hM (fun Q K => (cq_of8 hx hT hok hc h12 ha n1' n3 y1' (y3 (by omega)) z1' (z3 (by omega))).mpr (K σ hC (fun _ _ => rfl) rfl)) (fun τ Q h => (mp_of8 mU_0 hc h12 ha n1' n2 n3 y1' (y3 (by omega)) z1' (z3 (by omega))).mpr h) hV
    · exact Bo_gen hm hM (fun Q K => (cq_of9 hx hT hok hc h12 ha e2).mpr (K σ hC (fun _ _ => rfl) rfl)) (fun τ Q h => (mp_of9 mU_0 hc h12 ha n1' n2 n3 e2).mpr h) hV
  · exact Bo_gen hm hM (fun Q K => (cq_ofN hx hT hc h12 e).mpr (K σ hC (fun _ _ => rfl) rfl)) (fun τ Q h => (mp_ofN mU_0 hc e).mpr h) hV
theorem bo_page (hm : x + 423 ≤ m) (hI : LaI σ x m) (a1 a2 a3 : Int32) : Bo (d + 8) iX6_page iX7_page [some (.ref x), some (.int a1), some (.int a2), some (.int a3), none] [some (.ref m), some (.int a1), some (.int a2), some (.int a3)] σ x m := by
  obtain ⟨st, o, rc, hi, sl, sv, L, sg, pd, kp, at', le, fi, se, hC, hM, hV⟩ := hI
  obtain ⟨hx, hT, ⟨P, hP⟩, hH, hS, po, ki, fi2, se2, hp⟩ := id hC
  obtain ⟨v1, v2, v3, v4, v5⟩ := id hV
  have hok := v1.1
  have hr := fun i hi => (v2 i hi).1
  have h6 := hH.2.2.1
  obtain ⟨he, c, hc, h12, hb⟩ := id hok
  rcases isA_split c h12 a1 with ⟨a, ha, e⟩ | e
  · subst e
    obtain ⟨n, n1, n2, n3⟩ := mOK_n hok hc h12 ha
    rcases inR_split 0 (n - 1) a2 (by omega) rfl with ⟨g, hg, e2⟩ | e2
    · subst e2
      rcases i_split 2 a3 with ⟨w, hw, e3⟩ | e3
      · subst e3
        exact Bo_gen hm hM (fun Q K => (cq_page hx hT hok hc h12 ha n1 n3 (show g < n by omega) hw).mpr (K σ hC (fun _ _ => rfl) rfl)) (fun τ Q h => (mp_page mU_0 hc h12 ha n1 n2 n3 (show g < n by omega) hw).mpr h) hV
      · exact Bo_gen hm hM (fun Q K => (cq_pageW hx hT hok hc h12 ha n1 n3 (show g < n by omega) e3).mpr (K σ hC (fun _ _ => rfl) rfl)) (fun τ Q h => (mp_pageW mU_0 hc h12 ha n1 n2 n3 (show g < n by omega) (inR_no (by omega) e3)).mpr h) hV
    · exact Bo_gen hm hM (fun Q K => (cq_pageP hx hT hok hc h12 ha n1 n3 e2).mpr (K σ hC (fun _ _ => rfl) rfl)) (fun τ Q h => (mp_pageP mU_0 hc h12 ha n1 n2 n3 e2).mpr h) hV
  · exact Bo_gen hm hM (fun Q K => (cq_pageN hx hT hc h12 e).mpr (K σ hC (fun _ _ => rfl) rfl)) (fun τ Q h => (mp_pageN mU_0 hc e).mpr h) hV
theorem bo_seat (hm : x + 423 ≤ m) (hI : LaI σ x m) (a1 a2 : Int32) : Bo (d + 8) iX6_seat iX7_seat [some (.ref x), some (.int a1), some (.int a2)] [some (.ref m), some (.int a1), some (.int a2)] σ x m := by
  obtain ⟨st, o, rc, hi, sl, sv, L, sg, pd, kp, at', le, fi, se, hC, hM, hV⟩ := hI
  obtain ⟨hx, hT, ⟨P, hP⟩, hH, hS, po, ki, fi2, se2, hp⟩ := id hC
  obtain ⟨v1, v2, v3, v4, v5⟩ := id hV
  have hok := v1.1
  have hr := fun i hi => (v2 i hi).1
  have h6 := hH.2.2.1
  obtain ⟨he, c, hc, h12, hb⟩ := id hok
  have hu := mK_u v1 hc h12
  rcases inR_split 0 7 a1 (by decide) rfl with ⟨s, hs, e⟩ | e
  · subst e
    rcases i_split 4 a2 with ⟨k, hk, e2⟩ | e2
    · have hk5 : k = 0 ∨ k = 1 ∨ k = 2 ∨ k = 3 ∨ k = 4 := by omega
      subst e2
      rcases hk5 with e | e | e | e | e <;> subst e
      · exact Bo_gen hm hM (fun Q K => (cq_seat0 hx hT hs).mpr (K σ hC (fun _ _ => rfl) rfl)) (fun τ Q h => (mp_seat0 mU_0 hs).mpr h) hV
      · exact Bo_gen hm hM (fun Q K => (cq_seat1 hx hT hs).mpr (K σ hC (fun _ _ => rfl) rfl)) (fun τ Q h => (mp_seat1 mU_0 hs).mpr h) hV
      · exact Bo_gen hm hM (fun Q K => (cq_seat2 hx hT hs).mpr (K σ hC (fun _ _ => rfl) rfl)) (fun τ Q h => (mp_seat2 mU_0 hs).mpr h) hV
      · exact Bo_gen hm hM (fun Q K => (cq_seat3 hx hT hc h12 hu hs).mpr (K σ hC (fun _ _ => rfl) rfl)) (fun τ Q h => (mp_seat3 mU_0 hs hc h12).mpr h) hV
      · exact Bo_gen hm hM (fun Q K => (cq_seat4 hx hT hok hc h12 hs).mpr (K σ hC (fun _ _ => rfl) rfl)) (fun τ Q h => (mp_seat4 mU_0 hs hok hc h12).mpr h) hV
    · exact Bo_gen hm hM (fun Q K => (cq_seat5 hs e2).mpr (K σ hC (fun _ _ => rfl) rfl)) (fun τ Q h => (mp_seat5 hs e2).mpr h) hV
  · exact Bo_gen hm hM (fun Q K => (cq_seatN e).mpr (K σ hC (fun _ _ => rfl) rfl)) (fun τ Q h => (mp_seatN e).mpr h) hV
theorem bo_word (hm : x + 423 ≤ m) (hI : LaI σ x m) (a1 : Int32) : Bo (d + 8) iX6_word iX7_word [some (.ref x), some (.int a1)] [some (.ref m), some (.int a1)] σ x m := by
  obtain ⟨st, o, rc, hi, sl, sv, L, sg, pd, kp, at', le, fi, se, hC, hM, hV⟩ := hI
  obtain ⟨hx, hT, ⟨P, hP⟩, hH, hS, po, ki, fi2, se2, hp⟩ := id hC
  obtain ⟨v1, v2, v3, v4, v5⟩ := id hV
  have hok := v1.1
  have hr := fun i hi => (v2 i hi).1
  have h6 := hH.2.2.1
  obtain ⟨he, c, hc, h12, hb⟩ := id hok
  rcases inR_split 0 15 a1 (by decide) rfl with ⟨w, hw, e⟩ | e
  · subst e
    exact Bo_gen hm hM (fun Q K => (cq_word hx hT hw).mpr (K σ hC (fun _ _ => rfl) rfl)) (fun τ Q h => (mp_word mU_0 hw).mpr h) hV
  · exact Bo_gen hm hM (fun Q K => (cq_wordN e).mpr (K σ hC (fun _ _ => rfl) rfl)) (fun τ Q h => (mp_wordN e).mpr h) hV
theorem bo_guess (hm : x + 423 ≤ m) (hI : LaI σ x m) (a1 : Int32) : Bo (d + 8) iX6_guess iX7_guess [some (.ref x), some (.int a1)] [some (.ref m), some (.int a1)] σ x m := by
  obtain ⟨st, o, rc, hi, sl, sv, L, sg, pd, kp, at', le, fi, se, hC, hM, hV⟩ := hI
  obtain ⟨hx, hT, ⟨P, hP⟩, hH, hS, po, ki, fi2, se2, hp⟩ := id hC
  obtain ⟨v1, v2, v3, v4, v5⟩ := id hV
  have hok := v1.1
  have hr := fun i hi => (v2 i hi).1
  have h6 := hH.2.2.1
  obtain ⟨he, c, hc, h12, hb⟩ := id hok
  rcases inR_split 0 4095 a1 (by decide) rfl with ⟨w, hw, e⟩ | e
  · subst e
    exact Bo_gen hm hM (fun Q K => (cq_guess hx hT he hw).mpr (K σ hC (fun _ _ => rfl) rfl)) (fun τ Q h => (mp_guess mU_0 hw).mpr h) hV
  · exact Bo_gen hm hM (fun Q K => (cq_guessN e).mpr (K σ hC (fun _ _ => rfl) rfl)) (fun τ Q h => (mp_guessN e).mpr h) hV
theorem bo_count (hm : x + 423 ≤ m) (hI : LaI σ x m) (a1 : Int32) : Bo (d + 8) iX6_count iX7_count [some (.ref x), some (.int a1)] [some (.ref m), some (.int a1)] σ x m := by
  obtain ⟨st, o, rc, hi, sl, sv, L, sg, pd, kp, at', le, fi, se, hC, hM, hV⟩ := hI
  obtain ⟨hx, hT, ⟨P, hP⟩, hH, hS, po, ki, fi2, se2, hp⟩ := id hC
  obtain ⟨v1, v2, v3, v4, v5⟩ := id hV
  have hok := v1.1
  have hr := fun i hi => (v2 i hi).1
  have h6 := hH.2.2.1
  obtain ⟨he, c, hc, h12, hb⟩ := id hok
  rcases i_split 8 a1 with ⟨k, hk, e2⟩ | e2
  · have hk9 : k = 0 ∨ k = 1 ∨ k = 2 ∨ k = 3 ∨ k = 4 ∨ k = 5 ∨ k = 6 ∨ k = 7 ∨ k = 8 := by omega
    subst e2
    rcases hk9 with e | e | e | e | e | e | e | e | e <;> subst e
    · exact Bo_gen hm hM (fun Q K => (cq_count0 hx hT).mpr (K σ hC (fun _ _ => rfl) rfl)) (fun τ Q h => (mp_count0 mU_0).mpr h) hV
    · exact Bo_gen hm hM (fun Q K => (cq_count1 hx hT).mpr (K σ hC (fun _ _ => rfl) rfl)) (fun τ Q h => (mp_count1 mU_0).mpr h) hV
    · exact Bo_gen hm hM (fun Q K => (cq_count2 hx hT hc h12).mpr (K σ hC (fun _ _ => rfl) rfl)) (fun τ Q h => (mp_count2 mU_0 hc h12).mpr h) hV
    · exact Bo_gen hm hM (fun Q K => (cq_count3 hx hT hc h12).mpr (K σ hC (fun _ _ => rfl) rfl)) (fun τ Q h => (mp_count3 mU_0 hc h12).mpr h) hV
    · exact Bo_gen hm hM (fun Q K => (cq_count4 hx hT hc h12).mpr (K σ hC (fun _ _ => rfl) rfl)) (fun τ Q h => (mp_count4 mU_0 hc h12).mpr h) hV
    · exact Bo_gen hm hM (fun Q K => (cq_count5 hx hT).mpr (K σ hC (fun _ _ => rfl) rfl)) (fun τ Q h => (mp_count5 mU_0).mpr h) hV
    · exact Bo_gen hm hM (fun Q K => (cq_count6 hx hT).mpr (K σ hC (fun _ _ => rfl) rfl)) (fun τ Q h => (mp_count6 mU_0).mpr h) hV
    · exact Bo_gen hm hM (fun Q K => (cq_count7 hx hp.1).mpr (K σ hC (fun _ _ => rfl) rfl)) (fun τ Q h => (mp_count7 mU_0).mpr h) hV
    · exact Bo_gen hm hM (fun Q K => (cq_count8 hx hH.1).mpr (K σ hC (fun _ _ => rfl) rfl)) (fun τ Q h => (mp_count8 mU_0).mpr h) hV
  · exact Bo_gen hm hM (fun Q K => (cq_count9 e2).mpr (K σ hC (fun _ _ => rfl) rfl)) (fun τ Q h => (mp_count9 e2).mpr h) hV
end BO2
