/-! THE LAW: the changes, side by side -/
theorem neg4 {v : Int32} (h : v = -1 ∨ v = -2 ∨ v = -4 ∨ v = -5) : v < nI 0 ∧ (nI 0 ≤ v) = False := by
  rcases h with e | e | e | e <;> subst e <;> exact ⟨by decide, eq_false (by decide)⟩
theorem mWSat_neg {s f : Int32} (h : ¬ mWSat s f = nI 0) : mWSat s f < nI 0 ∧ (nI 0 ≤ mWSat s f) = False := by
  refine neg4 ?_
  unfold mWSat at h ⊢
  by_cases g1 : inR s 0 7
  · rw [if_pos g1] at h ⊢
    by_cases g2 : f = -6
    · rw [if_pos g2] at h; exact absurd rfl h
    · rw [if_neg g2] at h ⊢
      by_cases g3 : inR f 0 4095
      · rw [if_pos g3] at h; exact absurd rfl h
      · rw [if_neg g3]; exact Or.inr (Or.inl rfl)
  · rw [if_neg g1]; exact Or.inl rfl
theorem mWLeft_neg {st : Nat → Int32} {s : Int32} (h : ¬ mWLeft st s = nI 0) : mWLeft st s < nI 0 ∧ (nI 0 ≤ mWLeft st s) = False := by
  refine neg4 ?_
  unfold mWLeft at h ⊢
  by_cases g1 : inR s 0 7
  · rw [if_pos g1] at h ⊢
    by_cases g2 : mTk st s = true
    · rw [if_pos g2] at h; exact absurd rfl h
    · rw [if_neg g2]; exact Or.inr (Or.inr (Or.inr rfl))
  · rw [if_neg g1]; exact Or.inl rfl
theorem mWBeg_neg {st : Nat → Int32} {s w : Int32} {c : Nat} (h : ¬ mWBeg st s w c = nI 0) : mWBeg st s w c < nI 0 ∧ (nI 0 ≤ mWBeg st s w c) = False := by
  refine neg4 ?_
  unfold mWBeg at h ⊢
  by_cases g1 : inR s 0 7 ∧ inR w 0 15
  · rw [if_pos g1] at h ⊢
    by_cases g2 : c = 12
    · rw [if_pos g2]; exact Or.inr (Or.inr (Or.inl rfl))
    · rw [if_neg g2] at h ⊢
      by_cases g3 : mTk st s = true ∧ mAlbOf st s c = -6
      · rw [if_pos g3] at h; exact absurd rfl h
      · rw [if_neg g3]; exact Or.inr (Or.inr (Or.inr rfl))
  · rw [if_neg g1]; exact Or.inl rfl
theorem mWTell_neg {st : Nat → Int32} {a n : Nat} {p : Int32} (h : ¬ mWTell st a n p = nI 0) : mWTell st a n p < nI 0 ∧ (nI 0 ≤ mWTell st a n p) = False := by
  refine neg4 ?_
  unfold mWTell at h ⊢
  by_cases g1 : inR p 0 (if n % 2 = 0 then 15 else 4095)
  · rw [if_pos g1] at h ⊢
    by_cases g2 : st (35 + 28 * a + 2) = nI 0
    · rw [if_pos g2] at h; exact absurd rfl h
    · rw [if_neg g2]; exact Or.inr (Or.inr (Or.inr rfl))
  · rw [if_neg g1]; exact Or.inr (Or.inl rfl)
section BO1
variable {d x m : Nat} {σ : aS}
theorem bo_teach (hm : x + 423 ≤ m) (hI : LaI σ x m) (a1 a2 : Int32) : Bo (d + 8) iX6_teach iX7_teach [some (.ref x), some (.int a1), some (.int a2)] [some (.ref m), some (.int a1), some (.int a2), none] σ x m := by
  obtain ⟨st, o, rc, hi, sl, sv, L, sg, pd, kp, at', le, fi, se, hC, hM, hV⟩ := hI
  obtain ⟨hx, hT, ⟨P, hP⟩, hH, hS, po, ki, fi2, se2, hp⟩ := id hC
  obtain ⟨v1, v2, v3, v4, v5⟩ := id hV
  have hok := v1.1
  have hr := fun i hi => (v2 i hi).1
  have h6 := hH.2.2.1
  obtain ⟨he, c, hc, h12, hb⟩ := id hok
  rcases inR_split 0 15 a1 (by decide) rfl with ⟨w, hw, e⟩ | e
  · subst e
    rcases inR_split 0 4095 a2 (by decide) rfl with ⟨y, hy, e2⟩ | e2
    · subst e2
      obtain ⟨z, hz, hz2⟩ := he.1 w (by omega)
      exact Bo_gen hm hM (fun Q K => cx_teach hx hT hH hok hr (fun τ Q' hT' K' => cv_teach hT' hw hy K') (by rw [hz]; exact nI_nn (by omega)) (fun σ' t1 t2 t3 => K σ' (ClC_ch hC t1 t2 t3) (fun q hq => t3.1 q (by omega)) t3.2)) (fun τ Q h => (mq_teach hw hy h6).mpr h) (InV_rec hV h6 (mTeach_K v1 hw hy))
    · exact Bo_gen hm hM (fun Q K => cx_teachE hx hT hH hok hr (fun τ Q' hT' K' => (cv_teachB hw e2).mpr (K' τ hT' (Fr_refl _ _ _))) (by decide) (fun σ' t1 t2 t3 => K σ' (ClC_ch hC t1 t2 t3) (fun q hq => t3.1 q (by omega)) t3.2)) (fun τ Q h => (mq_teachB hw e2).mpr h) hV
  · exact Bo_gen hm hM (fun Q K => cx_teachE hx hT hH hok hr (fun τ Q' hT' K' => (cv_teachN e).mpr (K' τ hT' (Fr_refl _ _ _))) (by decide) (fun σ' t1 t2 t3 => K σ' (ClC_ch hC t1 t2 t3) (fun q hq => t3.1 q (by omega)) t3.2)) (fun τ Q h => (mq_teachN e).mpr h) hV
theorem bo_sit (hm : x + 423 ≤ m) (hI : LaI σ x m) (a1 a2 : Int32) : Bo (d + 8) iX6_sit iX7_sit [some (.ref x), some (.int a1), some (.int a2)] [some (.ref m), some (.int a1), some (.int a2), none] σ x m := by
  obtain ⟨st, o, rc, hi, sl, sv, L, sg, pd, kp, at', le, fi, se, hC, hM, hV⟩ := hI
  obtain ⟨hx, hT, ⟨P, hP⟩, hH, hS, po, ki, fi2, se2, hp⟩ := id hC
  obtain ⟨v1, v2, v3, v4, v5⟩ := id hV
  have hok := v1.1
  have hr := fun i hi => (v2 i hi).1
  have h6 := hH.2.2.1
  obtain ⟨he, c, hc, h12, hb⟩ := id hok
  by_cases hw : mWSat a1 a2 = nI 0
  · obtain ⟨j, hj, e⟩ := mWSat_0 hw
    subst e
    exact Bo_gen hm hM (fun Q K => cx_sit hx hT hH hok hr (fun τ Q' hT' K' => cv_sit hT' he hj hw K') (mBits_or he hj) (fun σ' t1 t2 t3 => K σ' (ClC_ch hC t1 t2 t3) (fun q hq => t3.1 q (by omega)) t3.2)) (fun τ Q h => (mq_sit hj hw h6).mpr h) (InV_rec hV h6 (mSat_K v1 hj hw))
  · exact Bo_gen hm hM (fun Q K => cx_sitE hx hT hH hok hr (fun τ Q' hT' K' => (cv_sitE rfl (mWSat_neg hw).2).mpr (K' τ hT' (Fr_refl _ _ _))) (mWSat_neg hw).1 (fun σ' t1 t2 t3 => K σ' (ClC_ch hC t1 t2 t3) (fun q hq => t3.1 q (by omega)) t3.2)) (fun τ Q h => (mq_sitE rfl (mWSat_neg hw).2).mpr h) hV
theorem bo_leave (hm : x + 423 ≤ m) (hI : LaI σ x m) (a1 : Int32) : Bo (d + 8) iX6_leave iX7_leave [some (.ref x), some (.int a1)] [some (.ref m), some (.int a1), none] σ x m := by
  obtain ⟨st, o, rc, hi, sl, sv, L, sg, pd, kp, at', le, fi, se, hC, hM, hV⟩ := hI
  obtain ⟨hx, hT, ⟨P, hP⟩, hH, hS, po, ki, fi2, se2, hp⟩ := id hC
  obtain ⟨v1, v2, v3, v4, v5⟩ := id hV
  have hok := v1.1
  have hr := fun i hi => (v2 i hi).1
  have h6 := hH.2.2.1
  obtain ⟨he, c, hc, h12, hb⟩ := id hok
  by_cases hw : mWLeft st a1 = nI 0
  · obtain ⟨j, hj, e⟩ := mWLeft_0 hw
    subst e
    exact Bo_gen hm hM (fun Q K => cx_leave hx hT hH hok hr (fun τ Q' hT' K' => cv_leave hT' he hj hw K') (mBits_an he hj) (fun σ' t1 t2 t3 => K σ' (ClC_ch hC t1 t2 t3) (fun q hq => t3.1 q (by omega)) t3.2)) (fun τ Q h => (mq_leave hj hw h6).mpr h) (InV_rec hV h6 (mLeft_K v1 hj))
  · exact Bo_gen hm hM (fun Q K => cx_leaveE hx hT hH hok hr (fun τ Q' hT' K' => (cv_leaveE hT' rfl (mWLeft_neg hw).2).mpr (K' τ hT' (Fr_refl _ _ _))) (mWLeft_neg hw).1 (fun σ' t1 t2 t3 => K σ' (ClC_ch hC t1 t2 t3) (fun q hq => t3.1 q (by omega)) t3.2)) (fun τ Q h => (mq_leaveE rfl (mWLeft_neg hw).2).mpr h) hV
theorem bo_begin (hm : x + 423 ≤ m) (hI : LaI σ x m) (a1 a2 : Int32) : Bo (d + 8) iX6_begin iX7_begin [some (.ref x), some (.int a1), some (.int a2)] [some (.ref m), some (.int a1), some (.int a2), none] σ x m := by
  obtain ⟨st, o, rc, hi, sl, sv, L, sg, pd, kp, at', le, fi, se, hC, hM, hV⟩ := hI
  obtain ⟨hx, hT, ⟨P, hP⟩, hH, hS, po, ki, fi2, se2, hp⟩ := id hC
  obtain ⟨v1, v2, v3, v4, v5⟩ := id hV
  have hok := v1.1
  have hr := fun i hi => (v2 i hi).1
  have h6 := hH.2.2.1
  obtain ⟨he, c, hc, h12, hb⟩ := id hok
  have hu := mK_u v1 hc h12
  by_cases hw : mWBeg st a1 a2 c = nI 0
  · obtain ⟨j, w, hj, e, hw2, e2, hne, -, -⟩ := mWBeg_0 hw
    subst e e2
    exact Bo_gen hm hM (fun Q K => cx_begin hx hT hH hok hr (fun τ Q' hT' K' => cv_beg hT' hok hc (by omega) hu hj hw2 hw K') (nI_nn (by omega)) (fun σ' t1 t2 t3 => K σ' (ClC_ch hC t1 t2 t3) (fun q hq => t3.1 q (by omega)) t3.2)) (fun τ Q h => (mq_begin hc (show c < 12 by omega) hw h6).mpr h) (InV_rec hV h6 (mBeg_K v1 hc (by omega) hj hw2 hw))
  · exact Bo_gen hm hM (fun Q K => cx_beginE hx hT hH hok hr (fun τ Q' hT' K' => (cv_begE hT' hc h12 hu rfl (mWBeg_neg hw).2).mpr (K' τ hT' (Fr_refl _ _ _))) (mWBeg_neg hw).1 (fun σ' t1 t2 t3 => K σ' (ClC_ch hC t1 t2 t3) (fun q hq => t3.1 q (by omega)) t3.2)) (fun τ Q h => (mq_beginE hc h12 rfl (mWBeg_neg hw).2).mpr h) hV
theorem bo_tell (hm : x + 423 ≤ m) (hI : LaI σ x m) (a1 a2 : Int32) : Bo (d + 8) iX6_tell iX7_tell [some (.ref x), some (.int a1), some (.int a2)] [some (.ref m), some (.int a1), some (.int a2), none] σ x m := by
  obtain ⟨st, o, rc, hi, sl, sv, L, sg, pd, kp, at', le, fi, se, hC, hM, hV⟩ := hI
  obtain ⟨hx, hT, ⟨P, hP⟩, hH, hS, po, ki, fi2, se2, hp⟩ := id hC
  obtain ⟨v1, v2, v3, v4, v5⟩ := id hV
  have hok := v1.1
  have hr := fun i hi => (v2 i hi).1
  have h6 := hH.2.2.1
  obtain ⟨he, c, hc, h12, hb⟩ := id hok
  rcases isA_split c h12 a1 with ⟨a, ha, e⟩ | e
  · subst e
    obtain ⟨n, n1, n2, n3⟩ := mOK_n hok hc h12 ha
    by_cases hw : mWTell st a n a2 = nI 0
    · have hnn : nI 0 ≤ (if st (35 + 28 * a + 3) = -6 then nI 0 else nI 1) := by
        split
        · exact nI_nn (n := 0) (by omega)
        · exact nI_nn (n := 1) (by omega)
      exact Bo_gen hm hM (fun Q K => cx_tell hx hT hH hok hr (fun τ Q' hT' K' => cv_tell hT' hok hc h12 ha n1 n3 hw K') hnn (fun σ' t1 t2 t3 => K σ' (ClC_ch hC t1 t2 t3) (fun q hq => t3.1 q (by omega)) t3.2)) (fun τ Q h => (mq_tell hc h12 ha n1 n3 hw h6).mpr h) (InV_rec hV h6 (mTells_K v1 hc h12 ha n1 n3 hw))
    · exact Bo_gen hm hM (fun Q K => cx_tellE hx hT hH hok hr (fun τ Q' hT' K' => (cv_tellE hT' hok hc h12 ha n1 n3 rfl (mWTell_neg hw).2).mpr (K' τ hT' (Fr_refl _ _ _))) (mWTell_neg hw).1 (fun σ' t1 t2 t3 => K σ' (ClC_ch hC t1 t2 t3) (fun q hq => t3.1 q (by omega)) t3.2)) (fun τ Q h => (mq_tellE hc h12 ha n1 n3 rfl (mWTell_neg hw).2).mpr h) hV
  · exact Bo_gen hm hM (fun Q K => cx_tellE hx hT hH hok hr (fun τ Q' hT' K' => (cv_tellN hT' hc h12 e).mpr (K' τ hT' (Fr_refl _ _ _))) (by decide) (fun σ' t1 t2 t3 => K σ' (ClC_ch hC t1 t2 t3) (fun q hq => t3.1 q (by omega)) t3.2)) (fun τ Q h => (mq_tellN hc e).mpr h) hV
theorem bo_round (hm : x + 423 ≤ m) (hI : LaI σ x m) : Bo (d + 8) iX6_round iX7_round [some (.ref x)] [some (.ref m)] σ x m := by
  obtain ⟨st, o, rc, hi, sl, sv, L, sg, pd, kp, at', le, fi, se, hC, hM, hV⟩ := hI
  obtain ⟨hx, hT, ⟨P, hP⟩, hH, hS, po, ki, fi2, se2, hp⟩ := id hC
  obtain ⟨v1, v2, v3, v4, v5⟩ := id hV
  have hok := v1.1
  have hr := fun i hi => (v2 i hi).1
  have h6 := hH.2.2.1
  obtain ⟨he, c, hc, h12, hb⟩ := id hok
  have hle := mHow_le (st := mRnd st c) (v := nI 0) c
  exact Bo_gen hm hM (fun Q K => cx_round hx hT hH hok hr (fun τ Q' hT' K' => cv_makeRound hok hc h12 hT' K') (nI_nn (by omega)) (fun σ' t1 t2 t3 => K σ' (ClC_ch hC t1 t2 t3) (fun q hq => t3.1 q (by omega)) t3.2)) (fun τ Q h => (mq_round hok hc h12 h6).mpr h) (InV_rec hV h6 (mRnd_K v1 hc h12))
theorem bo_clear (hm : x + 423 ≤ m) (hI : LaI σ x m) : Bo (d + 8) iX6_clear iX7_clear [some (.ref x)] [some (.ref m)] σ x m := by
  obtain ⟨st, o, rc, hi, sl, sv, L, sg, pd, kp, at', le, fi, se, hC, hM, hV⟩ := hI
  obtain ⟨hx, hT, ⟨P, hP⟩, hH, hS, po, ki, fi2, se2, hp⟩ := id hC
  obtain ⟨v1, v2, v3, v4, v5⟩ := id hV
  have hok := v1.1
  have hr := fun i hi => (v2 i hi).1
  have h6 := hH.2.2.1
  obtain ⟨he, c, hc, h12, hb⟩ := id hok
  exact Bo_gen hm hM (fun Q K => cx_clear hx hT hH hok hr (fun τ Q' hT' K' => cv_clear hT' hok hc h12 K') (nI_nn (by omega)) (fun σ' t1 t2 t3 => K σ' (ClC_ch hC t1 t2 t3) (fun q hq => t3.1 q (by omega)) t3.2)) (fun τ Q h => (mq_clear hc h12 h6).mpr h) (InV_rec hV h6 (mClear_K v1 hc h12))
end BO1
