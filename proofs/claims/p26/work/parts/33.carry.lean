/-! THE REFERENCE: orders carried out -/
theorem mWBeg_0 {st : Nat → Int32} {s w : Int32} {c : Nat} (h : mWBeg st s w c = nI 0) : ∃ j v, j ≤ 7 ∧ s = nI j ∧ v ≤ 15 ∧ w = nI v ∧ c ≠ 12 ∧ mTk st s = true ∧ mAlbOf st s c = -6 := by
  unfold mWBeg at h
  rcases inR_split 0 7 s (by decide) rfl with ⟨j, hj, e⟩ | e
  · rcases inR_split 0 15 w (by decide) rfl with ⟨v, hv, e2⟩ | e2
    · rw [if_pos ⟨by rw [e]; exact of_eq_true (inR_T hj (by decide)), by rw [e2]; exact of_eq_true (inR_T hv (by decide))⟩] at h
      by_cases g : c = 12
      · rw [if_pos g] at h; exact absurd h (by decide)
      · rw [if_neg g] at h
        by_cases g2 : mTk st s = true ∧ mAlbOf st s c = -6
        · exact ⟨j, v, hj, e, hv, e2, g, g2.1, g2.2⟩
        · rw [if_neg g2] at h; exact absurd h (by decide)
    · rw [if_neg (fun z => of_eq_false e2 z.2)] at h; exact absurd h (by decide)
  · rw [if_neg (fun z => of_eq_false e z.1)] at h; exact absurd h (by decide)
section MD
variable {d : Nat} {σ : aS} {Q : aQ} {m c : Nat} {st kp hi sl sv pd : Nat → Int32} {rc' pl at' le fi se : Int32}
end MD
