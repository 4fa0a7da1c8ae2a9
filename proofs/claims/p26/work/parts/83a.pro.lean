/-! bits counted, albums that go round (from whole, parts 57 and 28) -/
theorem mBits_pos {st : Nat → Int32} : ∀ v, v < 256 → nI 0 ≤ mBits (nI v) 12 := by decide +kernel
theorem mBits_or {st : Nat → Int32} (hE : eOK st) {s : Nat} (hs : s ≤ 7) : nI 0 ≤ mBits (st 16 ||| nI 1 <<< (nI s &&& 31)) 12 := by
  obtain ⟨x, hx, hx2⟩ := hE.2.1
  obtain ⟨y, hy, hy2⟩ := or_256 x hx2 s (by omega)
  rw [hx, hy]
  exact mBits_pos (st := st) y hy2
theorem mBits_an {st : Nat → Int32} (hE : eOK st) {s : Nat} (hs : s ≤ 7) : nI 0 ≤ mBits (st 16 &&& (nI 1 <<< (nI s &&& 31) ^^^ -1)) 12 := by
  obtain ⟨x, hx, hx2⟩ := hE.2.1
  obtain ⟨y, hy, hy2⟩ := an_256 x hx2 s (by omega)
  rw [hx, hy]
  exact mBits_pos (st := st) y hy2
theorem nI_nn {n : Nat} (h : n < 2147483648) : nI 0 ≤ nI n := of_eq_true (nI_leT (by omega) h)
theorem mHow_le {st : Nat → Int32} {v : Int32} : ∀ c, mHow st v c ≤ c
  | 0 => Nat.le_refl _
  | c + 1 => by
    have := mHow_le (st := st) (v := v) c
    rw [mHow]
    split <;> omega
