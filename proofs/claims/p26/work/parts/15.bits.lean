/-! ===== Int32 by its bits: bt x i ===== -/
def bt (x : Int32) (i : Nat) : Bool := x.toBitVec.getLsbD i
theorem b_ext {x y : Int32} (h : ∀ i, i < 32 → bt x i = bt y i) : x = y := Int32.toBitVec_inj.mp (BitVec.eq_of_getLsbD_eq (fun i hi => h i hi))
theorem b_or (x y : Int32) (i : Nat) : bt (x ||| y) i = (bt x i || bt y i) := by unfold bt; rw [Int32.toBitVec_or, BitVec.getLsbD_or]
theorem b_and (x y : Int32) (i : Nat) : bt (x &&& y) i = (bt x i && bt y i) := by unfold bt; rw [Int32.toBitVec_and, BitVec.getLsbD_and]
theorem b_xor (x y : Int32) (i : Nat) : bt (x ^^^ y) i = (bt x i ^^ bt y i) := by unfold bt; rw [Int32.toBitVec_xor, BitVec.getLsbD_xor]
theorem b_big {x : Int32} {i : Nat} (h : 32 ≤ i) : bt x i = false := BitVec.getLsbD_of_ge _ _ h
theorem b_255 (i : Nat) : bt 255 i = decide (i < 8) := by
  rcases Nat.lt_or_ge i 32 with h | h
  · exact (by decide +kernel : ∀ i, i < 32 → bt 255 i = decide (i < 8)) i h
  · rw [b_big h, decide_eq_false (by omega)]
theorem b_65535 (i : Nat) : bt 65535 i = decide (i < 16) := by
  rcases Nat.lt_or_ge i 32 with h | h
  · exact (by decide +kernel : ∀ i, i < 32 → bt 65535 i = decide (i < 16)) i h
  · rw [b_big h, decide_eq_false (by omega)]
theorem b_m1 : ∀ i, i < 32 → bt (-1) i = true := by decide +kernel
theorem b_0 (i : Nat) : bt 0 i = false := BitVec.getLsbD_zero
theorem s_l : ∀ n, n < 32 → ((nI n &&& 31).toBitVec.smod 32).toNat = n := by decide +kernel
theorem s_u : ∀ n, n < 32 → (((nI n).toUInt32 &&& Int32.toUInt32 31).toBitVec % 32).toNat = n := by decide +kernel
theorem b_shl (n : Nat) (hn : n < 32) (x : Int32) {i : Nat} (hi : i < 32) : bt (x <<< (nI n &&& 31)) i = (decide (n ≤ i) && bt x (i - n)) := by
  unfold bt
  rw [Int32.toBitVec_shiftLeft]
  show (x.toBitVec <<< ((nI n &&& 31).toBitVec.smod 32).toNat).getLsbD i = _
  rw [s_l n hn, BitVec.getLsbD_shiftLeft]
  rcases Nat.lt_or_ge i n with h | h
  · simp [h, Nat.not_le.mpr h]
  · simp [hi, h, Nat.not_lt.mpr h]
theorem b_ushr (n : Nat) (hn : n < 32) (x : Int32) (i : Nat) : bt ((x.toUInt32 >>> ((nI n).toUInt32 &&& Int32.toUInt32 31)).toInt32) i = bt x (n + i) := by
  show (x.toUInt32 >>> ((nI n).toUInt32 &&& Int32.toUInt32 31)).toBitVec.getLsbD i = x.toUInt32.toBitVec.getLsbD (n + i)
  rw [UInt32.toBitVec_shiftRight]
  show (x.toUInt32.toBitVec >>> (((nI n).toUInt32 &&& Int32.toUInt32 31).toBitVec % 32).toNat).getLsbD i = _
  rw [s_u n hn, BitVec.getLsbD_ushiftRight]
theorem b_sshr (n : Nat) (hn : n < 32) (x : Int32) {i : Nat} (hi : i < 32) : bt (x >>> (nI n &&& 31)) i = if n + i < 32 then bt x (n + i) else bt x 31 := by
  unfold bt
  rw [Int32.toBitVec_shiftRight]
  show (x.toBitVec.sshiftRight ((nI n &&& 31).toBitVec.smod 32).toNat).getLsbD i = _
  rw [s_l n hn, BitVec.getLsbD_sshiftRight, BitVec.msb_eq_getLsbD_last]
  simp [hi]
theorem b_shl8 (x : Int32) {i : Nat} (hi : i < 32) : bt (x <<< ((8 : Int32) &&& 31)) i = (decide (8 ≤ i) && bt x (i - 8)) := b_shl 8 (by omega) x hi
theorem b_shl16 (x : Int32) {i : Nat} (hi : i < 32) : bt (x <<< ((16 : Int32) &&& 31)) i = (decide (16 ≤ i) && bt x (i - 16)) := b_shl 16 (by omega) x hi
theorem b_shl24 (x : Int32) {i : Nat} (hi : i < 32) : bt (x <<< ((24 : Int32) &&& 31)) i = (decide (24 ≤ i) && bt x (i - 24)) := b_shl 24 (by omega) x hi
theorem b_sshr8 (x : Int32) {i : Nat} (hi : i < 32) : bt (x >>> ((8 : Int32) &&& 31)) i = if 8 + i < 32 then bt x (8 + i) else bt x 31 := b_sshr 8 (by omega) x hi
theorem fb_holes : ∀ (m n : Nat) (f : Nat → Nat), (∀ i, i < n → f i < m) → (∀ i j, i < j → j < n → f i ≠ f j) → n ≤ m := by
  intro m
  induction m with
  | zero =>
    intro n f h1 _
    rcases Nat.eq_zero_or_pos n with h | h
    · omega
    · exact absurd (h1 0 h) (Nat.not_lt_zero _)
  | succ m ih =>
    intro n f h1 h2
    by_cases hx : ∃ i, i < n ∧ f i = m
    · obtain ⟨a, ha, hfa⟩ := hx
      have hg := ih (n - 1) (fun i => if i < a then f i else f (i + 1)) (by
        intro i hi
        by_cases q : i < a
        · simp only [if_pos q]
          have b1 := h1 i (by omega)
          have b2 := h2 i a q ha
          omega
        · simp only [if_neg q]
          have b1 := h1 (i + 1) (by omega)
          have b2 := h2 a (i + 1) (by omega) (by omega)
          omega) (by
        intro i j hij hj
        by_cases q : i < a
        · by_cases r : j < a
          · simp only [if_pos q, if_pos r]
            exact h2 i j hij (by omega)
          · simp only [if_pos q, if_neg r]
            exact h2 i (j + 1) (by omega) (by omega)
        · have r : ¬ j < a := by omega
          simp only [if_neg q, if_neg r]
          exact h2 (i + 1) (j + 1) (by omega) (by omega))
      omega
    · have hg := ih n f (fun i hi => by
        have b1 := h1 i hi
        have b2 : f i ≠ m := fun e => hx ⟨i, hi, e⟩
        omega) h2
      omega
/-! one bit of a mask, as the two programs look at it -/
theorem b_one (i : Nat) : bt (nI 1) i = decide (i = 0) := by
  rcases Nat.lt_or_ge i 32 with h | h
  · exact (by decide +kernel : ∀ i, i < 32 → bt (nI 1) i = decide (i = 0)) i h
  · rw [b_big h, decide_eq_false (by omega)]
theorem b_nz (i : Nat) : bt (nI 0) i = false := by rw [nI_0]; exact b_0 i
theorem b_sh1 {q : Nat} (hq : q < 32) {i : Nat} (hi : i < 32) : bt (nI 1 <<< (nI q &&& 31)) i = decide (i = q) := by
  rw [b_shl q hq _ hi, b_one]
  by_cases h : i = q
  · subst h; simp
  · by_cases h2 : q ≤ i
    · have : ¬ (i - q = 0) := by omega
      simp [h, this]
    · simp [h, h2]
theorem b_shr1 (x : Int32) {q : Nat} (hq : q < 32) : x >>> (nI q &&& 31) &&& nI 1 = if bt x q = true then nI 1 else nI 0 := by
  apply b_ext
  intro i hi
  rw [b_and, b_sshr q hq x hi, b_one]
  by_cases h : i = 0
  · subst h
    rw [Nat.add_zero, if_pos hq]
    cases bt x q <;> simp [b_one, b_nz]
  · cases bt x q <;> simp [b_one, b_nz, h]
theorem b_shr1_1 (x : Int32) {q : Nat} (hq : q < 32) : (x >>> (nI q &&& 31) &&& nI 1 = nI 1) = (bt x q = true) := by
  rw [b_shr1 x hq, ite_o]
theorem b_shr1_0 (x : Int32) {q : Nat} (hq : q < 32) : (x >>> (nI q &&& 31) &&& nI 1 = nI 0) = (bt x q = false) := by
  rw [b_shr1 x hq, ite_z, Bool.not_eq_true]
theorem b_and1 (x : Int32) {q : Nat} (hq : q < 32) : (x &&& nI 1 <<< (nI q &&& 31) = nI 0) = (bt x q = false) := by
  apply propext
  constructor
  · intro h
    have h1 := congrArg (fun z => bt z q) h
    simp only [b_and, b_sh1 hq hq, b_nz] at h1
    simpa using h1
  · intro h
    apply b_ext
    intro i hi
    rw [b_and, b_sh1 hq hi, b_nz]
    by_cases h2 : i = q
    · subst h2; simp [h]
    · simp [h2]
theorem b_orset (x : Int32) {s : Nat} (hs : s < 32) {q : Nat} (hq : q < 32) : bt (x ||| nI 1 <<< (nI s &&& 31)) q = (bt x q || decide (q = s)) := by
  rw [b_or, b_sh1 hs hq]
theorem mTk_bt (st : Nat → Int32) {q : Nat} (hq : q < 32) : mTk st (nI q) = bt (st 16) q := by
  unfold mTk
  simp only [b_shr1_1 _ hq]
  cases bt (st 16) q <;> simp
/-! an album as a block of 28 numbers -/
def bk (st : Nat → Int32) (a k : Nat) : Int32 := st (35 + 28 * a + k)
def bN (b : Nat → Int32) : Nat := (b 1).toNatClampNeg
def bLi (b : Nat → Int32) : Nat := (b (4 + 3 * (bN b - 1))).toNatClampNeg
def bOw (b : Nat → Int32) : Nat := (b 0).toNatClampNeg
def bSe (b : Nat → Int32) : Nat → Int32
  | 0 => nI 0
  | g + 1 => bSe b g ||| nI 1 <<< (b (4 + 3 * g) &&& 31)
theorem mSeats_bSe (st : Nat → Int32) (a : Nat) : ∀ n, mSeats st a n = bSe (bk st a) n
  | 0 => rfl
  | n + 1 => by
    rw [mSeats, bSe, mSeats_bSe st a n]
    rfl
def bNx (st b : Nat → Int32) : Int32 := mNx st (bSe b (bN b)) (bLi b) 8
def bLw (b : Nat → Int32) : Int32 := b (4 + 3 * ((bN b - 1) / 2 * 2) + 1)
def bWhat (st b : Nat → Int32) (s : Nat) : Int32 :=
  if bN b % 2 = 0 then nI (mG st (b (4 + 3 * (bN b - 1) + 1)) 16) else st ((b (4 + 3 * (bN b - 1) + 1)).toNatClampNeg) &&& st (17 + s)
def bNew (st b : Nat → Int32) (s : Nat) : Int32 := if b 3 = -6 then bWhat st b s else b 3
def bGo (b : Nat → Int32) (s : Nat) (w f : Int32) : Nat → Int32 := upd (upd (upd (upd (upd b (4 + 3 * bN b) (nI s)) (4 + 3 * bN b + 1) w) (4 + 3 * bN b + 2) f) 1 (nI (bN b + 1))) 3 (-6)
/-- an album through one round -/
def bStep (st b : Nat → Int32) : Nat → Int32 :=
  if b 2 = nI 0 then
    if bNx st b = -6 then upd b 2 (if mTk st (b 0) = true then nI 1 else nI 2)
    else bGo b (bNx st b).toNatClampNeg (bNew st b (bNx st b).toNatClampNeg) (if b 3 = -6 then nI 0 else nI 1)
  else b
/-- the points of an album's round, for a seat -/
def bDl (st b : Nat → Int32) (j : Nat) : Int32 :=
  if b 2 = nI 0 then
    if bNx st b = -6 then (if mTk st (b 0) = true ∧ bLw b = b 5 ∧ 2 < bN b ∧ j = bOw b then nI 2 else nI 0)
    else if bN b % 2 = 0 ∧ bNew st b (bNx st b).toNatClampNeg = b (4 + 3 * (bN b - 2) + 1) then (if j = bLi b then nI 1 else nI 0) + (if j = (bNx st b).toNatClampNeg then nI 1 else nI 0)
    else nI 0
  else nI 0
def mOne (st : Nat → Int32) (a k : Nat) : Int32 :=
  if 35 + 28 * a ≤ k ∧ k < 63 + 28 * a then bStep st (bk st a) (k - (35 + 28 * a)) else if 25 ≤ k ∧ k < 33 then st k + bDl st (bk st a) (k - 25) else st k
def mAll (st : Nat → Int32) : Nat → Nat → Int32
  | 0 => st
  | a + 1 => mOne (mAll st a) a
/-! what always holds -/
def eOK (st : Nat → Int32) : Prop := (∀ w, w < 16 → ∃ x, st w = nI x ∧ x < 4096) ∧ (∃ x, st 16 = nI x ∧ x < 256) ∧ (∀ s, s < 8 → ∃ x, st (17 + s) = nI x ∧ x < 4096)
def bOK (b : Nat → Int32) : Prop := ∃ n, b 1 = nI n ∧ 1 ≤ n ∧ n ≤ 8 ∧ (∃ o, b 0 = nI o ∧ o < 8) ∧ (b 2 = nI 0 ∨ b 2 = nI 1 ∨ b 2 = nI 2) ∧ (∀ g, g < n → ∃ s, b (4 + 3 * g) = nI s ∧ s < 8) ∧ (∀ g g', g < g' → g' < n → b (4 + 3 * g) ≠ b (4 + 3 * g')) ∧ (∀ g, g < n → ∃ x, b (4 + 3 * g + 1) = nI x ∧ x < 4096 ∧ (g % 2 = 0 → x < 16)) ∧ (∀ g, g < n → b (4 + 3 * g + 2) = nI 0 ∨ b (4 + 3 * g + 2) = nI 1) ∧ (b 3 = -6 ∨ ∃ x, b 3 = nI x ∧ x < 4096 ∧ (n % 2 = 0 → x < 16))
def mOK (st : Nat → Int32) : Prop := eOK st ∧ ∃ c, st 34 = nI c ∧ c ≤ 12 ∧ ∀ a, a < c → bOK (bk st a)
theorem mNx_cases (st : Nat → Int32) (sm : Int32) (s : Nat) : ∀ j, mNx st sm s j = -6 ∨ ∃ q, q < 8 ∧ mNx st sm s j = nI q ∧ bt (st 16) q = true ∧ bt sm q = false
  | 0 => Or.inl rfl
  | j + 1 => by
    have hq : (s + (8 - j)) % 8 < 8 := Nat.mod_lt _ (by decide)
    unfold mNx
    by_cases h : mTk st (nI ((s + (8 - j)) % 8)) = true ∧ sm >>> (nI ((s + (8 - j)) % 8) &&& 31) &&& nI 1 = nI 0
    · rw [if_pos h]
      rw [mTk_bt st (by omega), b_shr1_0 sm (by omega)] at h
      exact Or.inr ⟨_, hq, rfl, h⟩
    · rw [if_neg h]
      exact mNx_cases st sm s j
theorem bSe_bt {b : Nat → Int32} : ∀ (n : Nat), (∀ g, g < n → ∃ s, b (4 + 3 * g) = nI s ∧ s < 8) → ∀ q, q < 32 → (bt (bSe b n) q = true ↔ ∃ g, g < n ∧ b (4 + 3 * g) = nI q)
  | 0, _, q, _ => by
    rw [bSe, b_nz]
    exact ⟨fun h => (by cases h), fun ⟨g, hg, _⟩ => absurd hg (Nat.not_lt_zero _)⟩
  | n + 1, h, q, hq => by
    obtain ⟨s, hs, hs8⟩ := h n (Nat.lt_succ_self n)
    rw [bSe, hs, b_orset _ (by omega) hq, Bool.or_eq_true, bSe_bt n (fun g hg => h g (by omega)) q hq, decide_eq_true_eq]
    constructor
    · rintro (⟨g, hg, e⟩ | rfl)
      · exact ⟨g, by omega, e⟩
      · exact ⟨n, by omega, hs⟩
    · rintro ⟨g, hg, e⟩
      by_cases hgn : g = n
      · subst hgn
        right
        rw [hs] at e
        exact ((nI_eq (by omega) (by omega)).mp e).symm
      · exact Or.inl ⟨g, by omega, e⟩
