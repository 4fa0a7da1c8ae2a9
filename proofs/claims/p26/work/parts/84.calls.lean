/-! THE LAW: the class's calls that change something -/
/-- the class's cells: the object, its table, the forecast, the history -/
def CI (σ : aS) (x : Nat) (st : Nat → Int32) : Prop := σ.1 x = some (xO x) ∧ TabR σ (x + 1) st ∧ (∃ P, FoS σ (x + 42) P) ∧ ∃ o rc hi, HisR σ (x + 47) o rc hi ∧ ∀ i, i < rc → mOK (hRow hi i)
theorem CI_keep {σ σ' : aS} {x : Nat} {st : Nat → Int32} (h : ∀ q, x ≤ q → q < x + 423 → σ'.1 q = σ.1 q) (hC : CI σ x st) : CI σ' x st := by
  obtain ⟨h0, h1, ⟨P, h2⟩, o, rc, hi, h3, h4⟩ := hC
  exact ⟨(h _ (by omega) (by omega)).trans h0, TabR_keep (fun q a b => h q (by omega) (by omega)) h1, ⟨P, FoS_keep (fun q a b => h q (by omega) (by omega)) h2⟩, o, rc, hi, HisR_keep (fun q a b => h q (by omega) (by omega)) h3, h4⟩
theorem hRec_ok {st hi : Nat → Int32} {rc : Nat} (h6 : rc ≤ 6) (hok : mOK st) (hr : ∀ i, i < rc → mOK (hRow hi i)) : ∀ i, i < mRecN rc → mOK (hRow (mRecH hi st rc) i) := by
  intro i hi2
  have hrow := fun k (hk : k < 371) => hRow_rec (hi := hi) (st := st) (i := i) h6 hi2 hk
  unfold mRecN at hi2
  by_cases e6 : rc = 6
  · rw [if_pos e6] at hi2
    by_cases e : i = 5
    · exact mOK_cong (fun k hk => by rw [hrow k hk, if_pos e6, if_pos e]) hok
    · exact mOK_cong (fun k hk => by rw [hrow k hk, if_pos e6, if_neg e]) (hr (i + 1) (by omega))
  · rw [if_neg e6] at hi2
    by_cases e : i = rc
    · exact mOK_cong (fun k hk => by rw [hrow k hk, if_neg e6, if_pos e]) hok
    · exact mOK_cong (fun k hk => by rw [hrow k hk, if_neg e6, if_neg e]) (hr i (by omega))
section CC
variable {d x c : Nat} {σ : aS} {Q : aQ} {st st' : Nat → Int32}
theorem CI_ch {σ' : aS} {o rc : Nat} {hi : Nat → Int32} (hC : CI σ x st) (hT : TabR σ' (x + 1) st') (hH : HisR σ' (x + 47) o rc hi) (hr : ∀ i, i < rc → mOK (hRow hi i)) (hF : FrC σ σ' x) : CI σ' x st' := by
  obtain ⟨h0, h1, ⟨P, h2⟩, -⟩ := hC
  exact ⟨(hF.1 _ (by omega)).trans h0, hT, ⟨P, FoS_keep (fun q a b => hF.1 q (by omega)) h2⟩, o, rc, hi, hH, hr⟩
theorem c_teach (hC : CI σ x st) (hok : mOK st) {w v : Nat} (hw : w ≤ 15) (hv : v ≤ 4095) (K : ∀ σ', CI σ' x (upd st w (nI v)) → (∀ q, (q < x ∨ x + 423 ≤ q) → σ'.1 q = σ.1 q) → σ'.2 = σ.2 → Q (some (.int (st w))) σ') : aX (d + 7) iX6_teach 0 [some (.ref x), some (.int (nI w)), some (.int (nI v))] [] σ Q := by
  obtain ⟨hx, hT, hF, o, rc, hi, hH, hr⟩ := id hC
  obtain ⟨z, hz, hz2⟩ := hok.1.1 w (by omega)
  exact cx_teach hx hT hH hok hr (fun τ Q' hT' K' => cv_teach hT' hw hv K') (by rw [hz]; exact nI_nn (by omega)) (fun σ' t1 t2 t3 => K σ' (CI_ch hC t1 t2 (hRec_ok hH.2.2.1 hok hr) t3) (fun q hq => t3.1 q (by omega)) t3.2)
theorem c_sit (hC : CI σ x st) (hok : mOK st) {s : Nat} {f : Int32} (hs : s ≤ 7) (hv : mWSat (nI s) f = nI 0) (K : ∀ σ', CI σ' x (mSat st s f) → (∀ q, (q < x ∨ x + 423 ≤ q) → σ'.1 q = σ.1 q) → σ'.2 = σ.2 → Q (some (.int (mBits (st 16 ||| nI 1 <<< (nI s &&& 31)) 12))) σ') : aX (d + 7) iX6_sit 0 [some (.ref x), some (.int (nI s)), some (.int f)] [] σ Q := by
  obtain ⟨hx, hT, hF, o, rc, hi, hH, hr⟩ := id hC
  exact cx_sit hx hT hH hok hr (fun τ Q' hT' K' => cv_sit hT' hok.1 hs hv K') (mBits_or hok.1 hs) (fun σ' t1 t2 t3 => K σ' (CI_ch hC t1 t2 (hRec_ok hH.2.2.1 hok hr) t3) (fun q hq => t3.1 q (by omega)) t3.2)
theorem c_leave (hC : CI σ x st) (hok : mOK st) {s : Nat} (hs : s ≤ 7) (ht : mTk st (nI s) = true) (K : ∀ σ', CI σ' x (mLeft st s) → (∀ q, (q < x ∨ x + 423 ≤ q) → σ'.1 q = σ.1 q) → σ'.2 = σ.2 → Q (some (.int (mBits (st 16 &&& (nI 1 <<< (nI s &&& 31) ^^^ -1)) 12))) σ') : aX (d + 7) iX6_leave 0 [some (.ref x), some (.int (nI s))] [] σ Q := by
  obtain ⟨hx, hT, hF, o, rc, hi, hH, hr⟩ := id hC
  have hv : mWLeft st (nI s) = nI 0 := by
    unfold mWLeft
    rw [if_pos (of_eq_true (inR_T hs (by decide))), if_pos ht]
  exact cx_leave hx hT hH hok hr (fun τ Q' hT' K' => cv_leave hT' hok.1 hs hv K') (mBits_an hok.1 hs) (fun σ' t1 t2 t3 => K σ' (CI_ch hC t1 t2 (hRec_ok hH.2.2.1 hok hr) t3) (fun q hq => t3.1 q (by omega)) t3.2)
theorem c_leaveE (hC : CI σ x st) (hok : mOK st) {s : Nat} (hs : s ≤ 7) (ht : mTk st (nI s) = false) (K : ∀ σ', CI σ' x st → (∀ q, (q < x ∨ x + 423 ≤ q) → σ'.1 q = σ.1 q) → σ'.2 = σ.2 → Q (some (.int (-5))) σ') : aX (d + 7) iX6_leave 0 [some (.ref x), some (.int (nI s))] [] σ Q := by
  obtain ⟨hx, hT, hF, o, rc, hi, hH, hr⟩ := id hC
  have hv : mWLeft st (nI s) = -5 := by
    unfold mWLeft
    rw [if_pos (of_eq_true (inR_T hs (by decide))), if_neg (by rw [ht]; decide)]
  exact cx_leaveE hx hT hH hok hr (fun τ Q' hT' K' => (cv_leaveE hT' hv (eq_false (by decide))).mpr (K' τ hT' (Fr_refl _ _ _))) (by decide) (fun σ' t1 t2 t3 => K σ' (CI_ch hC t1 t2 hr t3) (fun q hq => t3.1 q (by omega)) t3.2)
theorem c_begin (hC : CI σ x st) (hK : mK st) (hc : st 34 = nI c) (h12 : c < 12) {s w : Nat} (hs : s ≤ 7) (hw : w ≤ 15) (hv : mWBeg st (nI s) (nI w) c = nI 0) (K : ∀ σ', CI σ' x (mBeg st c s w) → (∀ q, (q < x ∨ x + 423 ≤ q) → σ'.1 q = σ.1 q) → σ'.2 = σ.2 → Q (some (.int (nI c))) σ') : aX (d + 7) iX6_begin 0 [some (.ref x), some (.int (nI s)), some (.int (nI w))] [] σ Q := by
  obtain ⟨hx, hT, hF, o, rc, hi, hH, hr⟩ := id hC
  have hok := hK.1
  have hu := mK_u hK hc (by omega)
  exact cx_begin hx hT hH hok hr (fun τ Q' hT' K' => cv_beg hT' hok hc h12 hu hs hw hv K') (nI_nn (by omega)) (fun σ' t1 t2 t3 => K σ' (CI_ch hC t1 t2 (hRec_ok hH.2.2.1 hok hr) t3) (fun q hq => t3.1 q (by omega)) t3.2)
theorem c_beginE (hC : CI σ x st) (hK : mK st) (hc : st 34 = nI c) (h12 : c < 12) {s w : Nat} (hv : mWBeg st (nI s) (nI w) c = -5) (K : ∀ σ', CI σ' x st → (∀ q, (q < x ∨ x + 423 ≤ q) → σ'.1 q = σ.1 q) → σ'.2 = σ.2 → Q (some (.int (-5))) σ') : aX (d + 7) iX6_begin 0 [some (.ref x), some (.int (nI s)), some (.int (nI w))] [] σ Q := by
  obtain ⟨hx, hT, hF, o, rc, hi, hH, hr⟩ := id hC
  have hok := hK.1
  have hu := mK_u hK hc (by omega)
  exact cx_beginE hx hT hH hok hr (fun τ Q' hT' K' => (cv_begE hT' hc (by omega) hu hv (eq_false (by decide))).mpr (K' τ hT' (Fr_refl _ _ _))) (by decide) (fun σ' t1 t2 t3 => K σ' (CI_ch hC t1 t2 hr t3) (fun q hq => t3.1 q (by omega)) t3.2)
theorem c_tell (hC : CI σ x st) (hok : mOK st) (hc : st 34 = nI c) (h12 : c ≤ 12) {a n p : Nat} (ha : a < c) (hn : st (35 + 28 * a + 1) = nI n) (h8 : n ≤ 8) (hv : mWTell st a n (nI p) = nI 0) (K : ∀ σ', CI σ' x (upd st (35 + 28 * a + 3) (nI p)) → (∀ q, (q < x ∨ x + 423 ≤ q) → σ'.1 q = σ.1 q) → σ'.2 = σ.2 → Q (some (.int (if st (35 + 28 * a + 3) = -6 then nI 0 else nI 1))) σ') : aX (d + 7) iX6_tell 0 [some (.ref x), some (.int (nI a)), some (.int (nI p))] [] σ Q := by
  obtain ⟨hx, hT, hF, o, rc, hi, hH, hr⟩ := id hC
  have hnn : nI 0 ≤ (if st (35 + 28 * a + 3) = -6 then nI 0 else nI 1) := by
    split
    · exact nI_nn (n := 0) (by omega)
    · exact nI_nn (n := 1) (by omega)
  exact cx_tell hx hT hH hok hr (fun τ Q' hT' K' => cv_tell hT' hok hc h12 ha hn h8 hv K') hnn (fun σ' t1 t2 t3 => K σ' (CI_ch hC t1 t2 (hRec_ok hH.2.2.1 hok hr) t3) (fun q hq => t3.1 q (by omega)) t3.2)
theorem c_tellE (hC : CI σ x st) (hok : mOK st) (hc : st 34 = nI c) (h12 : c ≤ 12) {a n p : Nat} (ha : a < c) (hn : st (35 + 28 * a + 1) = nI n) (h8 : n ≤ 8) (hv : mWTell st a n (nI p) = -5) (K : ∀ σ', CI σ' x st → (∀ q, (q < x ∨ x + 423 ≤ q) → σ'.1 q = σ.1 q) → σ'.2 = σ.2 → Q (some (.int (-5))) σ') : aX (d + 7) iX6_tell 0 [some (.ref x), some (.int (nI a)), some (.int (nI p))] [] σ Q := by
  obtain ⟨hx, hT, hF, o, rc, hi, hH, hr⟩ := id hC
  exact cx_tellE hx hT hH hok hr (fun τ Q' hT' K' => (cv_tellE hT' hok hc h12 ha hn h8 hv (eq_false (by decide))).mpr (K' τ hT' (Fr_refl _ _ _))) (by decide) (fun σ' t1 t2 t3 => K σ' (CI_ch hC t1 t2 hr t3) (fun q hq => t3.1 q (by omega)) t3.2)
theorem c_round (hC : CI σ x st) (hok : mOK st) (hc : st 34 = nI c) (h12 : c ≤ 12) (K : ∀ σ', CI σ' x (mRnd st c) → (∀ q, (q < x ∨ x + 423 ≤ q) → σ'.1 q = σ.1 q) → σ'.2 = σ.2 → Q (some (.int (nI (mHow (mRnd st c) (nI 0) c)))) σ') : aX (d + 7) iX6_round 0 [some (.ref x)] [] σ Q := by
  obtain ⟨hx, hT, hF, o, rc, hi, hH, hr⟩ := id hC
  have hle := mHow_le (st := mRnd st c) (v := nI 0) c
  exact cx_round hx hT hH hok hr (fun τ Q' hT' K' => cv_makeRound hok hc h12 hT' K') (nI_nn (by omega)) (fun σ' t1 t2 t3 => K σ' (CI_ch hC t1 t2 (hRec_ok hH.2.2.1 hok hr) t3) (fun q hq => t3.1 q (by omega)) t3.2)
theorem c_clear (hC : CI σ x st) (hok : mOK st) (hc : st 34 = nI c) (h12 : c ≤ 12) (K : ∀ σ', CI σ' x (mClear st c) → (∀ q, (q < x ∨ x + 423 ≤ q) → σ'.1 q = σ.1 q) → σ'.2 = σ.2 → Q (some (.int (nI (c - mGR st c)))) σ') : aX (d + 7) iX6_clear 0 [some (.ref x)] [] σ Q := by
  obtain ⟨hx, hT, hF, o, rc, hi, hH, hr⟩ := id hC
  exact cx_clear hx hT hH hok hr (fun τ Q' hT' K' => cv_clear hT' hok hc h12 K') (nI_nn (by omega)) (fun σ' t1 t2 t3 => K σ' (CI_ch hC t1 t2 (hRec_ok hH.2.2.1 hok hr) t3) (fun q hq => t3.1 q (by omega)) t3.2)
end CC
