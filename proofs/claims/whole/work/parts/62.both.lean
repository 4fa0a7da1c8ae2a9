/-! THE LAW: class and reference side by side -/
def ClC (σ : aS) (x : Nat) (st : Nat → Int32) (o rc : Nat) (hi sl sv : Nat → Int32) (L : Nat) (sg : Nat → Int32) : Prop := σ.1 x = some (xO x) ∧ TabR σ (x + 1) st ∧ (∃ P, FoS σ (x + 42) P) ∧ HisR σ (x + 47) o rc hi ∧ SloR σ x sl sv ∧ ∃ po ki fi se, PaC σ (x + 337) L sg po ki fi se
def InV (st : Nat → Int32) (rc : Nat) (hi sl sv : Nat → Int32) (L : Nat) (pd sg : Nat → Int32) : Prop := mK st ∧ (∀ i, i < rc → mK (hRow hi i)) ∧ (∀ s, s < 2 → sv s = nI 0 ∨ (sv s = nI 1 ∧ mK (sRow sl s))) ∧ pOK pd L ∧ ∀ q, q < L → sg q = pd q
def LaI (σ : aS) (x m : Nat) : Prop := ∃ st o rc hi sl sv L sg pd kp at' le fi se, ClC σ x st o rc hi sl sv L sg ∧ MoC σ m (mF m (nI rc) (nI L) at' le fi se) kp hi sl sv pd st ∧ InV st rc hi sl sv L pd sg
theorem FoS_keep {σ σ' : aS} {fc : Nat} {P : Nat → Int32} (h : ∀ q, fc ≤ q → q < fc + 5 → σ'.1 q = σ.1 q) (hF : FoS σ fc P) : FoS σ' fc P := by
  obtain ⟨r, ow, pg, hw, tn, tp, f, g, hFC⟩ := hF
  exact ⟨r, ow, pg, hw, tn, tp, f, g, FoC_keep h hFC⟩
theorem PaC_keep {σ σ' : aS} {w L : Nat} {sg : Nat → Int32} {po ki fi se : Int32} (h : ∀ q, w ≤ q → q < w + 2 → σ'.1 q = σ.1 q) (hp : PaC σ w L sg po ki fi se) : PaC σ' w L sg po ki fi se := ⟨(h _ (by omega) (by omega)).trans hp.1, (h _ (by omega) (by omega)).trans hp.2⟩
theorem ClC_keep {σ σ' : aS} {x : Nat} {st : Nat → Int32} {o rc : Nat} {hi sl sv : Nat → Int32} {L : Nat} {sg : Nat → Int32} (h : ∀ q, x ≤ q → q < x + 423 → σ'.1 q = σ.1 q) (hC : ClC σ x st o rc hi sl sv L sg) : ClC σ' x st o rc hi sl sv L sg := by
  obtain ⟨h0, h1, ⟨P, h2⟩, h3, h4, po, ki, fi, se, h5⟩ := hC
  exact ⟨(h _ (by omega) (by omega)).trans h0, TabR_keep (fun q a b => h q (by omega) (by omega)) h1, ⟨P, FoS_keep (fun q a b => h q (by omega) (by omega)) h2⟩, HisR_keep (fun q a b => h q (by omega) (by omega)) h3, SloR_keep (fun q a b => h q (by omega) (by omega)) h4, po, ki, fi, se, PaC_keep (fun q a b => h q (by omega) (by omega)) h5⟩
theorem MoC_T {σ : aS} {m : Nat} {fs : List Value} {kp hi sl sv pd st : Nat → Int32} (h : MoC σ m fs kp hi sl sv pd st) : mT σ m fs kp hi sl sv pd st = σ := by
  obtain ⟨h0, h1, h2, h3, h4, h5, h6⟩ := h
  unfold mT mS mU
  rw [aput_self h0, aput_self h2, aput_self h3, aput_self h4, aput_self h5, aput_self h6, aput_self h1]
theorem MoC_mk {σ : aS} {m : Nat} {fs : List Value} {kp hi sl sv pd st : Nat → Int32} : MoC (mT σ m fs kp hi sl sv pd st) m fs kp hi sl sv pd st := ⟨mT_0, mT_1, mT_2, mT_3, mT_4, mT_5, mT_6⟩
theorem MoC_keep {σ σ' : aS} {m : Nat} {fs : List Value} {kp hi sl sv pd st : Nat → Int32} (hk : ∀ q, m ≤ q → σ'.1 q = σ.1 q) (h : MoC σ m fs kp hi sl sv pd st) : MoC σ' m fs kp hi sl sv pd st := by
  obtain ⟨h0, h1, h2, h3, h4, h5, h6⟩ := h
  exact ⟨(hk _ (by omega)).trans h0, (hk _ (by omega)).trans h1, (hk _ (by omega)).trans h2, (hk _ (by omega)).trans h3, (hk _ (by omega)).trans h4, (hk _ (by omega)).trans h5, (hk _ (by omega)).trans h6⟩
theorem LaI_mk {τ : aS} {x m : Nat} {st : Nat → Int32} {o rc : Nat} {hi sl sv : Nat → Int32} {L : Nat} {sg pd kp : Nat → Int32} {at' le fi se : Int32} (hm : x + 423 ≤ m) (hC : ClC τ x st o rc hi sl sv L sg) (hV : InV st rc hi sl sv L pd sg) : LaI (mT τ m (mF m (nI rc) (nI L) at' le fi se) kp hi sl sv pd st) x m :=
  ⟨st, o, rc, hi, sl, sv, L, sg, pd, kp, at', le, fi, se, ClC_keep (fun q a b => mT_ne (by omega)) hC, MoC_mk, hV⟩
/-- a call of the class and the same call of the reference: one answer, and all goes on as it was -/
def Bo (D mi mj : Nat) (L1 L2 : aL) (σ : aS) (x m : Nat) : Prop := aX D mi 0 L1 [] σ (fun r τ => ∃ v, r = some (.int v) ∧ (∀ q, (q < x ∨ m ≤ q) → τ.1 q = σ.1 q) ∧ aX D mj 0 L2 [] τ (fun r2 τ2 => r2 = some (.int v) ∧ LaI τ2 x m ∧ τ2.2 = σ.2 ∧ ∀ q, q < x → τ2.1 q = σ.1 q))
section BO
variable {D mi mj x m : Nat} {L1 L2 : aL} {σ : aS} {v : Int32} {st st' : Nat → Int32} {o rc o' rc' : Nat} {hi sl sv hi' sl' sv' : Nat → Int32} {L L' : Nat} {sg sg' pd pd' kp kp' : Nat → Int32} {at' le fi se at2 le2 fi2 se2 : Int32}
theorem Bo_gen (hm : x + 423 ≤ m) (hM : MoC σ m (mF m (nI rc) (nI L) at' le fi se) kp hi sl sv pd st) (hcls : ∀ Q : aQ, (∀ σ', ClC σ' x st' o' rc' hi' sl' sv' L' sg' → (∀ q, (q < x ∨ x + 423 ≤ q) → σ'.1 q = σ.1 q) → σ'.2 = σ.2 → Q (some (.int v)) σ') → aX D mi 0 L1 [] σ Q) (hmod : ∀ (τ : aS) (Q : aQ), Q (some (.int v)) (mT τ m (mF m (nI rc') (nI L') at2 le2 fi2 se2) kp' hi' sl' sv' pd' st') → aX D mj 0 L2 [] (mT τ m (mF m (nI rc) (nI L) at' le fi se) kp hi sl sv pd st) Q) (hV : InV st' rc' hi' sl' sv' L' pd' sg') : Bo D mi mj L1 L2 σ x m := by
  refine hcls _ (fun τ hC hk h2 => ⟨v, rfl, fun q hq => hk q (by omega), ?_⟩)
  have hMτ : MoC τ m (mF m (nI rc) (nI L) at' le fi se) kp hi sl sv pd st := MoC_keep (fun q hq => hk q (by omega)) hM
  have key := hmod τ (fun r2 τ2 => r2 = some (.int v) ∧ LaI τ2 x m ∧ τ2.2 = σ.2 ∧ ∀ q, q < x → τ2.1 q = σ.1 q) ⟨rfl, LaI_mk hm hC hV, h2, fun q hq => (mT_ne (by omega)).trans (hk q (by omega))⟩
  rw [MoC_T hMτ] at key
  exact key
theorem InV_rec (hV : InV st rc hi sl sv L pd sg) (h6 : rc ≤ 6) (hK : mK st') : InV st' (mRecN rc) (mRecH hi st rc) sl sv L pd sg := by
  obtain ⟨v1, v2, v3, v4, v5⟩ := hV
  refine ⟨hK, fun i hi2 => ?_, v3, v4, v5⟩
  have hrow := fun k (hk : k < 371) => hRow_rec (hi := hi) (st := st) (i := i) h6 hi2 hk
  unfold mRecN at hi2
  by_cases e6 : rc = 6
  · rw [if_pos e6] at hi2
    by_cases e : i = 5
    · exact mK_cong (fun k hk => by rw [hrow k hk, if_pos e6, if_pos e]) v1
    · exact mK_cong (fun k hk => by rw [hrow k hk, if_pos e6, if_neg e]) (v2 (i + 1) (by omega))
  · rw [if_neg e6] at hi2
    by_cases e : i = rc
    · exact mK_cong (fun k hk => by rw [hrow k hk, if_neg e6, if_pos e]) v1
    · exact mK_cong (fun k hk => by rw [hrow k hk, if_neg e6, if_neg e]) (v2 i (by omega))
/-- behind a change -/
theorem ClC_ch {σ' : aS} (hC : ClC σ x st o rc hi sl sv L sg) (hT : TabR σ' (x + 1) st') (hH : HisR σ' (x + 47) o' rc' hi') (hF : FrC σ σ' x) : ClC σ' x st' o' rc' hi' sl sv L sg := by
  obtain ⟨h0, h1, ⟨P, h2⟩, h3, h4, po, ki, fi, se, h5⟩ := hC
  exact ⟨(hF.1 _ (by omega)).trans h0, hT, ⟨P, FoS_keep (fun q a b => hF.1 q (by omega)) h2⟩, hH, SloR_keep (fun q a b => hF.1 q (by omega)) h4, po, ki, fi, se, PaC_keep (fun q a b => hF.1 q (by omega)) h5⟩
/-- behind a forecast -/
theorem ClC_fo {σ' : aS} {P' : Nat → Int32} (hC : ClC σ x st o rc hi sl sv L sg) (hP : FoS σ' (x + 42) P') (hF : Fr σ σ' (x + 42) 5) : ClC σ' x st o rc hi sl sv L sg := by
  obtain ⟨h0, h1, ⟨P, h2⟩, h3, h4, po, ki, fi, se, h5⟩ := hC
  exact ⟨(hF.1 _ (by omega)).trans h0, TabR_keep (fun q a b => hF.1 q (by omega)) h1, ⟨P', hP⟩, HisR_keep (fun q a b => hF.1 q (by omega)) h3, SloR_keep (fun q a b => hF.1 q (by omega)) h4, po, ki, fi, se, PaC_keep (fun q a b => hF.1 q (by omega)) h5⟩
end BO
