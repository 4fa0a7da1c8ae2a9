/-! ONE STEP: what the small machine does without a call, the machine does -/
section AST
variable {p : Program} {l : Launch} {e : Env} {R : Room} {s : State} {m : MethodId} {args : Array Value} {below : List Frame} {meth : Method} {cd : Code} {H : Heap} {locs : List Loc} {Z : State → Prop}
variable {D : va_G} {c : Nat → ClassId} {lo mi h0 s0 : Nat} {arr : Array Slot} {pc : Nat} {ls : aL} {st : List Value} {σ : aS}
/-- where the walk stands -/
def aW (p : Program) (l : Launch) (e : Env) (R : Room) (s : State) (m : MethodId) (args : Array Value) (below : List Frame) (meth : Method) (cd : Code) (h0 s0 : Nat) (Z : State → Prop) (H : Heap) (locs : List Loc) (σ : aS) (pc : Nat) (arr : Array Slot) (st : List Value) : Prop :=
  W p l e R s m args below meth cd H locs (σ.2.1 - h0) (σ.2.2 - s0) Z (F0 m pc arr st)
def aKo (D : va_G) (c : Nat → ClassId) (lo mi : Nat) (p : Program) (l : Launch) (e : Env) (R : Room) (s : State) (m : MethodId) (args : Array Value) (below : List Frame) (meth : Method) (cd : Code) (h0 s0 : Nat) (Z : State → Prop) (pc : Nat) (ls : aL) (st : List Value) (σ : aS) : Prop :=
  ∀ (arr : Array Slot) (H : Heap) (locs : List Loc), aLs arr (aMax mi) ls → aRel D c lo s σ H → va_S (fun q : Nat => lo ≤ q) s.heap H locs → aW p l e R s m args below meth cd h0 s0 Z H locs σ pc arr st
theorem aS_new {lo : Nat} {H0 H H1 : Heap} {locs : List Loc} (hS : va_S (fun q : Nat => lo ≤ q) H0 H locs) (z : H1.size = H.size + 1) (o : ∀ q : Nat, q < H.size → H1[q]? = H[q]?) : va_S (fun q : Nat => lo ≤ q) H0 H1 locs :=
  ⟨Nat.le_trans hS.1 (by omega), fun q h1 h2 => (o q (Nat.lt_of_lt_of_le h1 hS.1)).trans (hS.2.1 q h1 h2), hS.2.2⟩
theorem aCell0 {σ : aS} {H : Heap} (hR : aRel D c lo s σ H) {a n : Nat} {f : Nat → Int32} (ha : σ.1 a = some (eI n f)) : H[a]? = some (vp_cell (c 0) (n, .inl f)) := (hR.at ha trivial).2.2
theorem aArr0 (hF : aFix D c s) (n : Nat) (f : Nat → Int32) : s.isArrayOf (vp_cell (c 0) (n, .inl f)) .int := (hF.1.2 0 _ rfl).1 n (fun j => .int (f j))
theorem aF_link {own i ci k w : Nat} (h : aLk lF own i = some (ci, k, w)) : ci < 7 ∧ k < (aNw ci).2.2 ∧ Cond.fieldLink (aClass own) i ((aNw ci).2.1 k).1 ((aNw ci).2.1 k).2.1 ((aNw ci).2.1 k).2.2.1 ∈ aTbl := by
  obtain ⟨h1, h2, h3, h4⟩ := lF_ok _ (aLk_mem _ _ _ _ h)
  exact ⟨h3, h4, aTbl_in h1 h2⟩
theorem aC_link {own i ci w w2 w3 : Nat} (h : aLk lC own i = some (ci, w, w2, w3)) : ci < 7 ∧ Cond.classLink (aClass own) i (aNw ci).1 ∈ aTbl ∧ Cond.initialized (aNw ci).1 ∈ aTbl := by
  obtain ⟨h1, h2, h3, h4, h5, h6, h7⟩ := lC_ok _ (aLk_mem _ _ _ _ h)
  exact ⟨h7, aTbl_in h1 h2, aTbl_in h5 h6⟩
theorem aW_getf (C : aCtx D c p s args m meth cd mi) {i : Nat} {pc' : Nat} {ls' : aL} {st' : List Value} {σ' : aS} (hd : decode (aRec mi).2.1 pc = .ok (.getfield i, 3)) (h : aGetF (aOwn mi) pc ls st σ i = some (.inl (pc', ls', st', σ'))) (hl : aLs arr (aMax mi) ls) (hR : aRel D c lo s σ H) (hS : va_S (fun q : Nat => lo ≤ q) s.heap H locs)
    (kk : aKo D c lo mi p l e R s m args below meth cd h0 s0 Z pc' ls' st' σ') : aW p l e R s m args below meth cd h0 s0 Z H locs σ pc arr st := by
  obtain ⟨hx, hb, hml, hown, hr, hts, hlk, hin, hF⟩ := C
  obtain ⟨ci, k, w, a, r, fs, v, hlF, rfl, ha, hv, rfl, rfl, rfl, rfl⟩ := aGetF_inv h
  obtain ⟨h8, hk, hw⟩ := aF_link hlF
  exact va_get (D := D) (cl := vwCl) (ws := [(a, .inr (ci, fs))]) (tys := aTys c) (C := (aNw ci).1) (T := (aNw ci).2.1) (N := (aNw ci).2.2) hx hb hts (aLay h8) hown hF.1 (aP1 (hR.at ha trivial).2.2) 0 rfl (aNw_at h8) k hk (hts _ hw) (fun _ h => h) hv hd (kk _ _ _ hl hR hS)
theorem aFit_inv {ci k : Nat} {v : Value} (h : aFit ci k v = true) : ∃ ty, parseFieldDescriptor ((aNw ci).2.1 k).2.2.1 = some ty ∧ narrow ty v = v ∧ fits ty v = true := by
  unfold aFit at h
  split at h
  · rename_i ty e
    simp only [Bool.and_eq_true, decide_eq_true_eq] at h
    exact ⟨ty, e, h⟩
  · cases h
theorem aW_putf (C : aCtx D c p s args m meth cd mi) {i : Nat} {pc' : Nat} {ls' : aL} {st' : List Value} {σ' : aS} (hd : decode (aRec mi).2.1 pc = .ok (.putfield i, 3)) (h : aPutF mi pc ls st σ i = some (.inl (pc', ls', st', σ'))) (hl : aLs arr (aMax mi) ls) (hR : aRel D c lo s σ H) (hS : va_S (fun q : Nat => lo ≤ q) s.heap H locs)
    (kk : aKo D c lo mi p l e R s m args below meth cd h0 s0 Z pc' ls' st' σ') : aW p l e R s m args below meth cd h0 s0 Z H locs σ pc arr st := by
  obtain ⟨hx, hb, hml, hown, hr, hts, hlk, hin, hF⟩ := C
  obtain ⟨ci, k, w, a, r, fs, v, hlF, rfl, ha, hlen, hfit, hfin, rfl, rfl, rfl, rfl⟩ := aPutF_inv h
  obtain ⟨h8, hk, hw⟩ := aF_link hlF
  obtain ⟨ty, hty, hn, hft⟩ := aFit_inv hfit
  have hc := aNw_at h8
  have hap := va_apart (D := D) (cl := vwCl) (own := aClass (aOwn mi)) (tys := aTys c) (s := s) (args := args) (Ts := aTbl) hts (aLay h8) (aTyf ci) (aTyf_ok h8) (aNms h8) hF.1 hc
  obtain ⟨q0l, q0h, q0⟩ := hR.at ha trivial
  obtain ⟨rr, h1, cell, q1, q2, q3, q4⟩ := q0
  have hrr : rr = aNw ci := Option.some.inj (h1.symm.trans hc)
  subst hrr
  obtain ⟨hSl, hfc, kC, hkC, hkind⟩ := hF.1.1 ci _ hc
  obtain ⟨cf, kf, fi, f, hi, hsl⟩ := hSl k hk
  have hlay := hts _ (aLay h8 _ (u_in_lay hk))
  have hst := (u_facts hfc hkC (u_lays hts (aLay h8) hk) hi).1
  have fin : ∀ H' : Heap, H'[a]? = some (cell.setSlot f.slot v) → H'.size = H.size → (∀ q, q ≠ a → H'[q]? = H[q]?) → W p l e R s m args below meth cd H' (locs ++ [⟨a, f.slot⟩]) (σ.2.1 - h0) (σ.2.2 - s0) Z (F0 m (pc + 3) arr st') := by
    intro H' e1 e2 e3
    rw [hsl] at e1 ⊢
    refine kk arr H' _ hl (hR.put ha trivial trivial ?_ e2 e3) (hS.put e2 e3 q0l)
    exact ⟨_, hc, t_OB.to (V := updV (vp_V fs) k v) ⟨_, e1, q2, q3, t_set q4 hap hk v⟩ (fun j _ => vp_updV_set hlen v j)⟩
  by_cases hff : ((aNw ci).2.1 k).2.2.2 = true
  · unfold u_lay at hlay
    rw [if_pos hff] at hlay
    unfold aFin at hfin
    rw [if_pos hff] at hfin
    simp only [Bool.and_eq_true, decide_eq_true_eq] at hfin
    have hcf : m.cls = cf := by
      obtain ⟨_, _, c', _, _, _, -, -, hf', -, -, -, hown2, -⟩ := Cond.laysFinal_spec hlay
      have e1 : c' = cf := by have := hi.symm.trans hf'; simp at this; exact this.1.symm
      rw [hfin.2] at hown2
      rw [← e1]; exact Option.some.inj (hown.symm.trans hown2)
    have h6 := u_fits hfc hkC hkind (Or.inr hlay) hi hty hn hft
    exact W.putFinK hx hb hown (hts _ hw) hi hst hcf (hin hfin.1) (by rw [q2]; exact h6) q1 q3 (by rw [hsl]; exact k2_hasslot (q4 k hk)) rfl rfl hd fin
  · unfold u_lay at hlay
    rw [if_neg hff] at hlay
    have h6 := u_store hfc hkC hkind hlay hi hty hn hft
    exact W.putK hx hb (f := f) ⟨hown, hts _ hw, ⟨_, _, _, hi⟩, hst⟩ (by rw [q2]; exact h6) q1 q3 (by rw [hsl]; exact k2_hasslot (q4 k hk)) rfl rfl hd fin
theorem aW_iald (C : aCtx D c p s args m meth cd mi) {pc' : Nat} {ls' : aL} {st' : List Value} {σ' : aS} (hd : decode (aRec mi).2.1 pc = .ok (.iaload, 1)) (h : aIld pc ls st σ = some (.inl (pc', ls', st', σ'))) (hl : aLs arr (aMax mi) ls) (hR : aRel D c lo s σ H) (hS : va_S (fun q : Nat => lo ≤ q) s.heap H locs)
    (kk : aKo D c lo mi p l e R s m args below meth cd h0 s0 Z pc' ls' st' σ') : aW p l e R s m args below meth cd h0 s0 Z H locs σ pc arr st := by
  obtain ⟨hx, hb, hml, hown, hr, hts, hlk, hin, hF⟩ := C
  obtain ⟨i, a, r, n, f, rfl, ha, hi, rfl, rfl, rfl, rfl⟩ := aIld_inv h
  rcases ha with ha | ha
  · exact va_iald (D := D) (cl := vwCl) (tys := aTys c) (ws := [(a, .inl (c 0, n, .inl f))]) hx hb hF.1 (aP1 (hR.at ha trivial).2.2) 0 0 rfl rfl hi hd (kk _ _ _ hl hR hS)
  · obtain ⟨-, scr, g1, g2, g3, g4, g5⟩ := hR.scr ha
    have hlt : i.toNatClampNeg < n := Nat.not_le.mp fun q => hi (Or.inr q)
    exact W.iald (v := .int (f i.toNatClampNeg)) hx hb g1 g2 g3 (by rw [g4]; exact hi) (g5 _ hlt) rfl rfl hd (kk _ _ _ hl hR hS)
theorem aW_iast (C : aCtx D c p s args m meth cd mi) {pc' : Nat} {ls' : aL} {st' : List Value} {σ' : aS} (hd : decode (aRec mi).2.1 pc = .ok (.iastore, 1)) (h : aIst pc ls st σ = some (.inl (pc', ls', st', σ'))) (hl : aLs arr (aMax mi) ls) (hR : aRel D c lo s σ H) (hS : va_S (fun q : Nat => lo ≤ q) s.heap H locs)
    (kk : aKo D c lo mi p l e R s m args below meth cd h0 s0 Z pc' ls' st' σ') : aW p l e R s m args below meth cd h0 s0 Z H locs σ pc arr st := by
  obtain ⟨hx, hb, hml, hown, hr, hts, hlk, hin, hF⟩ := C
  obtain ⟨x, i, a, r, n, f, rfl, ha, hi, rfl, rfl, rfl, rfl⟩ := aIst_inv h
  refine W.iast hx hb (aCell0 hR ha) (aArr0 hF n f) (fun q => by cases q) (by show ¬ (i < 0 ∨ (arrV _ _ _).slots.size ≤ _); rw [arrV_size]; exact hi) rfl rfl hd fun H1 e1 z oq => ?_
  refine kk arr H1 _ hl (hR.put ha trivial trivial ?_ z oq) (hS.put z oq (hR.at ha trivial).1)
  show H1[a]? = some (vp_cell _ _)
  rw [e1]
  rw [vp_cell_i, vp_cell_i, arrV_store]
  congr 2
  funext q
  by_cases hq : q = i.toNatClampNeg
  · subst hq
    simp [updV, upd]
  · simp [updV, upd, hq]
theorem aTys_at {j ci : Nat} (h : aQc j = ci) (hj : j = 1 ∨ j = 2 ∨ j = 3) : (aTys c)[j]? = some (c j, .object (aNw ci).1) ∧ ci < 7 := by
  subst h
  rcases hj with rfl | rfl | rfl <;> exact ⟨rfl, by decide⟩
theorem aW_aald (C : aCtx D c p s args m meth cd mi) {pc' : Nat} {ls' : aL} {st' : List Value} {σ' : aS} (hd : decode (aRec mi).2.1 pc = .ok (.aaload, 1)) (h : aQld pc ls st σ = some (.inl (pc', ls', st', σ'))) (hl : aLs arr (aMax mi) ls) (hR : aRel D c lo s σ H) (hS : va_S (fun q : Nat => lo ≤ q) s.heap H locs)
    (kk : aKo D c lo mi p l e R s m args below meth cd h0 s0 Z pc' ls' st' σ') : aW p l e R s m args below meth cd h0 s0 Z H locs σ pc arr st := by
  obtain ⟨hx, hb, hml, hown, hr, hts, hlk, hin, hF⟩ := C
  obtain ⟨i, a, r, j, n, f, rfl, ha, hi, rfl, rfl, rfl, rfl⟩ := aQld_inv h
  have hj := hR.isOK ha
  obtain ⟨ht, -⟩ := aTys_at (c := c) rfl hj
  exact va_aldq (D := D) (cl := vwCl) (tys := aTys c) (ws := [(a, .inl (c j, n, .inr (.inr (.inr (.inr f)))))]) hx hb hF.1 (aP1 (hR.at ha hj).2.2) 0 j rfl ht hi hd (kk _ _ _ hl hR hS)
theorem aW_aast (C : aCtx D c p s args m meth cd mi) {pc' : Nat} {ls' : aL} {st' : List Value} {σ' : aS} (hd : decode (aRec mi).2.1 pc = .ok (.aastore, 1)) (h : aQst pc ls st σ = some (.inl (pc', ls', st', σ'))) (hl : aLs arr (aMax mi) ls) (hR : aRel D c lo s σ H) (hS : va_S (fun q : Nat => lo ≤ q) s.heap H locs)
    (kk : aKo D c lo mi p l e R s m args below meth cd h0 s0 Z pc' ls' st' σ') : aW p l e R s m args below meth cd h0 s0 Z H locs σ pc arr st := by
  obtain ⟨hx, hb, hml, hown, hr, hts, hlk, hin, hF⟩ := C
  obtain ⟨v, i, a, r, j, n, f, ci, fs, rfl, ha, hv, hi, hq, rfl, rfl, rfl, rfl⟩ := aQst_inv h
  have hj := hR.isOK ha
  obtain ⟨ht, h8⟩ := aTys_at (c := c) hq hj
  have hlt : i.toNatClampNeg < n := Nat.not_le.mp fun q => hi (Or.inr q)
  have hi0 : ¬ i < 0 := fun q => hi (Or.inl q)
  obtain ⟨r', hr', cellV, g1, g2, g3, -⟩ := (hR.at hv trivial).2.2
  have hcls := (hF.1.1 ci _ (aNw_at h8)).2
  obtain ⟨kA, comp, k1, k2, k3, -⟩ := (hF.1.2 j _ ht).2
  have hcomp : comp = D.1 ci := Option.some.inj (k3.symm.trans hcls.1)
  subst hcomp
  obtain ⟨kC, hkC, -⟩ := hcls.2
  have hca : H[a]? = some (vp_cell (c j) (n, .inr (.inr (.inr (.inr f))))) := (hR.at ha hj).2.2
  refine W.aast hx hb hca (fun q h => by cases h) (fun h => by cases h) k1 k2 rfl hkC ⟨hi0, by show _ < (arrV _ _ _).slots.size; rw [arrV_size]; exact hlt⟩ g1 (fun q h => by rw [g3] at h; cases h) (by rw [g2]; exact hkC) (by rw [g2]; exact va_assign hcls) rfl rfl hd fun H1 e1 z oq => ?_
  refine kk arr H1 _ hl (hR.put ha hj hj ?_ z oq) (hS.put z oq (hR.at ha hj).1)
  show H1[a]? = some (vp_cell _ _)
  rw [e1]
  rw [vp_cell_q, vp_cell_q, arrV_store]
  congr 2
  funext q
  by_cases hq : q = i.toNatClampNeg
  · subst hq
    simp [updV, va_up, va_rf]
  · simp [updV, va_up, hq]
theorem aW_alen (C : aCtx D c p s args m meth cd mi) {pc' : Nat} {ls' : aL} {st' : List Value} {σ' : aS} (hd : decode (aRec mi).2.1 pc = .ok (.arraylength, 1)) (h : aLen pc ls st σ = some (.inl (pc', ls', st', σ'))) (hl : aLs arr (aMax mi) ls) (hR : aRel D c lo s σ H) (hS : va_S (fun q : Nat => lo ≤ q) s.heap H locs)
    (kk : aKo D c lo mi p l e R s m args below meth cd h0 s0 Z pc' ls' st' σ') : aW p l e R s m args below meth cd h0 s0 Z H locs σ pc arr st := by
  obtain ⟨hx, hb, hml, hown, hr, hts, hlk, hin, hF⟩ := C
  obtain ⟨a, r, n, rfl, ha, rfl, rfl, rfl, rfl⟩ := aLen_inv h
  rcases ha with ⟨f, ha⟩ | ⟨f, ha⟩ | ⟨j, f, ha⟩
  · exact va_alen (D := D) (cl := vwCl) (tys := aTys c) (ws := [(a, .inl (c 0, n, .inl f))]) hx hb hF.1 (aP1 (hR.at ha trivial).2.2) 0 0 rfl rfl rfl hd (kk _ _ _ hl hR hS)
  · obtain ⟨-, scr, g1, g2, g3, g4, g5⟩ := hR.scr ha
    exact W.alen (n := Int32.ofNat n) hx hb g1 g2 (by rw [g4] <;> rfl) rfl rfl hd (kk _ _ _ hl hR hS)
  · have hj := hR.isOK ha
    obtain ⟨ht, -⟩ := aTys_at (c := c) rfl hj
    exact va_alen (D := D) (cl := vwCl) (tys := aTys c) (ws := [(a, .inl (c j, n, .inr (.inr (.inr (.inr f)))))]) hx hb hF.1 (aP1 (hR.at ha hj).2.2) 0 j rfl ht rfl hd (kk _ _ _ hl hR hS)
theorem aNat8 {r : List Value} {n : Nat} (h : 35 ≤ n) (h8 : (r.map fun v => v.category).sum ≤ 8) : 2 * 0 + (r.map fun v => v.category).sum + (nativeFrameWords "java/lang/System" "arraycopy" 5 + 11) ≤ n := by
  have hw : nativeFrameWords "java/lang/System" "arraycopy" 5 = 7 := by decide +kernel
  rw [hw]
  omega
theorem aW_copy (C : aCtx D c p s args m meth cd mi) (hfr : 1 ≤ R.frames) (hlo : 35 ≤ R.locals) {i pc' : Nat} {ls' : aL} {st' : List Value} {σ' : aS} (hd : decode (aRec mi).2.1 pc = .ok (.invokestatic i, 3)) (hlink : Cond.methodLink (aClass (aOwn mi)) i arraycopyName ∈ aTbl) (h : aCpy pc ls st σ = some (.inl (pc', ls', st', σ'))) (hl : aLs arr (aMax mi) ls) (hR : aRel D c lo s σ H) (hS : va_S (fun q : Nat => lo ≤ q) s.heap H locs)
    (kk : aKo D c lo mi p l e R s m args below meth cd h0 s0 Z pc' ls' st' σ') : aW p l e R s m args below meth cd h0 s0 Z H locs σ pc arr st := by
  obtain ⟨hx, hb, hml, hown, hr, hts, hlk, hin, hF⟩ := C
  obtain ⟨n, dp, a, sp, a0, r, n0, f, n1, g, rfl, ha0, ha1, ⟨h1, h2, h3, h4, h5, h6⟩, rfl, rfl, rfl, rfl⟩ := aCpy_inv h
  have nn : ∀ z : Int32, ¬ z < 0 → z.toInt = (z.toNatClampNeg : Int) := by
    intro z hz
    have hz0 : (0 : Int) ≤ z.toInt := by
      have := Int32.not_lt.mp hz
      simpa using Int32.le_iff_toInt_le.mp this
    show z.toInt = ((z.toInt.toNat : Nat) : Int)
    omega
  intro T hT X
  have hc0 : H[a0]? = some (vp_cell (c 0) (n0, .inl f)) := aCell0 hR ha0
  have hc1 : H[a]? = some (vp_cell (c 0) (n1, .inl g)) := aCell0 hR ha1
  obtain ⟨-, k0, hk0, cm0, hkk0⟩ := aArr0 hF n0 f
  obtain ⟨-, k1, hk1, cm1, hkk1⟩ := aArr0 hF n1 g
  have h8 := aCats8 h6
  obtain ⟨vm', X', step⟩ := X.arraycopy hx hown (hts _ hlink) (hts _ (aTbl_in aW_acN.1 aW_acN.2)) (hts _ (aTbl_in aW_acS.1 aW_acS.2)) (hts _ (aTbl_in aW_acI.1 aW_acI.2)) (src := a0) (dst := a) (cs := vp_cell (c 0) (n0, .inl f)) (cd := vp_cell (c 0) (n1, .inl g)) (srcPos := sp) (destPos := dp) (n := n) (by rw [hT]; exact hc0) (by rw [hT]; exact hc1)
    (fun _ h => by cases h) (fun _ h => by cases h) (fun h => by cases h) (fun h => by cases h) hk0 hk1 hkk0 hkk1 (by simp [refKind]) h1 h2 h3
    (by rw [nn sp h1, nn n h3]; show ¬ _ > ((arrV (c 0) n0 (fun j => .int (f j))).slots.size : Int); rw [arrV_size]; omega)
    (by rw [nn dp h2, nn n h3]; show ¬ _ > ((arrV (c 0) n1 (fun j => .int (g j))).slots.size : Int); rw [arrV_size]; omega)
    (fun vm₁ _ i hi => by
      have e : (vp_cell (c 0) (n0, .inl f)).slots.getD (sp.toNatClampNeg + i) .null = .int (f (sp.toNatClampNeg + i)) := by
        show (arrV (c 0) n0 (fun j => .int (f j))).slots.getD _ _ = _
        rw [Array.getD_eq_getD_getElem?, arrV_read _ _ (by omega)]
        rfl
      refine ⟨?_, ?_⟩
      · rw [e]
        rfl
      · rw [e]
        exact trivial)
    (g := F0 m pc arr (.int n :: .int dp :: .ref a :: .int sp :: .ref a0 :: st')) rfl (by rw [hml]; exact hl.size) (rest := st') rfl (by rw [hb]; exact hd) hfr (aNat8 hlo h8)
  have e1 : copied (vp_cell (c 0) (n0, .inl f)) (vp_cell (c 0) (n1, .inl g)) sp dp n = vp_cell (c 0) (n1, .inl (va_cpy f g sp.toNatClampNeg dp.toNatClampNeg n.toNatClampNeg)) := va_copied (fun z => .int z) (c 0) (c 0) f g h4
  rw [e1] at X' step
  have hla : a < H.size := (Array.getElem?_eq_some_iff.mp hc1).1
  have hheap : ((T.setVm vm').setCell a (vp_cell (c 0) (n1, .inl (va_cpy f g sp.toNatClampNeg dp.toNatClampNeg n.toNatClampNeg)))).heap = H.setIfInBounds a (vp_cell (c 0) (n1, .inl (va_cpy f g sp.toNatClampNeg dp.toNatClampNeg n.toNatClampNeg))) := by rw [← hT]; rfl
  have oq : ∀ q : Nat, q ≠ a → (H.setIfInBounds a (vp_cell (c 0) (n1, .inl (va_cpy f g sp.toNatClampNeg dp.toNatClampNeg n.toNatClampNeg))))[q]? = H[q]? := fun q hq => by simp [Array.getElem?_setIfInBounds, Ne.symm hq]
  obtain ⟨t, a1, b1⟩ := kk arr _ _ hl (hR.put ha1 trivial trivial (show (H.setIfInBounds a _)[a]? = some _ by simp [Array.getElem?_setIfInBounds, hla]) (by simp) oq) ⟨by simp; exact hS.1, fun q g1 g2 => by
      rw [oq q (fun e => g2 (by rw [e]; exact (hR.at ha1 trivial).1))]
      exact hS.2.1 q g1 g2, fun q hq => by
      rcases List.mem_append.mp hq with h | h
      · exact hS.2.2 q h
      · obtain ⟨z, -, hz⟩ := List.mem_map.mp h
        rw [← hz]
        exact (hR.at ha1 trivial).1⟩ _ hheap X'
  exact ⟨t, step t a1, b1⟩
theorem aW_new (C : aCtx D c p s args m meth cd mi) {i pc' : Nat} {ls' : aL} {st' : List Value} {σ' : aS} (hd : decode (aRec mi).2.1 pc = .ok (.new i, 3)) (h : aAct mi pc (.new i) ls st σ = some (.inl (pc', ls', st', σ'))) (hl : aLs arr (aMax mi) ls) (hR : aRel D c lo s σ H) (hS : va_S (fun q : Nat => lo ≤ q) s.heap H locs) (hh : h0 ≤ σ.2.1 ∧ s0 ≤ σ.2.2) (hc : σ'.2.1 - h0 ≤ R.cells ∧ σ'.2.2 - s0 ≤ R.slots)
    (kk : aKo D c lo mi p l e R s m args below meth cd h0 s0 Z pc' ls' st' σ') : aW p l e R s m args below meth cd h0 s0 Z H locs σ pc arr st := by
  obtain ⟨hx, hb, hml, hown, hr, hts, hlk, hin, hF⟩ := C
  simp only [aAct] at h
  split at h
  · rename_i ci w hlC
    obtain ⟨rfl, rfl, rfl, rfl⟩ := aGo_inv h
    obtain ⟨w1, w2, w3⟩ := w
    obtain ⟨h8, hw1, hw2⟩ := aC_link hlC
    have hcl := aNw_at h8
    have hKn := hF.1.1 ci _ hcl
    have hz := hR.1
    obtain ⟨hh1, hh2⟩ := hh
    obtain ⟨hc1, hc2⟩ := hc
    have ec : (anew σ (eO ci (aDef ci)) (aNw ci).2.2).2.1 - h0 = (σ.2.1 - h0) + 1 := by show σ.2.1 + 1 - h0 = _; omega
    have es : (anew σ (eO ci (aDef ci)) (aNw ci).2.2).2.2 - s0 = (σ.2.2 - s0) + (aNw ci).2.2 := by show σ.2.2 + (aNw ci).2.2 - s0 = _; omega
    refine W.newcK hx hb hown (hts _ hw1) (hts _ (aW_inst _ (List.mem_of_getElem? hcl))) (hts _ hw2) rfl hd (by rw [← ec]; exact hc1) (by rw [← es]; exact hc2) hKn.2.1 hz fun H1 kC hkC e1 z1 o1 => ?_
    have o2 : ∀ q : Nat, q < H.size → H1[q]? = H[q]? := fun q hq => o1 q (by omega)
    have kz := kk arr H1 locs hl (hR.new trivial ⟨_, hcl, (u_born (aTyf ci) hts (aLay h8) hKn hkC (by rw [hz]; exact e1) (aTyf_ok h8)).to (aDef_at h8)⟩ (by omega) o2) (aS_new hS (by omega) o2)
    unfold aW at kz
    rw [ec, es] at kz
    exact kz
  · cases h
theorem aW_newa (C : aCtx D c p s args m meth cd mi) {t : ArrayType} {pc' : Nat} {ls' : aL} {st' : List Value} {σ' : aS} (hd : decode (aRec mi).2.1 pc = .ok (.newarray t, 2)) (h : aAct mi pc (.newarray t) ls st σ = some (.inl (pc', ls', st', σ'))) (hl : aLs arr (aMax mi) ls) (hR : aRel D c lo s σ H) (hS : va_S (fun q : Nat => lo ≤ q) s.heap H locs) (hh : h0 ≤ σ.2.1 ∧ s0 ≤ σ.2.2) (hc : σ'.2.1 - h0 ≤ R.cells ∧ σ'.2.2 - s0 ≤ R.slots)
    (kk : aKo D c lo mi p l e R s m args below meth cd h0 s0 Z pc' ls' st' σ') : aW p l e R s m args below meth cd h0 s0 Z H locs σ pc arr st := by
  obtain ⟨hx, hb, hml, hown, hr, hts, hlk, hin, hF⟩ := C
  simp only [aAct] at h
  split at h
  · rename_i n r
    split at h
    · rename_i hn
      obtain ⟨rfl, rfl, rfl, rfl⟩ := aGo_inv h
      have hz := hR.1
      obtain ⟨hh1, hh2⟩ := hh
      obtain ⟨hc1, hc2⟩ := hc
      have ec : (anew σ (eI n.toNatClampNeg (fun _ => 0)) n.toNatClampNeg).2.1 - h0 = (σ.2.1 - h0) + 1 := by show σ.2.1 + 1 - h0 = _; omega
      have es : (anew σ (eI n.toNatClampNeg (fun _ => 0)) n.toNatClampNeg).2.2 - s0 = (σ.2.2 - s0) + n.toNatClampNeg := by show σ.2.2 + n.toNatClampNeg - s0 = _; omega
      refine va_newaK (atype := .int) hx hb (hts _ (aTbl_in aW_arr.1 aW_arr.2)) rfl hd rfl hn.1 rfl (by show n.toNatClampNeg * 4 ≤ _; have := hn.2; omega) (by rw [← ec]; exact hc1) (by rw [← es]; exact hc2) hz fun H1 cA e1 z1 o1 hAr hNm => ?_
      have o2 : ∀ q : Nat, q < H.size → H1[q]? = H[q]? := fun q hq => o1 q (by omega)
      have hcA : cA = c 0 := by
        have h1 := (hF.1.2 0 _ rfl).2
        exact Option.some.inj (hNm.symm.trans h1)
      subst hcA
      have kz := kk arr H1 locs hl (hR.new trivial (show H1[H.size]? = some (vp_cell (c 0) (n.toNatClampNeg, .inl (fun _ => 0))) by rw [hz]; exact e1) (by omega) o2) (aS_new hS (by omega) o2)
      unfold aW at kz
      rw [ec, es] at kz
      exact kz
    · cases h
  · cases h
theorem aW_anew (C : aCtx D c p s args m meth cd mi) {i pc' : Nat} {ls' : aL} {st' : List Value} {σ' : aS} (hd : decode (aRec mi).2.1 pc = .ok (.anewarray i, 3)) (h : aAct mi pc (.anewarray i) ls st σ = some (.inl (pc', ls', st', σ'))) (hl : aLs arr (aMax mi) ls) (hR : aRel D c lo s σ H) (hS : va_S (fun q : Nat => lo ≤ q) s.heap H locs) (hh : h0 ≤ σ.2.1 ∧ s0 ≤ σ.2.2) (hc : σ'.2.1 - h0 ≤ R.cells ∧ σ'.2.2 - s0 ≤ R.slots)
    (kk : aKo D c lo mi p l e R s m args below meth cd h0 s0 Z pc' ls' st' σ') : aW p l e R s m args below meth cd h0 s0 Z H locs σ pc arr st := by
  obtain ⟨hx, hb, hml, hown, hr, hts, hlk, hin, hF⟩ := C
  simp only [aAct] at h
  split at h
  · rename_i ci w n r hlC
    split at h
    · rename_i hn
      obtain ⟨hn0, hn1, hq⟩ := hn
      obtain ⟨rfl, rfl, rfl, rfl⟩ := aGo_inv h
      obtain ⟨w1, w2, w3⟩ := w
      obtain ⟨h8, hw1, hw2⟩ := aC_link hlC
      have hz := hR.1
      obtain ⟨hh1, hh2⟩ := hh
      obtain ⟨hc1, hc2⟩ := hc
      have hj : aQj ci = 1 ∨ aQj ci = 2 ∨ aQj ci = 3 := by
        unfold aQj at hq ⊢
        split at hq <;> simp [aQc] at hq ⊢
        omega
      have ec : (anew σ (eQ (aQj ci) n.toNatClampNeg (fun _ => none)) n.toNatClampNeg).2.1 - h0 = (σ.2.1 - h0) + 1 := by show σ.2.1 + 1 - h0 = _; omega
      have es : (anew σ (eQ (aQj ci) n.toNatClampNeg (fun _ => none)) n.toNatClampNeg).2.2 - s0 = (σ.2.2 - s0) + n.toNatClampNeg := by show σ.2.2 + n.toNatClampNeg - s0 = _; omega
      obtain ⟨ht, -⟩ := aTys_at (c := c) hq hj
      have hAO : va_AO (aNw ci).1 s := by
        rw [← hq]
        rcases hj with e | e | e <;> rw [e]
        · exact hF.2.2.1
        · exact hF.2.2.2.1
        · exact hF.2.2.2.2
      refine W.anew hx hb hown (hts _ hw1) (va_AO.use hAO) rfl hd rfl hn0 (by omega) (by rw [← ec]; exact hc1) (by rw [← es]; exact hc2) fun cA kA comp f1 f2 f3 f4 => ?_
      generalize hH1 : H.push ({ cls := cA, slots := Array.replicate n.toNatClampNeg .null, vm := .none } : Cell) = H1
      have z1 : H1.size = H.size + 1 := by rw [← hH1, Array.size_push]
      have e1 : H1[H.size]? = some (arrV cA n.toNatClampNeg (fun _ => .null)) := by rw [← hH1, Array.getElem?_push_size, ← arrV_new]
      have o2 : ∀ q : Nat, q < H.size → H1[q]? = H[q]? := fun q hq => by rw [← hH1, Array.getElem?_push, if_neg (Nat.ne_of_lt hq)]
      have hcA : cA = c (aQj ci) := by
        obtain ⟨kB, comp2, g1, g2, g3, g4⟩ := (hF.1.2 (aQj ci) _ ht).2
        exact Option.some.inj (f1.symm.trans g4)
      subst hcA
      have kz := kk arr H1 locs hl (hR.new (e := eQ (aQj ci) n.toNatClampNeg (fun _ => none)) hj (show H1[H.size]? = some (vp_cell (c (aQj ci)) (n.toNatClampNeg, .inr (.inr (.inr (.inr (fun _ => none)))))) by rw [vp_cell_q]; exact e1) z1 o2) (aS_new hS z1 o2)
      unfold aW at kz
      rw [ec, es] at kz
      rw [hz]
      exact kz
    · cases h
  · cases h
end AST
