/-! THE CLAIM OUT OF ONE WALK OF THE LAW'S BODY. Your part is whole_start (and what it stands on); all else here is the same for every law, but numbers. -/
def R_law : String := "DoodleAlbumsLaw"
def lw_P (b : Addr) (xs : List Int32) (args : Array Value) (s : State) : Prop := args = #[.ref b] ∧ s.IntsAt b xs ∧ xs.length ≤ 260 ∧ (Jvm.Cond.and given_1 narrow_1).before args s = true
def lw_Q (_ : Array Value) (s : State) (o : Outcome) (t : State) : Prop := o = .returned (some (.int 1)) ∧ Framed s o t [] 730947 6909406
def lw_Z (below : List Frame) (a : Array Value) (s : State) : State → Prop := fun t => ∃ o, t.status = .running ∧ Ended t below o ∧ lw_Q a s o t
/-- the law's own end, with 1 on the stack, nothing written that was there before, its room as the claim has it -/
theorem lw_ret {p : Program} {l : Launch} {e : Env} {s : State} {m : MethodId} {below : List Frame} {meth : Method} {c : Code} {b : Nat} (hx : p.tables.exec = Jvm.exec) (hb : c.code = code) (hr : meth.sig.returnType = ret) (hlocks : meth.locks = false) {pc : Nat} {H : Heap} {ls : Array Slot} (hdg : decode code pc = .ok (.ireturn, 1)) : W p l e room_1 s m #[Value.ref b] below meth c H [] 730947 6909406 (lw_Z below #[Value.ref b] s) (F0 m pc ls [.int 1]) := by
  intro T hT X
  obtain ⟨fs, hret, hrun, hended, hW, hframe⟩ := X.leave (v := some (.int 1)) (hlocks := hlocks) (fun h => by rw [hr] at h; cases h)
  have hmeth' : T.vm.method? m = some meth := X.method'
  refine ⟨T.setFrames fs, ?_, .returned (some (.int 1)), hrun, hended, rfl, ⟨_, rfl⟩, hW, hframe⟩
  jvm_step X.here [X.here.top, hx, hb, hdg, hmeth', hr, ret, narrow_b1]
  (try refine ⟨rfl, ?_⟩); (try refine ⟨rfl, ?_⟩)
  first | (intro acts; rw [hret _ acts rfl rfl rfl]) | rw [hret _ _ rfl rfl rfl]
  exact Steps.refl _
/-- what holds at the law's entry: the machine, the code, the tables' words (any of lw_tbl by 'hts w (by decide +kernel)'), the script of L ints xs at the cell b, what the Statement gives of the start (any of its parts by flat_of_before) -/
def lw_At (p : Program) (s : State) (m : MethodId) (meth : Method) (c : Code) (b L : Nat) (xs : Nat → Int32) : Prop :=
  p.tables.exec = Jvm.exec ∧ c.code = code ∧ meth.sig.returnType = ret ∧ c.maxLocals = 20 ∧ s.vm.findClass R_law = some m.cls ∧ (∀ w ∈ lw_tbl, w.before #[Value.ref b] s = true) ∧ va_X b L xs s s.heap ∧ b < s.heap.size ∧ meth.locks = false ∧ (Jvm.Cond.and given_1 narrow_1).before #[Value.ref b] s = true
theorem aFix_start {s : State} {args : Array Value} {m : MethodId} (hts : ∀ w ∈ lw_tbl, w.before args s = true) : ∃ (D : va_G) (c : Nat → ClassId), aFix D c s := by
  have hcl : ∀ k : Nat, ∃ r : ClassId × (Nat → Nat), ∀ q : vw_C, vwCl[k]? = some q → u_Kn s q.1 q.2.1 q.2.2 r.1 r.2 := by
    intro k
    cases h : vwCl[k]? with
    | none => exact ⟨(m.cls, fun _ => 0), fun q hq => by cases hq⟩
    | some q0 =>
      have hq0 : q0 ∈ vwCl := List.mem_of_getElem? h
      have hin : ∀ w ∈ u_ws q0.1 q0.2.1 q0.2.2, w ∈ lw_tbl := fun w hw => (aW_lay q0 hq0 w hw).2
      have hi : (Cond.instantiable q0.1 q0.2.2).before args s = true := hts _ (List.mem_filter.mp (aW_inst q0 hq0)).1
      obtain ⟨cC, iS, hKn⟩ := u_known hts hin hi
      exact ⟨(cC, iS), fun q hq => by cases hq; exact hKn⟩
  obtain ⟨f, hf⟩ := Classical.axiomOfChoice hcl
  have ar : ∀ {C : String}, va_AO C s → ∃ cA : ClassId, ArrOfT s cA (.object C) ∧ va_RA s cA (.object C) := fun {C} h => by
    obtain ⟨comp, cA, kA, h1, h2, h3, h4, h5⟩ := Cond.arrayOver_spec (va_AO.use (A := args) h)
    exact ⟨cA, fun n z => ⟨fun k h => (by cases h), kA, h3, comp, h4⟩, kA, comp, h3, h4, h1, h5⟩
  have o1 : va_AO RX0 s := va_AO.of (hts _ (List.mem_of_getElem? aW_ao1))
  have o2 : va_AO RX5 s := va_AO.of (hts _ (List.mem_of_getElem? aW_ao2))
  have o3 : va_AO RX4 s := va_AO.of (hts _ (List.mem_of_getElem? aW_ao3))
  obtain ⟨c0, k0, p0, i1, i2, i3⟩ := Cond.arrayClass_spec (hts _ (List.mem_of_getElem? aW_arr.1))
  obtain ⟨c1, a1, r1⟩ := ar o1
  obtain ⟨c2, a2, r2⟩ := ar o2
  obtain ⟨c3, a3, r3⟩ := ar o3
  refine ⟨(fun k => (f k).1, fun k => (f k).2), fun j => if j = 0 then c0 else if j = 1 then c1 else if j = 2 then c2 else c3, ⟨fun k q hq => hf k q hq, fun k q hq => ?_⟩, fun q hq hk => ?_, o1, o2, o3⟩
  · match k, hq with
    | 0, hq => cases hq; exact ⟨fun n z => ⟨fun k h => (by cases h), k0, i2, p0, i3⟩, i1⟩
    | 1, hq => cases hq; exact ⟨a1, r1⟩
    | 2, hq => cases hq; exact ⟨a2, r2⟩
    | 3, hq => cases hq; exact ⟨a3, r3⟩
    | k + 4, hq => simp [aTys] at hq
  · exact va_Nw.of rfl (hts _ (List.mem_of_getElem? ((lM_ok q hq).2.1 hk)))
theorem aRec_law : aRec iL_law = (yL_law, cL_law, 20, ret, 11, 1, 0, [0, 0, 0, 0]) := rfl
/-- from the entry, for every script, the law comes to its end with true -/
theorem whole_start {p : Program} {e : Env} {s : State} {m : MethodId} {below : List Frame} {meth : Method} {c : Code} (l : Launch) (hflags : l.flags = flags0) {b L : Nat} {xs : Nat → Int32} (hL : L ≤ 260) (C0 : lw_At p s m meth c b L xs) : W p l e room_1 s m #[Value.ref b] below meth c s.heap [] 0 0 (lw_Z below #[Value.ref b] s) (entryFrame m ([Value.ref b] : List Value).toArray 20) := by
  obtain ⟨hx, hb, hr, hml, hown, hts, hX, hbl, hlocks, hgv⟩ := id C0
  obtain ⟨D, cc, hFix⟩ := aFix_start (m := m) hts
  have C : aCtx D cc p s #[Value.ref b] m meth c iL_law := by
    refine ⟨hx, ?_, ?_, ?_, ?_, fun w hw => hts w (List.mem_filter.mp hw).1, hlocks, fun hk => ?_, hFix⟩
    · rw [aRec_law]; exact hb
    · unfold aMax; rw [aRec_law]; exact hml
    · unfold aOwn; rw [aRec_law]; exact hown
    · unfold aRet; rw [aRec_law]; exact hr
    · unfold aKnd at hk; rw [aRec_law] at hk; cases hk
  have hrun := law_all (d := 0) (b := b) (L := L) (xs := xs) (F := fun q => if q = b then some (eS L xs) else none) (h := s.heap.size) (s := 0) (if_pos rfl) hbl hL
  obtain ⟨⟨r, σ2⟩, hrun, hr1, hσ2⟩ := aX_val hrun
  dsimp only at hrun hr1 hσ2
  subst hr1
  obtain ⟨hσa, hσb⟩ := hσ2
  obtain ⟨n, hn⟩ := hrun
  have hl := aLs.entry [Value.ref b] (n := 20) (Nat.le_of_ble_eq_true rfl)
  rw [lg_entry_eq]
  have hrel : aRel D cc s.heap.size s (fun q => if q = b then some (eS L xs) else none, s.heap.size, 0) s.heap := by
    refine ⟨rfl, Nat.le_refl _, fun a e ha => ?_⟩
    dsimp only at ha
    by_cases g : a = b
    · rw [if_pos g] at ha
      cases ha
      subst g
      exact Or.inl ⟨L, xs, rfl, hbl, hX⟩
    · rw [if_neg g] at ha
      cases ha
  have hA4 : aMax iL_law = 20 := by unfold aMax; rw [aRec_law]
  have key := aW_all (l := l) (e := e) (R := room_1) (below := below) (h0 := s.heap.size) (s0 := 0) (Z := lw_Z below #[Value.ref b] s) (lo := s.heap.size) (d := 9) C (fun d' _ => aMet l D cc s.heap.size d') (Nat.le_of_ble_eq_true rfl) (Nat.le_of_ble_eq_true rfl) (r := some (.int (nI 1))) (σ2 := σ2) (⟨by show σ2.2.1 - s.heap.size ≤ 730947; omega, by show σ2.2.2 - 0 ≤ 6909406; omega⟩) ?_ n 0 _ [] _ _ s.heap [] hn (by rw [hA4]; exact hl) hrel va_S.rf ⟨Nat.le_refl _, Nat.le_refl _⟩
  · unfold aW at key
    rw [Nat.sub_self, Nat.sub_self] at key
    exact key
  · intro pc ls st arr H locs hA hl2 hR2 hS2
    unfold aAt at hA
    split at hA
    · rename_i q hq
      obtain ⟨hd, hlen⟩ := aCode_dec hq
      obtain ⟨I, k⟩ := q
      rcases (aAct_ret hA).2 with ⟨rfl, v, rfl, hv, -⟩ | ⟨rfl, v, nm, rfl, hv, hvr, -⟩ | ⟨rfl, rfl, hv, -⟩
      · injection hv with hv
        injection hv with hv
        subst hv
        simp only [aLenOK, beq_iff_eq] at hlen
        subst hlen
        rw [aRec_law] at hd
        unfold aW
        refine va_forget (fun q hq => hS2.2.2 q hq) ?_
        refine W.widen (k := 730947) (n := 6909406) (by omega) (by omega) ?_
        exact lw_ret hx hb hr hlocks hd
      · injection hv with hv
        subst hv
        cases hvr
      · cases hv
    · cases hA
set_option maxHeartbeats 4000000 in
theorem lw_walk (l : Launch) (hflags : l.flags = flags0) (b : Addr) (xs : List Int32) : MetFree l x (headSpec (Jvm.Cond.code x code maxLocals ret :: tables_1) room_1) (lw_P b xs) (fun _ _ _ _ _ => True) lw_Q := by
  refine MetFree.of_bodyS (code := code) (maxLocals := maxLocals) (ret := ret) (by decide) ?_ ?_
  · intro args s m h hn
    obtain ⟨meth, c, h1, h2, h3, h4, h5, h6, -, -⟩ := Cond.code_spec hn (atoms_spec (ws := Jvm.Cond.code x code maxLocals ret :: tables_1) h _ List.mem_cons_self)
    exact ⟨meth, c, h1, h2, h3, h4, h5, h6⟩
  · intro p e s m args below meth c s₁ B hml0 hP _
    obtain ⟨rfl, hx, hbd, hgv⟩ := hP
    obtain ⟨scr, harrAt, hlist, hof, hsmall⟩ := hx
    obtain ⟨hcb, hkn, -, -⟩ := State.arrayAt?_spec harrAt
    have hown : s.vm.findClass R_law = some m.cls := findClass_of_methodNamed B.named
    have hts0 : ∀ c ∈ (Jvm.Cond.code x code maxLocals ret :: tables_1), c.before #[Value.ref b] s = true := atoms_spec (ws := Jvm.Cond.code x code maxLocals ret :: tables_1) B.pre
    have hts : ∀ w ∈ lw_tbl, w.before #[Value.ref b] s = true := k2_hts_sels lw_privs (fun w hw => hts0 w (List.mem_cons_of_mem _ hw)) lw_privs_ok
    have hml : c.maxLocals = 20 := B.maxLocals_eq (hts0 _ List.mem_cons_self)
    have X₀ : Stand p l e room_1 s m #[Value.ref b] below meth c s₁ [] 0 0 := Stand.of_body B
    have hh0 : s₁.heap = s.heap := by rw [B.state]; rfl
    have hsz : scr.slots.size = xs.length := by rw [← Array.length_toList, hlist, List.length_map]
    have hval : ∀ j : Nat, j < xs.length → scr.slots[j]? = some (.int (xs.getD j 0)) := fun j hj => by
      rw [← Array.getElem?_toList, hlist]
      simp [hj]
    have hbl : b < s.heap.size := (Array.getElem?_eq_some_iff.mp hcb).1
    have hX : va_X b xs.length (fun j => xs.getD j 0) s s.heap := ⟨scr, hcb, hof, hkn, hsz, hval⟩
    have K : W p l e room_1 s m #[Value.ref b] below meth c s₁.heap [] 0 0 (lw_Z below #[Value.ref b] s) (entryFrame m ([Value.ref b] : List Value).toArray 20) := by
      rw [hh0]
      exact whole_start l hflags hbd ⟨B.exec, B.bytes, B.returns, hml, hown, hts, hX, hbl, B.notSynchronized, hgv⟩
    obtain ⟨t, a1, o, b1, b2, b3⟩ := K s₁ rfl X₀
    exact ⟨t, o, a1, b1, b2, b3⟩
theorem lw_pre_spec {args : Array Value} {s : State} (h : (Jvm.Cond.and given_1 narrow_1).before args s = true) (hr : rest_1_c.before args s = true) : ∃ (b : Addr) (xs : List Int32), lw_P b xs args s := by
  have hs := flat_of_before _ h
  have hq := flat_of_before _ hr
  have hc : (Cond.count 1).before args s = true := hs _ (by decide +kernel)
  have harr : (Cond.arrayOf (.arg 0) .int).before args s = true := hs _ (by decide +kernel)
  have hle : (Cond.le (.length (.arg 0)) (.int 260)).before args s = true := hs _ (by decide +kernel)
  have hlen : (Cond.isInt (.length (.arg 0))).before args s = true := hq _ (by decide +kernel)
  have hall : (Cond.all (.arg 0) (.isInt (.elem (.arg 0) (.index 0)))).before args s = true := hq _ (by decide +kernel)
  obtain ⟨b, xs, hb, hx⟩ := State.ints_of_pre rfl harr hlen hall
  have hsm : xs.length < 2 ^ 31 := hx.choose_spec.2.2.2
  have hev : (Term.length (.arg 0)).eval args s none [] s = some (.int xs.length.toInt32) := hx.length_eval hb
  have hv := Cond.le_ints hev (show (Term.int 260).eval args s none [] s = some (.int 260) from rfl)
  have hd : xs.length.toInt32 ≤ 260 := by
    simpa [Cond.before, Cond.holds, hv] using hle
  have hN : xs.length ≤ 260 := (Int32.ofNat_le_ofNat hsm (by decide)).mp (show Int32.ofNat xs.length ≤ Int32.ofNat 260 from hd)
  exact ⟨b, xs, Cond.one_arg hc (show args[0]? = some (.ref b) from hb), hx, hN, h⟩
theorem lw_comes (l : Launch) (hflags : l.flags = flags0) : Comes l x (Jvm.Cond.code x code maxLocals ret :: tables_1) room_1 (fun tb e args s => Calls_1 tb e args s ∧ rest_1 tb e args s ∧ Pre_1 tb e args s)
    (fun _ _ args s o t => lw_Q args s o t) := by
  intro p e ha hc hk s m args below hf hfit hheap happ hpre
  obtain ⟨b, xs, hP⟩ := lw_pre_spec hpre.2.2 hpre.2.1
  obtain ⟨k, o, h1, h2, h3, hQ⟩ := lw_walk l hflags b xs p e ha hc hk s m args below hf ((Spec.applies_iff_loose hf).mp happ).1 hP trivial
  exact ⟨k, o, h1, h2, h3, hQ⟩
theorem lw_frame {s t : State} {o : Outcome} {args : Array Value} (h : Framed s o t [] 730947 6909406) :
    Framed s o t (fieldLocs frame_1_writes args s ++ arrayLocs frame_1_arrays args s ++ staticLocs frame_1_statics s) 730947 6909406 := h
theorem lw_limb (L : Cond) (hL : ∀ (args : Array Value) (s t : State), L.after args s (.returned (some (.int 1))) t = true) :
    ArmFor flags0 classFile x code maxLocals ret World_1 tables_1 room_1 Calls_1 rest_1 Pre_1
      (fun tb e a s o t => postC L tb e a s o t ∧ Framed s o t (fieldLocs frame_1_writes a s ++ arrayLocs frame_1_arrays a s ++ staticLocs frame_1_statics s) 730947 6909406) := by
  intro l hflags _ _ p e ha hc hk s m args below hf hfit hheap happ hpre
  obtain ⟨k, o, h1, h2, h3, rfl, hF⟩ := lw_comes l hflags p e ha hc hk s m args below hf hfit hheap happ hpre
  exact ⟨k, _, h1, h2, h3, hL args s _, lw_frame hF⟩
theorem i_vc : Claimed_1_1 ∧ Claimed_1_2 := ⟨lw_limb limb_1_1 (fun args s t => by simp [limb_1_1, Cond.after, Cond.holds, Cond.value]), lw_limb limb_1_2 (fun args s t => Cond.after_iff.mpr (by
  first | (rw [show limb_1_2 = Cond.eq .result (.int 1) from rfl, Cond.eq_ints (x := 1) (y := 1) rfl rfl]; simp; done) | (simp [limb_1_2, Cond.value, Term.eval]; done)))⟩
