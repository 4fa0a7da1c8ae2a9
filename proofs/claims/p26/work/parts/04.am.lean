/-! THE SMALL MACHINE: what the methods do, as a function over a heap that is a function; part 05 shows that the machine does the same. -/
abbrev aE : Type := ((Nat × (Nat → Int32)) ⊕ (Nat × (Nat → Int32))) ⊕ ((Nat × Nat × (Nat → Option Nat)) ⊕ (Nat × List Value))
/-- a row of ints; the law's own row (it is only read); a row of references; an object -/
abbrev eI (n : Nat) (f : Nat → Int32) : aE := .inl (.inl (n, f))
abbrev eS (n : Nat) (f : Nat → Int32) : aE := .inl (.inr (n, f))
abbrev eQ (j n : Nat) (f : Nat → Option Nat) : aE := .inr (.inl (j, n, f))
abbrev eO (ci : Nat) (fs : List Value) : aE := .inr (.inr (ci, fs))
abbrev aS : Type := (Nat → Option aE) × Nat × Nat
def aput (σ : aS) (a : Nat) (e : aE) : aS := (fun q => if q = a then some e else σ.1 q, σ.2)
def anew (σ : aS) (e : aE) (n : Nat) : aS := (fun q => if q = σ.2.1 then some e else σ.1 q, σ.2.1 + 1, σ.2.2 + n)
abbrev aL : Type := List (Option Value)
abbrev aQ : Type := Option Value → aS → Prop
abbrev aC : Type := Nat → aL → aS → aQ → Prop
def aclr (o : Option Value) : Option Value := match o with
  | some (.long _) => none
  | some (.double _) => none
  | x => x
def ast1 : Nat → Value → aL → aL
  | 0, v, _ :: t => some v :: t
  | 1, v, x :: _ :: t => aclr x :: some v :: t
  | i + 2, v, x :: t => x :: ast1 (i + 1) v t
  | _, _, ls => ls
def ast2 : Nat → Value → aL → aL
  | 0, v, _ :: _ :: t => some v :: none :: t
  | 1, v, x :: _ :: _ :: t => aclr x :: some v :: none :: t
  | i + 2, v, x :: t => x :: ast2 (i + 1) v t
  | _, _, ls => ls
def aret (r : Option Value) (st : List Value) : List Value := match r with
  | some v => v :: st
  | none => st
def aargs : List Value → aL
  | [] => []
  | .long x :: t => some (.long x) :: none :: aargs t
  | .double x :: t => some (.double x) :: none :: aargs t
  | v :: t => some v :: aargs t
def aentry (n : Nat) (vs : List Value) : aL := aargs vs ++ List.replicate (n - (aargs vs).length) none
def aFind : List (Nat × Instr × Nat) → Nat → Option (Instr × Nat)
  | [], _ => none
  | q :: l, pc => if q.1 = pc then some q.2 else aFind l pc
def aCode (mi pc : Nat) : Option (Instr × Nat) := aFind (aCodes.getD mi []) pc
def aRec (mi : Nat) : aMeth := aMeths.getD mi (yL_law, cL_law, 0, none, 0, 0, 0, [])
def aOwn (mi : Nat) : Nat := (aRec mi).2.2.2.2.1
def aMax (mi : Nat) : Nat := (aRec mi).2.2.1
def aRet (mi : Nat) : Option FieldType := (aRec mi).2.2.2.1
def aArg (mi : Nat) : Nat := (aRec mi).2.2.2.2.2.1
def aKnd (mi : Nat) : Nat := (aRec mi).2.2.2.2.2.2.1
def aLk {α : Type} : List (Nat × Nat × α) → Nat → Nat → Option α
  | [], _, _ => none
  | q :: l, o, i => if q.1 = o ∧ q.2.1 = i then some q.2.2 else aLk l o i
def aTgt (pc : Nat) (off : Int) : Nat := ((pc : Int) + off).toNat
def aCmp (c : ClassFile.Cond) (x y : Int32) : Bool := match c with
  | .eq => decide (x = y)
  | .ne => decide (¬ x = y)
  | .lt => decide (x < y)
  | .ge => decide (y ≤ x)
  | .gt => decide (y < x)
  | .le => decide (x ≤ y)
def aRef (v : Value) : Bool := match v with
  | .null => true
  | .ref _ => true
  | _ => false
/-- the number of an object's class, by the kind of a row of references -/
def aQc (j : Nat) : Nat := match j with
  | 1 => 0
  | 2 => 5
  | 3 => 4
  | _ => 99
def aQj (ci : Nat) : Nat := match ci with
  | 0 => 1
  | 5 => 2
  | 4 => 3
  | _ => 99
def aDef (ci : Nat) : List Value := (List.range (aNw ci).2.2).map fun k => match parseFieldDescriptor ((aNw ci).2.1 k).2.2.1 with
  | some ty => defaultValue ty
  | none => .null
def aFit (ci k : Nat) (v : Value) : Bool := match parseFieldDescriptor ((aNw ci).2.1 k).2.2.1 with
  | some ty => decide (narrow ty v = v) && fits ty v
  | none => false
def aFin (mi ci k : Nat) : Bool := if ((aNw ci).2.1 k).2.2.2 = true then decide (aKnd mi = 2) && decide (((aNw ci).2.1 k).1 = aClass (aOwn mi)) else true
/-- where an instruction leads: to the next one; to the method's end; to a call (method, its locals, where it goes on, what stays on the stack) -/
abbrev aA : Type := (Nat × aL × List Value × aS) ⊕ ((Option Value × aS) ⊕ (Nat × aL × Nat × List Value))
def aGo (pc : Nat) (ls : aL) (st : List Value) (σ : aS) : Option aA := some (.inl (pc, ls, st, σ))
def aLd (pc : Nat) (ls : aL) (st : List Value) (σ : aS) (i : Nat) (t : Value → Bool) : Option aA := match ls[i]? with
  | some (some v) => if t v = true then aGo pc ls (v :: st) σ else none
  | _ => none
def aIsI (v : Value) : Bool := match v with
  | .int _ => true
  | _ => false
def aIsJ (v : Value) : Bool := match v with
  | .long _ => true
  | _ => false
def aS1 (pc : Nat) (ls : aL) (st : List Value) (σ : aS) (i : Nat) (t : Value → Bool) : Option aA := match st with
  | v :: r => if t v = true ∧ i < ls.length then aGo pc (ast1 i v ls) r σ else none
  | _ => none
def aS2 (pc : Nat) (ls : aL) (st : List Value) (σ : aS) (i : Nat) : Option aA := match st with
  | .long x :: r => if i + 1 < ls.length then aGo pc (ast2 i (.long x) ls) r σ else none
  | _ => none
def aB2 (pc : Nat) (ls : aL) (st : List Value) (σ : aS) (f : Int32 → Int32 → Int32) : Option aA := match st with
  | .int y :: .int x :: r => aGo pc ls (.int (f x y) :: r) σ
  | _ => none
def aB2J (pc : Nat) (ls : aL) (st : List Value) (σ : aS) (f : Int64 → Int64 → Int64) : Option aA := match st with
  | .long y :: .long x :: r => aGo pc ls (.long (f x y) :: r) σ
  | _ => none
def aBr (b : Bool) (pc : Nat) (off : Int) (ls : aL) (st : List Value) (σ : aS) : Option aA :=
  if (pc : Int) + off = (aTgt pc off : Int) then (if b = true then aGo (aTgt pc off) ls st σ else aGo (pc + 3) ls st σ) else none
def aSw (pc : Nat) (off : Int) (ls : aL) (st : List Value) (σ : aS) : Option aA :=
  if (pc : Int) + off = (aTgt pc off : Int) then aGo (aTgt pc off) ls st σ else none
def aDo (t pc : Nat) (rv : Bool) (st : List Value) (σ : aS) : Option aA :=
  if (st.drop (aArg t)).length ≤ 4 + rv.toNat ∧ aArg t ≤ st.length then
    match rv, st.drop (aArg t) with
    | true, .ref b :: rest => match σ.1 b with
      | some (.inr (.inr (ci, _))) => if ci = aOwn t ∧ (aargs (.ref b :: (st.take (aArg t)).reverse)).length ≤ aMax t then some (.inr (.inr (t, aentry (aMax t) (.ref b :: (st.take (aArg t)).reverse), pc + 3, rest))) else none
      | _ => none
    | false, rest => if (aargs (st.take (aArg t)).reverse).length ≤ aMax t then some (.inr (.inr (t, aentry (aMax t) (st.take (aArg t)).reverse, pc + 3, rest))) else none
    | _, _ => none
  else none
def aCpy (pc : Nat) (ls : aL) (st : List Value) (σ : aS) : Option aA := match st with
  | .int n :: .int dp :: .ref a :: .int sp :: .ref a0 :: rest => match σ.1 a0, σ.1 a with
    | some (.inl (.inl (n0, f))), some (.inl (.inl (n1, g))) => if ¬ sp < 0 ∧ ¬ dp < 0 ∧ ¬ n < 0 ∧ sp.toNatClampNeg + n.toNatClampNeg ≤ n0 ∧ dp.toNatClampNeg + n.toNatClampNeg ≤ n1 ∧ rest.length ≤ 4 then aGo (pc + 3) ls rest (aput σ a (eI n1 (va_cpy f g sp.toNatClampNeg dp.toNatClampNeg n.toNatClampNeg))) else none
    | _, _ => none
  | _ => none
def aMin (pc : Nat) (ls : aL) (st : List Value) (σ : aS) : Option aA := match st with
  | .int y :: .int x :: rest => if rest.length ≤ 4 then aGo (pc + 3) ls (.int (if y < x then y else x) :: rest) σ else none
  | _ => none
def aObj (pc : Nat) (ls : aL) (st : List Value) (σ : aS) : Option aA := match st with
  | .ref _ :: rest => if rest.length ≤ 4 then aGo (pc + 3) ls rest σ else none
  | _ => none
def aGetF (own pc : Nat) (ls : aL) (st : List Value) (σ : aS) (i : Nat) : Option aA := match aLk lF own i, st with
  | some (ci, k, _), .ref a :: r => match σ.1 a with
    | some (.inr (.inr (c2, fs))) => if c2 = ci then (match fs[k]? with
      | some v => aGo (pc + 3) ls (v :: r) σ
      | none => none) else none
    | _ => none
  | _, _ => none
def aPutF (mi pc : Nat) (ls : aL) (st : List Value) (σ : aS) (i : Nat) : Option aA := match aLk lF (aOwn mi) i, st with
  | some (ci, k, _), v :: .ref a :: r => match σ.1 a with
    | some (.inr (.inr (c2, fs))) => if c2 = ci ∧ k < fs.length ∧ aFit ci k v = true ∧ aFin mi ci k = true then aGo (pc + 3) ls r (aput σ a (eO ci (fs.set k v))) else none
    | _ => none
  | _, _ => none
def aIld (pc : Nat) (ls : aL) (st : List Value) (σ : aS) : Option aA := match st with
  | .int i :: .ref a :: r => match σ.1 a with
    | some (.inl (.inl (n, f))) => if ¬ (i < 0 ∨ n ≤ i.toNatClampNeg) then aGo (pc + 1) ls (.int (f i.toNatClampNeg) :: r) σ else none
    | some (.inl (.inr (n, f))) => if ¬ (i < 0 ∨ n ≤ i.toNatClampNeg) then aGo (pc + 1) ls (.int (f i.toNatClampNeg) :: r) σ else none
    | _ => none
  | _ => none
def aIst (pc : Nat) (ls : aL) (st : List Value) (σ : aS) : Option aA := match st with
  | .int x :: .int i :: .ref a :: r => match σ.1 a with
    | some (.inl (.inl (n, f))) => if ¬ (i < 0 ∨ n ≤ i.toNatClampNeg) then aGo (pc + 1) ls r (aput σ a (eI n (upd f i.toNatClampNeg x))) else none
    | _ => none
  | _ => none
def aQld (pc : Nat) (ls : aL) (st : List Value) (σ : aS) : Option aA := match st with
  | .int i :: .ref a :: r => match σ.1 a with
    | some (.inr (.inl (_, n, f))) => if ¬ (i < 0 ∨ n ≤ i.toNatClampNeg) then aGo (pc + 1) ls (va_rf (f i.toNatClampNeg) :: r) σ else none
    | _ => none
  | _ => none
def aQst (pc : Nat) (ls : aL) (st : List Value) (σ : aS) : Option aA := match st with
  | .ref v :: .int i :: .ref a :: r => match σ.1 a, σ.1 v with
    | some (.inr (.inl (j, n, f))), some (.inr (.inr (ci, _))) => if ¬ (i < 0 ∨ n ≤ i.toNatClampNeg) ∧ aQj ci = j ∧ aQc j = ci then aGo (pc + 1) ls r (aput σ a (eQ j n (va_up f i.toNatClampNeg (some v)))) else none
    | _, _ => none
  | _ => none
def aLen (pc : Nat) (ls : aL) (st : List Value) (σ : aS) : Option aA := match st with
  | .ref a :: r => match σ.1 a with
    | some (.inl (.inl (n, _))) => aGo (pc + 1) ls (.int (Int32.ofNat n) :: r) σ
    | some (.inl (.inr (n, _))) => aGo (pc + 1) ls (.int (Int32.ofNat n) :: r) σ
    | some (.inr (.inl (_, n, _))) => aGo (pc + 1) ls (.int (Int32.ofNat n) :: r) σ
    | _ => none
  | _ => none
def aAct (mi pc : Nat) (I : Instr) (ls : aL) (st : List Value) (σ : aS) : Option aA :=
  match I with
  | .iconst n => aGo (pc + 1) ls (.int (Int32.ofInt n) :: st) σ
  | .bipush n => aGo (pc + 2) ls (.int (Int8.ofInt n).toInt32 :: st) σ
  | .sipush n => aGo (pc + 3) ls (.int (Int16.ofInt n).toInt32 :: st) σ
  | .lconst n => aGo (pc + 1) ls (.long (Int64.ofNat (n : Nat)) :: st) σ
  | .aconst_null => aGo (pc + 1) ls (.null :: st) σ
  | .ldc_w i => match aLk lI (aOwn mi) i with
    | some (v, _) => aGo (pc + 3) ls (.int v :: st) σ
    | none => none
  | .ldc i => match aLk lI (aOwn mi) i with
    | some (v, _) => aGo (pc + 2) ls (.int v :: st) σ
    | none => none
  | .ldc2_w i => match aLk lJ (aOwn mi) i with
    | some (v, _) => aGo (pc + 3) ls (.long v :: st) σ
    | none => none
  | .iload_n i => aLd (pc + 1) ls st σ i aIsI
  | .iload i => aLd (pc + 2) ls st σ i aIsI
  | .lload_n i => aLd (pc + 1) ls st σ i aIsJ
  | .lload i => aLd (pc + 2) ls st σ i aIsJ
  | .aload_n i => aLd (pc + 1) ls st σ i aRef
  | .aload i => aLd (pc + 2) ls st σ i aRef
  | .istore_n i => aS1 (pc + 1) ls st σ i aIsI
  | .istore i => aS1 (pc + 2) ls st σ i aIsI
  | .astore_n i => aS1 (pc + 1) ls st σ i aRef
  | .astore i => aS1 (pc + 2) ls st σ i aRef
  | .lstore_n i => aS2 (pc + 1) ls st σ i
  | .lstore i => aS2 (pc + 2) ls st σ i
  | .iinc i n => match ls[i]? with
    | some (some (.int x)) => aGo (pc + 3) (ast1 i (.int (x + Int32.ofInt n)) ls) st σ
    | _ => none
  | .iadd => aB2 (pc + 1) ls st σ (fun x y => x + y)
  | .isub => aB2 (pc + 1) ls st σ (fun x y => x - y)
  | .imul => aB2 (pc + 1) ls st σ (fun x y => x * y)
  | .iand => aB2 (pc + 1) ls st σ (fun x y => x &&& y)
  | .ior => aB2 (pc + 1) ls st σ (fun x y => x ||| y)
  | .ixor => aB2 (pc + 1) ls st σ (fun x y => x ^^^ y)
  | .ishl => aB2 (pc + 1) ls st σ (fun x y => x <<< (y &&& 31))
  | .ishr => aB2 (pc + 1) ls st σ (fun x y => x >>> (y &&& 31))
  | .iushr => aB2 (pc + 1) ls st σ (fun x y => (x.toUInt32 >>> (y.toUInt32 &&& Int32.toUInt32 31)).toInt32)
  | .idiv => match st with
    | .int y :: .int x :: r => if y = 0 then none else aGo (pc + 1) ls (.int (x / y) :: r) σ
    | _ => none
  | .irem => match st with
    | .int y :: .int x :: r => if y = 0 then none else aGo (pc + 1) ls (.int (x - x / y * y) :: r) σ
    | _ => none
  | .land => aB2J (pc + 1) ls st σ (fun x y => x &&& y)
  | .lor => aB2J (pc + 1) ls st σ (fun x y => x ||| y)
  | .lshl => match st with
    | .int y :: .long x :: r => aGo (pc + 1) ls (.long (x <<< (y.toInt64 &&& 63)) :: r) σ
    | _ => none
  | .lushr => match st with
    | .int y :: .long x :: r => aGo (pc + 1) ls (.long (x.toUInt64 >>> (y.toInt64.toUInt64 &&& Int64.toUInt64 63)).toInt64 :: r) σ
    | _ => none
  | .lcmp => match st with
    | .long y :: .long x :: r => aGo (pc + 1) ls (.int (lg_cmp x y) :: r) σ
    | _ => none
  | .i2l => match st with
    | .int x :: r => aGo (pc + 1) ls (.long x.toInt64 :: r) σ
    | _ => none
  | .l2i => match st with
    | .long x :: r => aGo (pc + 1) ls (.int x.toInt32 :: r) σ
    | _ => none
  | .dup => match st with
    | v :: r => if v.category = 1 then aGo (pc + 1) ls (v :: v :: r) σ else none
    | _ => none
  | .dup2 => match st with
    | v :: w :: r => if v.category = 1 ∧ w.category = 1 then aGo (pc + 1) ls (v :: w :: v :: w :: r) σ else none
    | _ => none
  | .dup_x2 => match st with
    | v :: w :: u :: r => if v.category = 1 ∧ w.category = 1 ∧ u.category = 1 then aGo (pc + 1) ls (v :: w :: u :: v :: r) σ else none
    | _ => none
  | .pop => match st with
    | v :: r => if v.category = 1 then aGo (pc + 1) ls r σ else none
    | _ => none
  | .ifCond c off => match st with
    | .int x :: r => aBr (aCmp c x 0) pc off ls r σ
    | _ => none
  | .if_icmp c off => match st with
    | .int y :: .int x :: r => aBr (aCmp c x y) pc off ls r σ
    | _ => none
  | .ifnull off => match st with
    | .null :: r => aBr true pc off ls r σ
    | .ref _ :: r => aBr false pc off ls r σ
    | _ => none
  | .ifnonnull off => match st with
    | .null :: r => aBr false pc off ls r σ
    | .ref _ :: r => aBr true pc off ls r σ
    | _ => none
  | .goto off => aSw pc off ls st σ
  | .tableswitch d lo hi offs => match st with
    | .int x :: r => if x.toInt < lo ∨ hi < x.toInt then aSw pc d ls r σ else (match offs[(x.toInt - lo).toNat]? with
      | some off => aSw pc off ls r σ
      | none => none)
    | _ => none
  | .lookupswitch d ps => match st with
    | .int x :: r => if (ps.toList.zip (ps.toList.drop 1)).all (fun (a, next) => a.1 < next.1) = true then aSw pc (Op.lookupswitch.offset ps.toList d x.toInt) ls r σ else none
    | _ => none
  | .getfield i => aGetF (aOwn mi) pc ls st σ i
  | .putfield i => aPutF mi pc ls st σ i
  | .iaload => aIld pc ls st σ
  | .iastore => aIst pc ls st σ
  | .aaload => aQld pc ls st σ
  | .aastore => aQst pc ls st σ
  | .arraylength => aLen pc ls st σ
  | .newarray t => match t, st with
    | .int, .int n :: r => if ¬ n < 0 ∧ n.toNatClampNeg ≤ 1000000 then aGo (pc + 2) ls (.ref σ.2.1 :: r) (anew σ (eI n.toNatClampNeg (fun _ => 0)) n.toNatClampNeg) else none
    | _, _ => none
  | .anewarray i => match aLk lC (aOwn mi) i, st with
    | some (ci, _), .int n :: r => if ¬ n < 0 ∧ n.toNatClampNeg ≤ 1000000 ∧ aQc (aQj ci) = ci then aGo (pc + 3) ls (.ref σ.2.1 :: r) (anew σ (eQ (aQj ci) n.toNatClampNeg (fun _ => none)) n.toNatClampNeg) else none
    | _, _ => none
  | .new i => match aLk lC (aOwn mi) i with
    | some (ci, _) => aGo (pc + 3) ls (.ref σ.2.1 :: st) (anew σ (eO ci (aDef ci)) (aNw ci).2.2)
    | none => none
  | .invokevirtual i => match aLk lM (aOwn mi) i with
    | some (t, k, _) => if k = 0 then aDo t pc true st σ else none
    | none => none
  | .invokespecial i => match aLk lM (aOwn mi) i with
    | some (t, k, _) => if k = 2 ∨ k = 3 then aDo t pc true st σ else if k = 5 then aObj pc ls st σ else none
    | none => none
  | .invokestatic i => match aLk lM (aOwn mi) i with
    | some (t, k, _) => if k = 1 ∨ k = 4 then aDo t pc false st σ else if k = 6 then aCpy pc ls st σ else if k = 7 then aMin pc ls st σ else none
    | none => none
  | .ireturn => match st with
    | [.int v] => if aRet mi = some .int ∨ (aRet mi = some .boolean ∧ narrow .boolean (.int v) = .int v) then some (.inr (.inl (some (.int v), σ))) else none
    | _ => none
  | .areturn => match st, aRet mi with
    | [v], some (.object _) => if aRef v = true then some (.inr (.inl (some v, σ))) else none
    | _, _ => none
  | .return_ => match st with
    | [] => if aRet mi = none then some (.inr (.inl (none, σ))) else none
    | _ => none
  | _ => none
def aAt (mi pc : Nat) (ls : aL) (st : List Value) (σ : aS) : Option aA := match aCode mi pc with
  | some q => aAct mi pc q.1 ls st σ
  | none => none
def aRun (call : aC) (mi : Nat) : Nat → Nat → aL → List Value → aS → aQ → Prop
  | 0, _, _, _, _, _ => False
  | n + 1, pc, ls, st, σ, Q => match aAt mi pc ls st σ with
    | some (.inl c) => aRun call mi n c.1 c.2.1 c.2.2.1 c.2.2.2 Q
    | some (.inr (.inl q)) => Q q.1 q.2
    | some (.inr (.inr c)) => call c.1 c.2.1 σ (fun r σ' => aRun call mi n c.2.2.1 ls (aret r c.2.2.2) σ' Q)
    | none => False
def aCall : Nat → aC
  | 0 => fun _ _ _ _ => False
  | d + 1 => fun mi L σ Q => ∃ n, aRun (aCall d) mi n 0 L [] σ Q
/-- from here on the method comes to its end, with Q -/
def aX (d mi pc : Nat) (ls : aL) (st : List Value) (σ : aS) (Q : aQ) : Prop := ∃ n, aRun (aCall d) mi n pc ls st σ Q
-- how Q rides
def aEx (call : aC) : Prop := ∀ (ι : Type) (t : Nat) (L : aL) (σ : aS) (Q : ι → aQ), call t L σ (fun r s => ∃ i, Q i r s) → ∃ i, call t L σ (Q i)
def aMono (call : aC) : Prop := ∀ (t : Nat) (L : aL) (σ : aS) (Q Q' : aQ), (∀ r s, Q r s → Q' r s) → call t L σ Q → call t L σ Q'
theorem aRun_mono {call : aC} (h : aMono call) (mi : Nat) : ∀ (n pc : Nat) (ls : aL) (st : List Value) (σ : aS) (Q Q' : aQ), (∀ r s, Q r s → Q' r s) → aRun call mi n pc ls st σ Q → aRun call mi n pc ls st σ Q'
  | 0, _, _, _, _, _, _, _, hr => hr
  | n + 1, pc, ls, st, σ, Q, Q', hq, hr => by
    unfold aRun at hr ⊢
    split at hr
    · exact aRun_mono h mi n _ _ _ _ _ _ hq hr
    · exact hq _ _ hr
    · exact h _ _ _ _ _ (fun r s hh => aRun_mono h mi n _ _ _ _ _ _ hq hh) hr
    · exact hr
theorem aRun_ex {call : aC} (h : aEx call) (hm : aMono call) (mi : Nat) {ι : Type} : ∀ (n pc : Nat) (ls : aL) (st : List Value) (σ : aS) (Q : ι → aQ), aRun call mi n pc ls st σ (fun r s => ∃ i, Q i r s) → ∃ i, aRun call mi n pc ls st σ (Q i)
  | 0, _, _, _, _, _, hr => hr.elim
  | n + 1, pc, ls, st, σ, Q, hr => by
    unfold aRun at hr ⊢
    split at hr
    · exact aRun_ex h hm mi n _ _ _ _ _ hr
    · exact hr
    · exact h ι _ _ _ _ (hm _ _ _ _ _ (fun r s hh => aRun_ex h hm mi n _ _ _ _ _ hh) hr)
    · exact hr.elim
theorem aCall_mono : ∀ d, aMono (aCall d)
  | 0 => fun _ _ _ _ _ _ h => h
  | d + 1 => fun mi L σ Q Q' hq h => by
    obtain ⟨n, hn⟩ := h
    exact ⟨n, aRun_mono (aCall_mono d) mi n _ _ _ _ _ _ hq hn⟩
theorem aCall_ex : ∀ d, aEx (aCall d)
  | 0 => fun _ _ _ _ _ h => h.elim
  | d + 1 => fun ι mi L σ Q h => by
    obtain ⟨n, hn⟩ := h
    obtain ⟨i, hi⟩ := aRun_ex (aCall_ex d) (aCall_mono d) mi n _ _ _ _ _ hn
    exact ⟨i, n, hi⟩
theorem aX_mono {d mi pc : Nat} {ls : aL} {st : List Value} {σ : aS} {Q Q' : aQ} (hq : ∀ r s, Q r s → Q' r s) (h : aX d mi pc ls st σ Q) : aX d mi pc ls st σ Q' := by
  obtain ⟨n, hn⟩ := h
  exact ⟨n, aRun_mono (aCall_mono d) mi n _ _ _ _ _ _ hq hn⟩
theorem aX_next {d mi pc pc' : Nat} {ls ls' : aL} {st st' : List Value} {σ σ' : aS} {Q : aQ} (h : aAt mi pc ls st σ = some (.inl (pc', ls', st', σ'))) : aX d mi pc ls st σ Q ↔ aX d mi pc' ls' st' σ' Q := by
  constructor
  · rintro ⟨n, hn⟩
    cases n with
    | zero => exact hn.elim
    | succ n =>
      unfold aRun at hn
      rw [h] at hn
      exact ⟨n, hn⟩
  · rintro ⟨n, hn⟩
    refine ⟨n + 1, ?_⟩
    unfold aRun
    rw [h]
    exact hn
theorem aX_ret {d mi pc : Nat} {ls : aL} {st : List Value} {σ σ' : aS} {r : Option Value} {Q : aQ} (h : aAt mi pc ls st σ = some (.inr (.inl (r, σ')))) : aX d mi pc ls st σ Q ↔ Q r σ' := by
  constructor
  · rintro ⟨n, hn⟩
    cases n with
    | zero => exact hn.elim
    | succ n =>
      unfold aRun at hn
      rw [h] at hn
      exact hn
  · intro hn
    refine ⟨1, ?_⟩
    unfold aRun
    rw [h]
    exact hn
theorem aX_call {d mi pc t pc' : Nat} {ls L : aL} {st rest : List Value} {σ : aS} {Q : aQ} (h : aAt mi pc ls st σ = some (.inr (.inr (t, L, pc', rest)))) : aX (d + 1) mi pc ls st σ Q ↔ aX d t 0 L [] σ (fun r σ' => aX (d + 1) mi pc' ls (aret r rest) σ' Q) := by
  constructor
  · rintro ⟨n, hn⟩
    cases n with
    | zero => exact hn.elim
    | succ n =>
      unfold aRun at hn
      rw [h] at hn
      obtain ⟨m, hm⟩ := hn
      exact ⟨m, aRun_mono (aCall_mono d) t m _ _ _ _ _ _ (fun r s hh => ⟨n, hh⟩) hm⟩
  · rintro ⟨m, hm⟩
    obtain ⟨n, hn⟩ := aRun_ex (aCall_ex d) (aCall_mono d) t m _ _ _ _ (fun n r σ' => aRun (aCall (d + 1)) mi n pc' ls (aret r rest) σ' Q) hm
    refine ⟨n + 1, ?_⟩
    unfold aRun
    rw [h]
    exact ⟨m, hn⟩
/-- a call that comes to its end has one end -/
theorem aX_val {d mi pc : Nat} {ls : aL} {st : List Value} {σ : aS} {Q : aQ} (h : aX d mi pc ls st σ Q) : ∃ q : Option Value × aS, aX d mi pc ls st σ (fun r s => r = q.1 ∧ s = q.2) ∧ Q q.1 q.2 := by
  obtain ⟨n, hn⟩ := h
  have h2 : aRun (aCall d) mi n pc ls st σ (fun r s => ∃ q : Option Value × aS, (r = q.1 ∧ s = q.2) ∧ Q q.1 q.2) := aRun_mono (aCall_mono d) mi n _ _ _ _ _ _ (fun r s hq => ⟨(r, s), ⟨rfl, rfl⟩, hq⟩) hn
  obtain ⟨q, hq⟩ := aRun_ex (aCall_ex d) (aCall_mono d) mi n _ _ _ _ _ h2
  refine ⟨q, ⟨n, aRun_mono (aCall_mono d) mi n _ _ _ _ _ _ (fun r s hh => hh.1) hq⟩, ?_⟩
  have h3 : aRun (aCall d) mi n pc ls st σ (fun _ _ => ∃ _ : Q q.1 q.2, True) := aRun_mono (aCall_mono d) mi n _ _ _ _ _ _ (fun r s hh => ⟨hh.2, trivial⟩) hq
  obtain ⟨i, -⟩ := aRun_ex (aCall_ex d) (aCall_mono d) mi n pc ls st σ (fun (_ : { b : Bool // Q q.1 q.2 }) _ _ => True) (aRun_mono (aCall_mono d) mi n _ _ _ _ _ _ (fun r s hh => ⟨⟨true, hh.1⟩, trivial⟩) h3)
  exact i.2
