/-! X: the machine told once more, as a function: locals, stack and heap as lists; a cell of the heap is an object (its class by number, its fields) or a row of ints (its kind, its length, its values); references are places in the heap's list. Places 0 to 6 are what is given: the script and the static rows. -/
abbrev xCel : Type := (Nat × List Value) ⊕ (Nat × Nat × (Nat → Int32))
abbrev xHp : Type := Bool × List xCel
abbrev xLs : Type := List (Option Value)
abbrev xRes : Type := (Option Value ⊕ Nat) × xHp
abbrev xJ : Type := Nat × xLs × List Value × xHp × Nat × Nat
abbrev xCa : Type := Nat × List Value × Nat × xLs × List Value × xHp × Nat × Nat
abbrev xA : Type := Option (xJ ⊕ (xRes ⊕ xCa))
def xGo (pc : Nat) (ls : xLs) (st : List Value) (h : xHp) (nc ns : Nat) : xA := some (.inl (pc, ls, st, h, nc, ns))
def xq (a b : Nat) (x : xA) : xA := if a = b then x else none
def xgO (h : xHp) (a : Nat) : Option (Nat × List Value) := match h.2[a]? with
  | some (.inl o) => some o
  | _ => none
def xgA (h : xHp) (a : Nat) : Option (Nat × Nat × (Nat → Int32)) := match h.2[a]? with
  | some (.inr o) => some o
  | _ => none
def xSt (h : xHp) (a : Nat) (c : xCel) : xHp := (h.1, h.2.set a c)
def xNew (h : xHp) (c : xCel) : xHp := (h.1, h.2 ++ [c])
def xGb (h : xHp) : xHp := (false, h.2)
-- locals
def xlI (ls : xLs) (i : Nat) : Option Int32 := match ls[i]? with
  | some (some (.int x)) => some x
  | _ => none
def xlL (ls : xLs) (i : Nat) : Option Int64 := match ls[i]? with
  | some (some (.long x)) => some x
  | _ => none
def xlR (ls : xLs) (i : Nat) : Option Nat := match ls[i]? with
  | some (some (.ref x)) => some x
  | _ => none
def xUn : Option Value → Option Value
  | some (.long _) => none
  | some (.double _) => none
  | o => o
/-- storing a value of one slot: a long ahead of it is gone -/
def xS1 : xLs → Nat → Value → xLs
  | [], _, _ => []
  | _ :: t, 0, v => some v :: t
  | a :: t, 1, v => xUn a :: xS1 t 0 v
  | a :: t, i + 2, v => a :: xS1 t (i + 1) v
def xS2 (ls : xLs) (i : Nat) (v : Value) : xLs := (xS1 ls i v).set (i + 1) none
def xS0 (ls : xLs) (i : Nat) : xLs := (xS1 ls i .null).set i none
-- stack
def xpI : List Value → Option (Int32 × List Value)
  | .int x :: st => some (x, st)
  | _ => none
def xpII : List Value → Option (Int32 × Int32 × List Value)
  | .int y :: .int x :: st => some (x, y, st)
  | _ => none
def xpL : List Value → Option (Int64 × List Value)
  | .long x :: st => some (x, st)
  | _ => none
def xpLL : List Value → Option (Int64 × Int64 × List Value)
  | .long y :: .long x :: st => some (x, y, st)
  | _ => none
def xpLI : List Value → Option (Int64 × Int32 × List Value)
  | .int y :: .long x :: st => some (x, y, st)
  | _ => none
def xpR : List Value → Option (Nat × List Value)
  | .ref a :: st => some (a, st)
  | _ => none
def xpRI : List Value → Option (Nat × Int32 × List Value)
  | .int i :: .ref a :: st => some (a, i, st)
  | _ => none
def xpRII : List Value → Option (Nat × Int32 × Int32 × List Value)
  | .int x :: .int i :: .ref a :: st => some (a, i, x, st)
  | _ => none
def xpRIL : List Value → Option (Nat × Int32 × Int64 × List Value)
  | .long x :: .int i :: .ref a :: st => some (a, i, x, st)
  | _ => none
def xpRIR : List Value → Option (Nat × Int32 × Nat × List Value)
  | .ref x :: .int i :: .ref a :: st => some (a, i, x, st)
  | _ => none
def xpRV : List Value → Option (Nat × Value × List Value)
  | v :: .ref a :: st => some (a, v, st)
  | _ => none
def xc1 : Value → Bool
  | .long _ => false
  | .double _ => false
  | _ => true
def xpV : List Value → Option (Value × List Value)
  | v :: st => if xc1 v then some (v, st) else none
  | _ => none
def xpVV : List Value → Option (Value × Value × List Value)
  | v :: w :: st => if xc1 v && xc1 w then some (v, w, st) else none
  | _ => none
-- pool
def xcI (c i : Nat) : Option Int32 := (xci.find? (fun r => r.1 == c && r.2.1 == i)).map (fun r => r.2.2.1)
def xcL (c i : Nat) : Option Int64 := (xcl.find? (fun r => r.1 == c && r.2.1 == i)).map (fun r => r.2.2.1)
def xcR (c i : Nat) : Option (Nat × Nat × Nat × Nat × Nat × Nat × Nat) := xct.find? (fun r => r.1 == c && r.2.1 == i)
def xfR (c i : Nat) : Option (Nat × Nat) := (xft.find? (fun r => r.1 == c && r.2.1 == i)).map (fun r => (r.2.2.1, r.2.2.2.1))
def xsR (c i : Nat) : Option Nat := (xst.find? (fun r => r.1 == c && r.2.1 == i)).map (fun r => r.2.2.1)
def xnR (c i : Nat) : Option Nat := (xnw.find? (fun r => r.1 == c && r.2.1 == i)).map (fun r => r.2.2.1)
-- jumps
def xJm (pc : Nat) (off : Int) (ls : xLs) (st : List Value) (h : xHp) (nc ns : Nat) : xA :=
  if 0 ≤ (pc : Int) + off then xGo ((pc : Int) + off).toNat ls st h nc ns else none
def xBr (pc : Nat) (off : Int) (b : Bool) (ls : xLs) (st : List Value) (h : xHp) (nc ns : Nat) : xA :=
  if 0 ≤ (pc : Int) + off then (if b = true then xGo ((pc : Int) + off).toNat ls st h nc ns else xGo (pc + 3) ls st h nc ns) else none
def xCm (c : Jvm.ClassFile.Cond) (x y : Int32) : Bool := match c with
  | .eq => decide (x = y)
  | .ne => decide (¬ x = y)
  | .lt => decide (x < y)
  | .ge => decide (y ≤ x)
  | .gt => decide (y < x)
  | .le => decide (x ≤ y)
def xSw (lo hi dflt : Int) (offs : Array Int) (x : Int32) : Option Int :=
  if x.toInt < lo ∨ hi < x.toInt then some dflt else offs[(x.toInt - lo).toNat]?
-- fields
def xfit : FieldType → Value → Bool
  | .int, .int _ => true
  | .boolean, .int x => decide (x = 0 ∨ x = 1)
  | .array _, .ref _ => true
  | .object _, .ref _ => true
  | _, _ => false
def xini (k : Nat) : Bool := decide ((xmn k).name = "<init>")
def xput (k : Nat) (h : xHp) (tf : Nat × Nat) (o : Nat × List Value) (v : Value) : Bool :=
  decide (o.1 = tf.1 ∧ tf.2 < o.2.length) && (xfit (xty tf.1 tf.2) v && (!((xcT tf.1).2.1 tf.2).2.2.2 || (xini k && decide (tf.1 = xmk k))))
def xin (i : Int32) (n : Nat) : Bool := decide (¬ (i < 0 ∨ n ≤ i.toNatClampNeg))
def xroom (k nc ns c s : Nat) : Bool := decide (nc + c ≤ xmc k ∧ ns + s ≤ xms k)
/-- the three throws: method and place -/
def xTh (k pc : Nat) : Option Nat :=
  if k = 91 ∧ pc = 4 then some 0 else if k = 92 ∧ pc = 4 then some 1 else if k = 93 ∧ pc = 4 then some 2 else none
def xnewA (t : ArrayType) (n : Nat) : Option xCel := match t with
  | .int => some (.inr (0, n, fun _ => 0))
  | .char => some (.inr (1, n, fun _ => 0))
  | .boolean => some (.inr (2, n, fun _ => 0))
  | _ => none
def xAlloc (k pc : Nat) (ls : xLs) (st : List Value) (h : xHp) (nc ns s : Nat) (c : xCel) : xA :=
  if h.1 && xroom k nc ns 1 s then xGo pc ls (.ref h.2.length :: st) (xNew h c) (nc + 1) (ns + s) else none
/-- the locals with which a method begins -/
def xArg : List Value → xLs
  | [] => []
  | .long v :: t => some (.long v) :: none :: xArg t
  | .double v :: t => some (.double v) :: none :: xArg t
  | v :: t => some v :: xArg t
/-- what may lie below a call: eight slots at most -/
def xlow (z : List Value) : Bool := decide (z.length ≤ 4) || (decide (z.length ≤ 8) && z.all xc1)
theorem xlow_4 {z : List Value} (h : z.length ≤ 4) : xlow z = true := by
  unfold xlow
  rw [decide_eq_true h]
  rfl
def xCall (k pc k' : Nat) (ls : xLs) (st : List Value) (h : xHp) (nc ns : Nat) : xA :=
  if decide ((xna k' ≤ st.length ∧ xlow (st.drop (xna k')) = true ∧ xmf k' + 1 ≤ xmf k ∧ 8 + (xml k' + 11) + xmo k' ≤ xmo k) ∧ (xArg ((st.take (xna k')).reverse)).length ≤ xml k') && xroom k nc ns (xmc k') (xms k')
  then some (.inr (.inr (k', (st.take (xna k')).reverse, pc, ls, st.drop (xna k'), h, nc, ns))) else none
def xrecv (h : xHp) (k' : Nat) (as : List Value) : Bool := match as with
  | .ref b :: _ => match xgO h b with
    | some o => decide (o.1 = xmk k')
    | none => false
  | _ => false
def xisR : List Value → Bool
  | .ref _ :: _ => true
  | _ => false
def xCopy (k pc : Nat) (ls : xLs) (st : List Value) (h : xHp) (nc ns : Nat) : xA := match st with
  | .int n :: .int dp :: .ref a :: .int sp :: .ref b :: st => match xgA h b, xgA h a with
    | some (t0, n0, f), some (t1, n1, g) =>
      if (t0 = 0 ∨ t0 = 10) ∧ t1 = 0 ∧ ¬ sp < 0 ∧ ¬ dp < 0 ∧ ¬ n < 0 ∧ sp.toNatClampNeg + n.toNatClampNeg ≤ n0 ∧ dp.toNatClampNeg + n.toNatClampNeg ≤ n1 ∧ st.length ≤ 4 ∧ 1 ≤ xmf k ∧ 60 ≤ xmo k
      then xGo (pc + 3) ls st (xSt h a (.inr (0, n1, va_cpy f g sp.toNatClampNeg dp.toNatClampNeg n.toNatClampNeg))) nc ns else none
    | _, _ => none
  | _ => none
def xInv (k pc : Nat) (r : Nat × Nat × Nat × Nat × Nat × Nat × Nat) (vm : Nat) (ls : xLs) (st : List Value) (h : xHp) (nc ns : Nat) : xA := match vm, r.2.2.2.1 with
  | 0, 0 => if xrecv h r.2.2.1 (st.take (xna r.2.2.1)).reverse = true then xCall k pc r.2.2.1 ls st h nc ns else none
  | 1, 1 => xCall k pc r.2.2.1 ls st h nc ns
  | 1, 3 => xCall k pc r.2.2.1 ls st h nc ns
  | 1, 6 => xCopy k pc ls st h nc ns
  | 1, 7 => xCall k pc r.2.2.1 ls st h nc ns
  | 1, 8 => (xpII st).bind fun q => if q.2.2.length ≤ 4 ∧ 1 ≤ xmf k ∧ 21 ≤ xmo k then xGo (pc + 3) ls (.int (if q.1 < q.2.1 then q.2.1 else q.1) :: q.2.2) h nc ns else none
  | 1, 9 => (xpII st).bind fun q => if q.2.2.length ≤ 4 ∧ 1 ≤ xmf k ∧ 21 ≤ xmo k then xGo (pc + 3) ls (.int (if q.2.1 < q.1 then q.2.1 else q.1) :: q.2.2) h nc ns else none
  | 1, 10 => (xpI st).bind fun q => if q.2.length ≤ 4 ∧ 1 ≤ xmf k ∧ 21 ≤ xmo k then xGo (pc + 3) ls (.int (if 0 ≤ q.1 then q.1 else 0 - q.1) :: q.2) h nc ns else none
  | 2, 2 => if xisR (st.take (xna r.2.2.1)).reverse = true then xCall k pc r.2.2.1 ls st h nc ns else none
  | 2, 4 => if xisR (st.take (xna r.2.2.1)).reverse = true then xCall k pc r.2.2.1 ls st h nc ns else none
  | 2, 5 => (xpR st).bind fun q => if q.2.length ≤ 4 ∧ 1 ≤ xmf k ∧ 20 ≤ xmo k then xGo (pc + 3) ls q.2 h nc ns else none
  | _, _ => none
def xRt (h : xHp) (v : Option Value) (b : Bool) : xA := if b = true then some (.inr (.inl (.inl v, h))) else none
def xAct (k pc : Nat) (i : Instr) (len : Nat) (ls : xLs) (st : List Value) (h : xHp) (nc ns : Nat) : xA := match i with
  | .iconst n => xq len 1 (xGo (pc + 1) ls (.int (Int32.ofInt n) :: st) h nc ns)
  | .bipush n => xq len 2 (xGo (pc + 2) ls (.int (Int8.ofInt n).toInt32 :: st) h nc ns)
  | .sipush n => xq len 3 (xGo (pc + 3) ls (.int (Int16.ofInt n).toInt32 :: st) h nc ns)
  | .lconst n => xq len 1 (xGo (pc + 1) ls (.long (Int64.ofNat (n : Nat)) :: st) h nc ns)
  | .ldc ix => xq len 2 ((xcI (xmk k) ix).bind fun v => xGo (pc + 2) ls (.int v :: st) h nc ns)
  | .ldc_w ix => xq len 3 ((xcI (xmk k) ix).bind fun v => xGo (pc + 3) ls (.int v :: st) h nc ns)
  | .ldc2_w ix => xq len 3 ((xcL (xmk k) ix).bind fun v => xGo (pc + 3) ls (.long v :: st) h nc ns)
  | .iload_n n => xq len 1 ((xlI ls n).bind fun x => xGo (pc + 1) ls (.int x :: st) h nc ns)
  | .iload n => xq len 2 ((xlI ls n).bind fun x => xGo (pc + 2) ls (.int x :: st) h nc ns)
  | .lload_n n => xq len 1 ((xlL ls n).bind fun x => xGo (pc + 1) ls (.long x :: st) h nc ns)
  | .lload n => xq len 2 ((xlL ls n).bind fun x => xGo (pc + 2) ls (.long x :: st) h nc ns)
  | .aload_n n => xq len 1 ((xlR ls n).bind fun x => xGo (pc + 1) ls (.ref x :: st) h nc ns)
  | .aload n => xq len 2 ((xlR ls n).bind fun x => xGo (pc + 2) ls (.ref x :: st) h nc ns)
  | .istore_n n => xq len 1 ((xpI st).bind fun q => if (n : Nat) < ls.length then xGo (pc + 1) (xS1 ls n (.int q.1)) q.2 h nc ns else none)
  | .istore n => xq len 2 ((xpI st).bind fun q => if n < ls.length then xGo (pc + 2) (xS1 ls n (.int q.1)) q.2 h nc ns else none)
  | .lstore_n n => xq len 1 ((xpL st).bind fun q => if (n : Nat) + 1 < ls.length then xGo (pc + 1) (xS2 ls n (.long q.1)) q.2 h nc ns else none)
  | .lstore n => xq len 2 ((xpL st).bind fun q => if n + 1 < ls.length then xGo (pc + 2) (xS2 ls n (.long q.1)) q.2 h nc ns else none)
  | .astore_n n => xq len 1 ((xpR st).bind fun q => if (n : Nat) < ls.length then xGo (pc + 1) (xS1 ls n (.ref q.1)) q.2 h nc ns else none)
  | .astore n => xq len 2 ((xpR st).bind fun q => if n < ls.length then xGo (pc + 2) (xS1 ls n (.ref q.1)) q.2 h nc ns else none)
  | .iinc i n => xq len 3 ((xlI ls i).bind fun x => if i < ls.length then xGo (pc + 3) (xS1 ls i (.int (x + Int32.ofInt n))) st h nc ns else none)
  | .iadd => xq len 1 ((xpII st).bind fun q => xGo (pc + 1) ls (.int (q.1 + q.2.1) :: q.2.2) h nc ns)
  | .isub => xq len 1 ((xpII st).bind fun q => xGo (pc + 1) ls (.int (q.1 - q.2.1) :: q.2.2) h nc ns)
  | .imul => xq len 1 ((xpII st).bind fun q => xGo (pc + 1) ls (.int (q.1 * q.2.1) :: q.2.2) h nc ns)
  | .idiv => xq len 1 ((xpII st).bind fun q => if q.2.1 = 0 then none else xGo (pc + 1) ls (.int (q.1 / q.2.1) :: q.2.2) h nc ns)
  | .irem => xq len 1 ((xpII st).bind fun q => if q.2.1 = 0 then none else xGo (pc + 1) ls (.int (q.1 - q.1 / q.2.1 * q.2.1) :: q.2.2) h nc ns)
  | .ineg => xq len 1 ((xpI st).bind fun q => xGo (pc + 1) ls (.int (-q.1) :: q.2) h nc ns)
  | .ishl => xq len 1 ((xpII st).bind fun q => xGo (pc + 1) ls (.int (q.1 <<< (q.2.1 &&& 31)) :: q.2.2) h nc ns)
  | .ishr => xq len 1 ((xpII st).bind fun q => xGo (pc + 1) ls (.int (q.1 >>> (q.2.1 &&& 31)) :: q.2.2) h nc ns)
  | .iushr => xq len 1 ((xpII st).bind fun q => xGo (pc + 1) ls (.int (q.1.toUInt32 >>> (q.2.1.toUInt32 &&& Int32.toUInt32 31)).toInt32 :: q.2.2) h nc ns)
  | .iand => xq len 1 ((xpII st).bind fun q => xGo (pc + 1) ls (.int (q.1 &&& q.2.1) :: q.2.2) h nc ns)
  | .ior => xq len 1 ((xpII st).bind fun q => xGo (pc + 1) ls (.int (q.1 ||| q.2.1) :: q.2.2) h nc ns)
  | .ixor => xq len 1 ((xpII st).bind fun q => xGo (pc + 1) ls (.int (q.1 ^^^ q.2.1) :: q.2.2) h nc ns)
  | .i2l => xq len 1 ((xpI st).bind fun q => xGo (pc + 1) ls (.long q.1.toInt64 :: q.2) h nc ns)
  | .l2i => xq len 1 ((xpL st).bind fun q => xGo (pc + 1) ls (.int q.1.toInt32 :: q.2) h nc ns)
  | .i2c => xq len 1 ((xpI st).bind fun q => xGo (pc + 1) ls (.int (q.1.toUInt32 % 65536).toInt32 :: q.2) h nc ns)
  | .ladd => xq len 1 ((xpLL st).bind fun q => xGo (pc + 1) ls (.long (q.1 + q.2.1) :: q.2.2) h nc ns)
  | .lsub => xq len 1 ((xpLL st).bind fun q => xGo (pc + 1) ls (.long (q.1 - q.2.1) :: q.2.2) h nc ns)
  | .lmul => xq len 1 ((xpLL st).bind fun q => xGo (pc + 1) ls (.long (q.1 * q.2.1) :: q.2.2) h nc ns)
  | .ldiv => xq len 1 ((xpLL st).bind fun q => if q.2.1 = 0 then none else xGo (pc + 1) ls (.long (q.1 / q.2.1) :: q.2.2) h nc ns)
  | .lrem => xq len 1 ((xpLL st).bind fun q => if q.2.1 = 0 then none else xGo (pc + 1) ls (.long (q.1 - q.1 / q.2.1 * q.2.1) :: q.2.2) h nc ns)
  | .land => xq len 1 ((xpLL st).bind fun q => xGo (pc + 1) ls (.long (q.1 &&& q.2.1) :: q.2.2) h nc ns)
  | .lor => xq len 1 ((xpLL st).bind fun q => xGo (pc + 1) ls (.long (q.1 ||| q.2.1) :: q.2.2) h nc ns)
  | .lshl => xq len 1 ((xpLI st).bind fun q => xGo (pc + 1) ls (.long (q.1 <<< (q.2.1.toInt64 &&& 63)) :: q.2.2) h nc ns)
  | .lshr => xq len 1 ((xpLI st).bind fun q => xGo (pc + 1) ls (.long (q.1 >>> (q.2.1.toInt64 &&& 63)) :: q.2.2) h nc ns)
  | .lushr => xq len 1 ((xpLI st).bind fun q => xGo (pc + 1) ls (.long (q.1.toUInt64 >>> (q.2.1.toInt64.toUInt64 &&& Int64.toUInt64 63)).toInt64 :: q.2.2) h nc ns)
  | .lcmp => xq len 1 ((xpLL st).bind fun q => xGo (pc + 1) ls (.int (lg_cmp q.1 q.2.1) :: q.2.2) h nc ns)
  | .dup => xq len 1 ((xpV st).bind fun q => xGo (pc + 1) ls (q.1 :: q.1 :: q.2) h nc ns)
  | .dup_x1 => xq len 1 ((xpVV st).bind fun q => xGo (pc + 1) ls (q.1 :: q.2.1 :: q.1 :: q.2.2) h nc ns)
  | .dup2 => xq len 1 ((xpVV st).bind fun q => xGo (pc + 1) ls (q.1 :: q.2.1 :: q.1 :: q.2.1 :: q.2.2) h nc ns)
  | .pop => xq len 1 ((xpV st).bind fun q => xGo (pc + 1) ls q.2 h nc ns)
  | .goto off => xq len 3 (xJm pc off ls st h nc ns)
  | .if_icmp cd off => xq len 3 ((xpII st).bind fun q => xBr pc off (xCm cd q.1 q.2.1) ls q.2.2 h nc ns)
  | .ifCond cd off => xq len 3 ((xpI st).bind fun q => xBr pc off (xCm cd q.1 0) ls q.2 h nc ns)
  | .tableswitch dflt lo hi offs => (xpI st).bind fun q => (xSw lo hi dflt offs q.1).bind fun off => xJm pc off ls q.2 h nc ns
  | .lookupswitch dflt ps => (xpI st).bind fun q => if (ps.toList.zip (ps.toList.drop 1)).all (fun (a, next) => a.1 < next.1) = true then xJm pc (Op.lookupswitch.offset ps.toList dflt q.1.toInt) ls q.2 h nc ns else none
  | .getfield ix => xq len 3 ((xpR st).bind fun q => (xfR (xmk k) ix).bind fun tf => (xgO h q.1).bind fun o => if o.1 = tf.1 then (o.2[tf.2]?).bind fun v => xGo (pc + 3) ls (v :: q.2) h nc ns else none)
  | .putfield ix => xq len 3 ((xpRV st).bind fun q => (xfR (xmk k) ix).bind fun tf => (xgO h q.1).bind fun o => if xput k h tf o q.2.1 = true then xGo (pc + 3) ls q.2.2 (xSt h q.1 (.inl (o.1, o.2.set tf.2 q.2.1))) nc ns else none)
  | .getstatic ix => xq len 3 ((xsR (xmk k) ix).bind fun g => xGo (pc + 3) ls (.ref g :: st) h nc ns)
  | .iaload => xq len 1 ((xpRI st).bind fun q => (xgA h q.1).bind fun o => if (o.1 = 0 ∨ o.1 = 10) ∧ xin q.2.1 o.2.1 = true then xGo (pc + 1) ls (.int (o.2.2 q.2.1.toNatClampNeg) :: q.2.2) h nc ns else none)
  | .caload => xq len 1 ((xpRI st).bind fun q => (xgA h q.1).bind fun o => if (o.1 = 1 ∨ o.1 = 11) ∧ xin q.2.1 o.2.1 = true then xGo (pc + 1) ls (.int (o.2.2 q.2.1.toNatClampNeg) :: q.2.2) h nc ns else none)
  | .baload => xq len 1 ((xpRI st).bind fun q => (xgA h q.1).bind fun o => if o.1 = 2 ∧ xin q.2.1 o.2.1 = true then xGo (pc + 1) ls (.int (o.2.2 q.2.1.toNatClampNeg) :: q.2.2) h nc ns else none)
  | .iastore => xq len 1 ((xpRII st).bind fun q => (xgA h q.1).bind fun o => if o.1 = 0 ∧ xin q.2.1 o.2.1 = true then xGo (pc + 1) ls q.2.2.2 (xSt h q.1 (.inr (0, o.2.1, upd o.2.2 q.2.1.toNatClampNeg q.2.2.1))) nc ns else none)
  | .castore => xq len 1 ((xpRII st).bind fun q => (xgA h q.1).bind fun o => if o.1 = 1 ∧ xin q.2.1 o.2.1 = true then xGo (pc + 1) ls q.2.2.2 (xSt h q.1 (.inr (1, o.2.1, upd o.2.2 q.2.1.toNatClampNeg (vp_nar .char q.2.2.1)))) nc ns else none)
  | .bastore => xq len 1 ((xpRII st).bind fun q => (xgA h q.1).bind fun o => if o.1 = 2 ∧ xin q.2.1 o.2.1 = true then xGo (pc + 1) ls q.2.2.2 (xSt h q.1 (.inr (2, o.2.1, upd o.2.2 q.2.1.toNatClampNeg (vp_nar .boolean q.2.2.1)))) nc ns else none)
  | .aaload => xq len 1 ((xpRI st).bind fun q => (xgO h q.1).bind fun o => if o.1 = 22 ∧ xin q.2.1 o.2.length = true then match o.2[q.2.1.toNatClampNeg]? with
      | some (.ref x) => xGo (pc + 1) ls (.ref x :: q.2.2) h nc ns
      | _ => none
      else none)
  | .aastore => xq len 1 ((xpRIR st).bind fun q => (xgO h q.1).bind fun o => (xgO h q.2.2.1).bind fun o2 => if o.1 = 22 ∧ o2.1 = 0 ∧ xin q.2.1 o.2.length = true then xGo (pc + 1) ls q.2.2.2 (xSt h q.1 (.inl (22, o.2.set q.2.1.toNatClampNeg (.ref q.2.2.1)))) nc ns else none)
  | .arraylength => xq len 1 ((xpR st).bind fun q => (xgA h q.1).bind fun o => if o.1 = 0 ∨ o.1 = 10 ∨ o.1 = 11 then xGo (pc + 1) ls (.int (Int32.ofNat o.2.1) :: q.2) h nc ns else none)
  | .new ix => xq len 3 (match xTh k pc with
      | some E => if xroom k nc ns 1 6 && st.isEmpty then some (.inr (.inl (.inr E, xGb h))) else none
      | none => (xnR (xmk k) ix).bind fun t => xAlloc k (pc + 3) ls st h nc ns (xcT t).2.2 (.inl (t, (List.range (xcT t).2.2).map (fun j => defaultValue (xty t j)))))
  | .newarray t => xq len 2 ((xpI st).bind fun q => if ¬ q.1 < 0 ∧ q.1.toNatClampNeg ≤ 65536 then (xnewA t q.1.toNatClampNeg).bind fun c => xAlloc k (pc + 2) ls q.2 h nc ns q.1.toNatClampNeg c else none)
  | .anewarray ix => xq len 3 ((xpI st).bind fun q => if ¬ q.1 < 0 ∧ q.1.toNatClampNeg ≤ 65536 ∧ xnR (xmk k) ix = some 0 then xAlloc k (pc + 3) ls q.2 h nc ns q.1.toNatClampNeg (.inl (22, List.replicate q.1.toNatClampNeg .null)) else none)
  | .invokevirtual ix => xq len 3 ((xcR (xmk k) ix).bind fun r => xInv k pc r 0 ls st h nc ns)
  | .invokestatic ix => xq len 3 ((xcR (xmk k) ix).bind fun r => xInv k pc r 1 ls st h nc ns)
  | .invokespecial ix => xq len 3 ((xcR (xmk k) ix).bind fun r => xInv k pc r 2 ls st h nc ns)
  | .ireturn => xq len 1 (match st with
      | [.int x] => xRt h (some (.int x)) (decide (xmr k = some .int ∨ (xmr k = some .boolean ∧ (x = 0 ∨ x = 1))))
      | _ => none)
  | .lreturn => xq len 1 (match st with
      | [.long x] => xRt h (some (.long x)) (decide (xmr k = some .long))
      | _ => none)
  | .return_ => xq len 1 (match st with
      | [] => xRt h none (decide (xmr k = none))
      | _ => none)
  | _ => none
/-- one step -/
def xF (k pc : Nat) (ls : xLs) (st : List Value) (h : xHp) (nc ns : Nat) : xA := match decode (xmb k) pc with
  | .ok (i, len) => xAct k pc i len ls st h nc ns
  | _ => none
def xEnt (n : Nat) (as : List Value) : xLs := xArg as ++ List.replicate (n - (xArg as).length) none
def xPush (v : Option Value) (st : List Value) : List Value := match v with
  | some v => v :: st
  | none => st
/-- which of the three exceptions an entry of the law's pool names -/
def xce (c : Nat) : Option Nat := if c = 34 then some 0 else if c = 15 then some 1 else if c = 19 then some 2 else none
def xHf (pc E : Nat) : List (Nat × Nat × Nat × Nat) → Option Nat
  | [] => none
  | q :: t => if q.1 ≤ pc ∧ pc < q.2.1 then (match xce q.2.2.2 with
      | none => none
      | some E' => if E' = E then some q.2.2.1 else xHf pc E t) else xHf pc E t
/-- the handler of an exception: the place behind its astore, the local -/
def xHd (k pc E : Nat) : Option (Nat × Nat) := (xHf pc E (xmh k)).bind fun t => match decode (xmb k) t with
  | .ok (.astore_n n, 1) => some (t + 1, (n : Nat))
  | .ok (.astore n, 2) => some (t + 2, n)
  | _ => none
/-- the rest behind a step -/
def xK (R : Nat → Nat → xLs → List Value → xHp → Nat → Nat → Option xRes) (k : Nat) (a : xA) : Option xRes := match a with
  | none => none
  | some (.inl (pc, ls, st, h, nc, ns)) => R k pc ls st h nc ns
  | some (.inr (.inl r)) => some r
  | some (.inr (.inr (k', as, pc, ls, st, h, nc, ns))) => match R k' 0 (xEnt (xml k') as) [] h 0 0 with
    | none => none
    | some (.inl v, h') => R k (pc + 3) ls (xPush v st) h' (nc + xmc k') (ns + xms k')
    | some (.inr E, h') => if xkd k' = 1 then (match xHd k pc E with
        | some (pc', i) => if xkd k = 2 ∧ i < ls.length then R k pc' (xS0 ls i) [] h' (nc + xmc k') (ns + xms k') else none
        | none => if xkd k = 1 then some (.inr E, h') else none) else none
def xr : Nat → Nat → Nat → xLs → List Value → xHp → Nat → Nat → Option xRes
  | 0, _, _, _, _, _, _, _ => none
  | n + 1, k, pc, ls, st, h, nc, ns => xK (xr n) k (xF k pc ls st h nc ns)
theorem xK_mono {R R' : Nat → Nat → xLs → List Value → xHp → Nat → Nat → Option xRes} (hR : ∀ k pc ls st h nc ns r, R k pc ls st h nc ns = some r → R' k pc ls st h nc ns = some r) {k : Nat} {a : xA} {r : xRes} (h : xK R k a = some r) : xK R' k a = some r := by
  unfold xK at h ⊢
  split
  · simp at h
  · exact hR _ _ _ _ _ _ _ _ h
  · exact h
  · next k' as pc ls st h0 nc ns =>
    simp only at h
    cases hc : R k' 0 (xEnt (xml k') as) [] h0 0 0 with
    | none => rw [hc] at h; simp at h
    | some q =>
      rw [hR _ _ _ _ _ _ _ _ hc]
      rw [hc] at h
      obtain ⟨o, h'⟩ := q
      cases o with
      | inl v => exact hR _ _ _ _ _ _ _ _ h
      | inr E =>
        simp only at h ⊢
        by_cases hk : xkd k' = 1
        · rw [if_pos hk] at h ⊢
          cases hd : xHd k pc E with
          | none => rw [hd] at h; exact h
          | some z =>
            rw [hd] at h
            obtain ⟨pc', i⟩ := z
            simp only at h ⊢
            by_cases hi : xkd k = 2 ∧ i < ls.length
            · rw [if_pos hi] at h ⊢
              exact hR _ _ _ _ _ _ _ _ h
            · rw [if_neg hi] at h; simp at h
        · rw [if_neg hk] at h; simp at h
theorem xr_succ (n : Nat) : ∀ k pc ls st h nc ns r, xr n k pc ls st h nc ns = some r → xr (n + 1) k pc ls st h nc ns = some r := by
  induction n with
  | zero => intro k pc ls st h nc ns r hr; simp [xr] at hr
  | succ n ih => intro k pc ls st h nc ns r hr; exact xK_mono ih hr
theorem xr_le {n m : Nat} (hnm : n ≤ m) {k pc ls st h nc ns r} (hr : xr n k pc ls st h nc ns = some r) : xr m k pc ls st h nc ns = some r := by
  induction hnm with
  | refl => exact hr
  | step _ ih => exact xr_succ _ _ _ _ _ _ _ _ _ ih
noncomputable def xX (k pc : Nat) (ls : xLs) (st : List Value) (h : xHp) (nc ns : Nat) : Option xRes :=
  @dite (Option xRes) (∃ n r, xr n k pc ls st h nc ns = some r) (Classical.propDecidable _) (fun H => some (Classical.choose (Classical.choose_spec H))) (fun _ => none)
theorem xX_some {k pc ls st h nc ns r} : xX k pc ls st h nc ns = some r ↔ ∃ n, xr n k pc ls st h nc ns = some r := by
  unfold xX
  constructor
  · intro hx
    split at hx
    · next H =>
      have h1 := Classical.choose_spec (Classical.choose_spec H)
      rw [Option.some.inj hx] at h1
      exact ⟨_, h1⟩
    · simp at hx
  · intro ⟨n, hn⟩
    have H : ∃ n r, xr n k pc ls st h nc ns = some r := ⟨n, r, hn⟩
    rw [dif_pos H]
    have h1 := Classical.choose_spec (Classical.choose_spec H)
    have h2 := xr_le (Nat.le_max_left n (Classical.choose H)) hn
    have h3 := xr_le (Nat.le_max_right n (Classical.choose H)) h1
    rw [h2] at h3
    exact h3.symm
theorem xK_fuel {k : Nat} {a : xA} {r : xRes} (h : xK xX k a = some r) : ∃ n, xK (xr n) k a = some r := by
  unfold xK at h
  split at h
  · simp at h
  · obtain ⟨n, hn⟩ := xX_some.mp h
    exact ⟨n, hn⟩
  · exact ⟨0, h⟩
  · next k' as pc ls st h0 nc ns =>
    cases hc : xX k' 0 (xEnt (xml k') as) [] h0 0 0 with
    | none => rw [hc] at h; simp at h
    | some q =>
      rw [hc] at h
      obtain ⟨n, hn⟩ := xX_some.mp hc
      obtain ⟨o, h'⟩ := q
      cases o with
      | inl v =>
        obtain ⟨m, hm⟩ := xX_some.mp h
        refine ⟨max n m, ?_⟩
        show (match xr (max n m) k' 0 (xEnt (xml k') as) [] h0 0 0 with | none => none | some (.inl v, h') => _ | some (.inr E, h') => _) = _
        rw [xr_le (Nat.le_max_left n m) hn]
        exact xr_le (Nat.le_max_right n m) hm
      | inr E =>
        simp only at h
        by_cases hk : xkd k' = 1
        · rw [if_pos hk] at h
          cases hd : xHd k pc E with
          | none =>
            rw [hd] at h
            refine ⟨n, ?_⟩
            show (match xr n k' 0 (xEnt (xml k') as) [] h0 0 0 with | none => none | some (.inl v, h') => _ | some (.inr E, h') => _) = _
            rw [hn]
            simp only [if_pos hk, hd]
            exact h
          | some z =>
            rw [hd] at h
            obtain ⟨pc', i⟩ := z
            simp only at h
            by_cases hi : xkd k = 2 ∧ i < ls.length
            · rw [if_pos hi] at h
              obtain ⟨m, hm⟩ := xX_some.mp h
              refine ⟨max n m, ?_⟩
              show (match xr (max n m) k' 0 (xEnt (xml k') as) [] h0 0 0 with | none => none | some (.inl v, h') => _ | some (.inr E, h') => _) = _
              rw [xr_le (Nat.le_max_left n m) hn]
              simp only [if_pos hk, hd, if_pos hi]
              exact xr_le (Nat.le_max_right n m) hm
            · rw [if_neg hi] at h; simp at h
        · rw [if_neg hk] at h; simp at h
theorem xX_eq (k pc : Nat) (ls : xLs) (st : List Value) (h : xHp) (nc ns : Nat) : xX k pc ls st h nc ns = xK xX k (xF k pc ls st h nc ns) := by
  apply Option.ext
  intro r
  constructor
  · intro hx
    obtain ⟨n, hn⟩ := xX_some.mp hx
    cases n with
    | zero => simp [xr] at hn
    | succ n => exact xK_mono (fun _ _ _ _ _ _ _ _ h => xX_some.mpr ⟨n, h⟩) hn
  · intro hx
    obtain ⟨n, hn⟩ := xK_fuel hx
    exact xX_some.mpr ⟨n + 1, hn⟩
