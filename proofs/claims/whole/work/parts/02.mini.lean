/-! THE MINI MACHINE: a method's code as a table; memory as a function from addresses to what is known of the cell; one step as a predicate transformer; its least fixpoint. -/
/-- what is known of the cell at an address -/
abbrev Mm : Type := Nat → Option va_E
def mUp (M : Mm) (a : Nat) (e : va_E) : Mm := fun q => if q = a then some e else M q
theorem mUp_self (M : Mm) (a : Nat) (e : va_E) : mUp M a e a = some e := by simp [mUp]
theorem mUp_ne (M : Mm) {a b : Nat} (e : va_E) (h : b ≠ a) : mUp M a e b = M b := by simp [mUp, h]
/-- an instruction with its notes: instruction, place of its word in the table, two numbers, a constant -/
abbrev Ins : Type := Instr × Nat × Nat × Nat × Int
abbrev Lo : Type := List (Option Value)
abbrev Ou : Type := Option Value ⊕ Nat
abbrev Po : Type := Ou → Mm → Nat → Nat → Prop
/-- a method: name, bytes, locals, what it returns, handlers; the number of its words of arguments; where a throw of a kind goes at a place; its code -/
abbrev Mi : Type := MethodName × ByteArray × Nat × Option FieldType × List (Nat × Nat × Nat × Nat) × Nat × (Nat → Nat → Option Nat) × (Nat → Option Ins)
abbrev Mi.nm (m : Mi) : MethodName := m.1
abbrev Mi.by (m : Mi) : ByteArray := m.2.1
abbrev Mi.mL (m : Mi) : Nat := m.2.2.1
abbrev Mi.rt (m : Mi) : Option FieldType := m.2.2.2.1
abbrev Mi.hs (m : Mi) : List (Nat × Nat × Nat × Nat) := m.2.2.2.2.1
abbrev Mi.na (m : Mi) : Nat := m.2.2.2.2.2.1
abbrev Mi.hn (m : Mi) : Nat → Nat → Option Nat := m.2.2.2.2.2.2.1
abbrev Mi.co (m : Mi) : Nat → Option Ins := m.2.2.2.2.2.2.2
/-- how long an instruction is (a switch apart) -/
def lenOf : Instr → Nat
  | .aload _ => 2 | .astore _ => 2 | .iload _ => 2 | .istore _ => 2 | .lload _ => 2 | .lstore _ => 2 | .bipush _ => 2 | .ldc _ => 2 | .newarray _ => 2
  | .sipush _ => 3 | .ldc2_w _ => 3 | .ldc_w _ => 3 | .iinc _ _ => 3 | .goto _ => 3 | .ifCond _ _ => 3 | .if_icmp _ _ => 3 | .if_acmp _ _ => 3 | .ifnull _ => 3 | .ifnonnull _ => 3
  | .getfield _ => 3 | .putfield _ => 3 | .getstatic _ => 3 | .putstatic _ => 3 | .invokevirtual _ => 3 | .invokespecial _ => 3 | .invokestatic _ => 3 | .new _ => 3 | .anewarray _ => 3 | .checkcast _ => 3
  | _ => 1
/-- a place ahead that holds half of a long that is being written over -/
def loClr (o : Option Value) : Option Value := match o with
  | some v => if v.category = 2 then none else some v
  | none => none
def loClrAt (ls : Lo) (i : Nat) : Lo := match i with
  | 0 => ls
  | j + 1 => ls.set j (loClr ((ls[j]?).getD none))
def loSet1 (ls : Lo) (i : Nat) (v : Value) : Lo := (loClrAt ls i).set i (some v)
def loSet2 (ls : Lo) (i : Nat) (v : Value) : Lo := ((loClrAt ls i).set i (some v)).set (i + 1) none
/-- the locals at a method's entry -/
def loArgs : List Value → Lo
  | [] => []
  | v :: r => if v.category = 2 then some v :: none :: loArgs r else some v :: loArgs r
def loEnt (n : Nat) (vs : List Value) : Lo := loArgs vs ++ List.replicate (n - (loArgs vs).length) none
def tgt (pc : Nat) (off : Int) : Nat := ((pc : Int) + off).toNat
/-- a step that looks at locals and operands alone, and has one way to go -/
def pure1 (ins : Instr) (k : Int) (pc : Nat) (ls : Lo) (st : List Value) : Option (Nat × Lo × List Value) := match ins with
  | .iconst n => some (pc + 1, ls, .int (Int32.ofInt n) :: st)
  | .bipush _ => some (pc + 2, ls, .int (Int32.ofInt k) :: st)
  | .sipush _ => some (pc + 3, ls, .int (Int32.ofInt k) :: st)
  | .lconst n => some (pc + 1, ls, .long (Int64.ofNat (n : Nat)) :: st)
  | .ldc2_w _ => some (pc + 3, ls, .long (Int64.ofInt k) :: st)
  | .iload_n i => (match ls[(i : Nat)]? with | some (some (.int x)) => some (pc + 1, ls, .int x :: st) | _ => none)
  | .iload i => (match ls[i]? with | some (some (.int x)) => some (pc + 2, ls, .int x :: st) | _ => none)
  | .lload_n i => (match ls[(i : Nat)]? with | some (some (.long x)) => some (pc + 1, ls, .long x :: st) | _ => none)
  | .lload i => (match ls[i]? with | some (some (.long x)) => some (pc + 2, ls, .long x :: st) | _ => none)
  | .aload_n i => (match ls[(i : Nat)]? with | some (some (.ref x)) => some (pc + 1, ls, .ref x :: st) | _ => none)
  | .aload i => (match ls[i]? with | some (some (.ref x)) => some (pc + 2, ls, .ref x :: st) | _ => none)
  | .istore_n i => (match st with | .int x :: r => if (i : Nat) < ls.length then some (pc + 1, loSet1 ls i (.int x), r) else none | _ => none)
  | .istore i => (match st with | .int x :: r => if i < ls.length then some (pc + 2, loSet1 ls i (.int x), r) else none | _ => none)
  | .lstore_n i => (match st with | .long x :: r => if (i : Nat) + 1 < ls.length then some (pc + 1, loSet2 ls i (.long x), r) else none | _ => none)
  | .lstore i => (match st with | .long x :: r => if i + 1 < ls.length then some (pc + 2, loSet2 ls i (.long x), r) else none | _ => none)
  | .astore_n i => (match st with | .ref x :: r => if (i : Nat) < ls.length then some (pc + 1, loSet1 ls i (.ref x), r) else none | _ => none)
  | .astore i => (match st with | .ref x :: r => if i < ls.length then some (pc + 2, loSet1 ls i (.ref x), r) else none | _ => none)
  | .iinc i n => (match ls[i]? with | some (some (.int x)) => some (pc + 3, loSet1 ls i (.int (x + Int32.ofInt n)), st) | _ => none)
  | .iadd => (match st with | .int y :: .int x :: r => some (pc + 1, ls, .int (x + y) :: r) | _ => none)
  | .isub => (match st with | .int y :: .int x :: r => some (pc + 1, ls, .int (x - y) :: r) | _ => none)
  | .imul => (match st with | .int y :: .int x :: r => some (pc + 1, ls, .int (x * y) :: r) | _ => none)
  | .iand => (match st with | .int y :: .int x :: r => some (pc + 1, ls, .int (x &&& y) :: r) | _ => none)
  | .ior => (match st with | .int y :: .int x :: r => some (pc + 1, ls, .int (x ||| y) :: r) | _ => none)
  | .ixor => (match st with | .int y :: .int x :: r => some (pc + 1, ls, .int (x ^^^ y) :: r) | _ => none)
  | .ishl => (match st with | .int y :: .int x :: r => some (pc + 1, ls, .int (x <<< (y &&& 31)) :: r) | _ => none)
  | .ishr => (match st with | .int y :: .int x :: r => some (pc + 1, ls, .int (x >>> (y &&& 31)) :: r) | _ => none)
  | .ladd => (match st with | .long y :: .long x :: r => some (pc + 1, ls, .long (x + y) :: r) | _ => none)
  | .lsub => (match st with | .long y :: .long x :: r => some (pc + 1, ls, .long (x - y) :: r) | _ => none)
  | .lmul => (match st with | .long y :: .long x :: r => some (pc + 1, ls, .long (x * y) :: r) | _ => none)
  | .land => (match st with | .long y :: .long x :: r => some (pc + 1, ls, .long (x &&& y) :: r) | _ => none)
  | .lor => (match st with | .long y :: .long x :: r => some (pc + 1, ls, .long (x ||| y) :: r) | _ => none)
  | .lneg => (match st with | .long x :: r => some (pc + 1, ls, .long (-x) :: r) | _ => none)
  | .lshl => (match st with | .int y :: .long x :: r => some (pc + 1, ls, .long (x <<< (y.toInt64 &&& 63)) :: r) | _ => none)
  | .lshr => (match st with | .int y :: .long x :: r => some (pc + 1, ls, .long (x >>> (y.toInt64 &&& 63)) :: r) | _ => none)
  | .i2l => (match st with | .int x :: r => some (pc + 1, ls, .long x.toInt64 :: r) | _ => none)
  | .l2i => (match st with | .long x :: r => some (pc + 1, ls, .int x.toInt32 :: r) | _ => none)
  | .lcmp => (match st with | .long y :: .long x :: r => some (pc + 1, ls, .int (lg_cmp x y) :: r) | _ => none)
  | .dup => (match st with | .int x :: r => some (pc + 1, ls, .int x :: .int x :: r) | .ref x :: r => some (pc + 1, ls, .ref x :: .ref x :: r) | _ => none)
  | .pop => (match st with | .int _ :: r => some (pc + 1, ls, r) | .ref _ :: r => some (pc + 1, ls, r) | _ => none)
  | .goto o => if 0 ≤ (pc : Int) + o then some (tgt pc o, ls, st) else none
  | _ => none
