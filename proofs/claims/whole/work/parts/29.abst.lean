/-! THE ABSTRACT STEP: what must hold, and what comes next -/
def pAnd (p q : Option Prop) : Option Prop := match p, q with
  | none, r => r
  | some a, none => some a
  | some a, some b => some (a ∧ b)
def pOf (p : Option Prop) : Prop := match p with
  | none => True
  | some a => a
theorem pAnd_of {p q : Option Prop} (h : pOf (pAnd p q)) : pOf p ∧ pOf q := by
  cases p <;> cases q
  · exact ⟨trivial, trivial⟩
  · exact ⟨trivial, h⟩
  · exact ⟨h, trivial⟩
  · exact h
/-- an index of a thing is one -/
def ckI (t : Nat) (i : Int) : Option Prop := bif Nat.beq (tgC t) 1 then some (i = 0) else some (0 ≤ i ∧ i < (tgC t : Int))
def isO (t x z : Nat) : Bool := match tgS t with
  | .inl k => Nat.beq k x && Nat.blt z (nF x)
  | _ => false
/-- an array's length, if it is one of that type -/
def isA (t x : Nat) : Option Nat := match tgS t with
  | .inr (d, n) => bif Nat.beq d x then some n else none
  | _ => none
def ckA (z : Int) (n : Nat) : Option Prop := some (0 ≤ z ∧ z < (n : Int))
def spV (x : Nat) (z : Int) : Int := ((mm_sv x).2 z.toNat).toInt
def scV (G : Gw) (z : Int) : Int := (G.xs z.toNat).toInt
def aAnd (a b : Int) : Int := (i32 a &&& i32 b).toInt
def aOr (a b : Int) : Int := (i32 a ||| i32 b).toInt
def aXor (a b : Int) : Int := (i32 a ^^^ i32 b).toInt
def aShl (a b : Int) : Int := (i32 a <<< (i32 b &&& 31)).toInt
def aShr (a b : Int) : Int := (i32 a >>> (i32 b &&& 31)).toInt
def lAnd (a b : Int) : Int := (i64 a &&& i64 b).toInt
def lOr (a b : Int) : Int := (i64 a ||| i64 b).toInt
def lShl (a b : Int) : Int := (i64 a <<< ((i32 b).toInt64 &&& 63)).toInt
def lShr (a b : Int) : Int := (i64 a >>> ((i32 b).toInt64 &&& 63)).toInt
abbrev ANx : Type := Option Prop × Nat × ALo × List AV × Sg
def aPu (ins : Instr) (k : Int) (pc : Nat) (ls : ALo) (st : List AV) : Option (Option Prop × Nat × ALo × List AV) := match ins with
  | .iconst n => some (none, pc + 1, ls, .inl n :: st)
  | .bipush _ => some (none, pc + 2, ls, .inl k :: st)
  | .sipush _ => some (none, pc + 3, ls, .inl k :: st)
  | .lconst n => some (none, pc + 1, ls, .inr (.inl ((n : Nat) : Int)) :: st)
  | .ldc2_w _ => some (none, pc + 3, ls, .inr (.inl k) :: st)
  | .iload_n i => (match ls[(i : Nat)]? with | some (some (.inl v)) => some (none, pc + 1, ls, .inl v :: st) | _ => none)
  | .iload i => (match ls[i]? with | some (some (.inl v)) => some (none, pc + 2, ls, .inl v :: st) | _ => none)
  | .lload_n i => (match ls[(i : Nat)]? with | some (some (.inr (.inl v))) => some (none, pc + 1, ls, .inr (.inl v) :: st) | _ => none)
  | .lload i => (match ls[i]? with | some (some (.inr (.inl v))) => some (none, pc + 2, ls, .inr (.inl v) :: st) | _ => none)
  | .aload_n i => (match ls[(i : Nat)]? with | some (some (.inr (.inr v))) => some (none, pc + 1, ls, .inr (.inr v) :: st) | _ => none)
  | .aload i => (match ls[i]? with | some (some (.inr (.inr v))) => some (none, pc + 2, ls, .inr (.inr v) :: st) | _ => none)
  | .istore_n i => (match st with | .inl v :: r => bif Nat.blt i ls.length then some (none, pc + 1, aSet1 ls i (.inl v), r) else none | _ => none)
  | .istore i => (match st with | .inl v :: r => bif Nat.blt i ls.length then some (none, pc + 2, aSet1 ls i (.inl v), r) else none | _ => none)
  | .lstore_n i => (match st with | .inr (.inl v) :: r => bif Nat.blt ((i : Nat) + 1) ls.length then some (none, pc + 1, aSet2 ls i (.inr (.inl v)), r) else none | _ => none)
  | .lstore i => (match st with | .inr (.inl v) :: r => bif Nat.blt (i + 1) ls.length then some (none, pc + 2, aSet2 ls i (.inr (.inl v)), r) else none | _ => none)
  | .astore_n i => (match st with | .inr (.inr v) :: r => bif Nat.blt i ls.length then some (none, pc + 1, aSet1 ls i (.inr (.inr v)), r) else none | _ => none)
  | .astore i => (match st with | .inr (.inr v) :: r => bif Nat.blt i ls.length then some (none, pc + 2, aSet1 ls i (.inr (.inr v)), r) else none | _ => none)
  | .iinc i n => (match ls[i]? with | some (some (.inl v)) => some (none, pc + 3, aSet1 ls i (.inl (v + n)), st) | _ => none)
  | .iadd => (match st with | .inl b :: .inl a :: r => some (none, pc + 1, ls, .inl (a + b) :: r) | _ => none)
  | .isub => (match st with | .inl b :: .inl a :: r => some (none, pc + 1, ls, .inl (a - b) :: r) | _ => none)
  | .imul => (match st with | .inl b :: .inl a :: r => some (none, pc + 1, ls, .inl (a * b) :: r) | _ => none)
  | .iand => (match st with | .inl b :: .inl a :: r => some (none, pc + 1, ls, .inl (aAnd a b) :: r) | _ => none)
  | .ior => (match st with | .inl b :: .inl a :: r => some (none, pc + 1, ls, .inl (aOr a b) :: r) | _ => none)
  | .ixor => (match st with | .inl b :: .inl a :: r => some (none, pc + 1, ls, .inl (aXor a b) :: r) | _ => none)
  | .ishl => (match st with | .inl b :: .inl a :: r => some (none, pc + 1, ls, .inl (aShl a b) :: r) | _ => none)
  | .ishr => (match st with | .inl b :: .inl a :: r => some (none, pc + 1, ls, .inl (aShr a b) :: r) | _ => none)
  | .ladd => (match st with | .inr (.inl b) :: .inr (.inl a) :: r => some (none, pc + 1, ls, .inr (.inl (a + b)) :: r) | _ => none)
  | .lsub => (match st with | .inr (.inl b) :: .inr (.inl a) :: r => some (none, pc + 1, ls, .inr (.inl (a - b)) :: r) | _ => none)
  | .lmul => (match st with | .inr (.inl b) :: .inr (.inl a) :: r => some (none, pc + 1, ls, .inr (.inl (a * b)) :: r) | _ => none)
  | .land => (match st with | .inr (.inl b) :: .inr (.inl a) :: r => some (none, pc + 1, ls, .inr (.inl (lAnd a b)) :: r) | _ => none)
  | .lor => (match st with | .inr (.inl b) :: .inr (.inl a) :: r => some (none, pc + 1, ls, .inr (.inl (lOr a b)) :: r) | _ => none)
  | .lneg => (match st with | .inr (.inl a) :: r => some (none, pc + 1, ls, .inr (.inl (-a)) :: r) | _ => none)
  | .lshl => (match st with | .inl b :: .inr (.inl a) :: r => some (none, pc + 1, ls, .inr (.inl (lShl a b)) :: r) | _ => none)
  | .lshr => (match st with | .inl b :: .inr (.inl a) :: r => some (none, pc + 1, ls, .inr (.inl (lShr a b)) :: r) | _ => none)
  | .i2l => (match st with | .inl a :: r => some (some (r32 a), pc + 1, ls, .inr (.inl a) :: r) | _ => none)
  | .dup => (match st with | .inl v :: r => some (none, pc + 1, ls, .inl v :: .inl v :: r) | .inr (.inr v) :: r => some (none, pc + 1, ls, .inr (.inr v) :: .inr (.inr v) :: r) | _ => none)
  | .pop => (match st with | .inl _ :: r => some (none, pc + 1, ls, r) | .inr (.inr _) :: r => some (none, pc + 1, ls, r) | _ => none)
  | .goto o => if 0 ≤ (pc : Int) + o then some (none, tgt pc o, ls, st) else none
  | _ => none
def aMe (G : Gw) (ins : Instr) (w x z : Nat) (pc : Nat) (st : List AV) (S : Sg) : Option (Option Prop × Nat × List AV × Sg) := match ins with
  | .irem => (match st with | .inl b :: .inl a :: r => some (some ((0 ≤ a ∧ a < 2147483648) ∧ (0 < b ∧ b < 2147483648)), pc + 1, .inl (a % b) :: r, S) | _ => none)
  | .idiv => (match st with | .inl b :: .inl a :: r => some (some ((0 ≤ a ∧ a < 2147483648) ∧ (0 < b ∧ b < 2147483648)), pc + 1, .inl (a / b) :: r, S) | _ => none)
  | .getfield _ => (match st with
    | .inr (.inr (t, i)) :: r => bif isO t x z then some (ckI t i, pc + 3, slA S t i x z :: r, S) else none
    | _ => none)
  | .putfield _ => (match st with
    | v :: .inr (.inr (t, i)) :: r => bif isO t x z then (match mm_fty x z, v with
      | .long, .inr (.inl q) => some (pAnd (ckI t i) (some (r64 q)), pc + 3, r, su S t i z q)
      | .int, .inl q => some (pAnd (ckI t i) (some (r32 q)), pc + 3, r, su S t i z q)
      | .boolean, .inl q => some (pAnd (ckI t i) (some (q = 0 ∨ q = 1)), pc + 3, r, su S t i z q)
      | _, _ => none) else none
    | _ => none)
  | .getstatic _ => bif Nat.ble x 1 then some (none, pc + 3, .inr (.inr (60 + x, 0)) :: st, S) else none
  | .iaload => (match st with
    | .inl q :: .inr (.inr (t, i)) :: r => bif Nat.beq w 0 then (match isA t x with
        | some n => bif Nat.beq x 0 then some (pAnd (ckI t i) (ckA q n), pc + 1, .inl (S t i q) :: r, S) else none
        | none => none)
      else bif Nat.beq w 1 then (bif Nat.beq t (60 + x) && Nat.ble x 1 then some (ckA q 8, pc + 1, .inl (spV x q) :: r, S) else none)
      else bif Nat.beq t 70 then some (ckA q G.xl, pc + 1, .inl (scV G q) :: r, S) else none
    | _ => none)
  | .laload => (match st with
    | .inl q :: .inr (.inr (t, i)) :: r => (match isA t x with
        | some n => bif Nat.beq x 1 then some (pAnd (ckI t i) (ckA q n), pc + 1, .inr (.inl (S t i q)) :: r, S) else none
        | none => none)
    | _ => none)
  | .baload => (match st with
    | .inl q :: .inr (.inr (t, i)) :: r => (match isA t x with
        | some n => bif Nat.beq x 2 then some (pAnd (ckI t i) (ckA q n), pc + 1, .inl (S t i q) :: r, S) else none
        | none => none)
    | _ => none)
  | .aaload => (match st with
    | .inl q :: .inr (.inr (t, i)) :: r => (match isA t x with
        | some n => bif Nat.blt 2 x then some (pAnd (ckI t i) (ckA q n), pc + 1, .inr (.inr (rfF t i q)) :: r, S) else none
        | none => none)
    | _ => none)
  | .iastore => (match st with
    | .inl v :: .inl q :: .inr (.inr (t, i)) :: r => (match isA t x with
        | some n => bif Nat.beq x 0 then some (pAnd (pAnd (ckI t i) (ckA q n)) (some (r32 v)), pc + 1, r, su S t i q v) else none
        | none => none)
    | _ => none)
  | .lastore => (match st with
    | .inr (.inl v) :: .inl q :: .inr (.inr (t, i)) :: r => (match isA t x with
        | some n => bif Nat.beq x 1 then some (pAnd (pAnd (ckI t i) (ckA q n)) (some (r64 v)), pc + 1, r, su S t i q v) else none
        | none => none)
    | _ => none)
  | .bastore => (match st with
    | .inl v :: .inl q :: .inr (.inr (t, i)) :: r => (match isA t x with
        | some n => bif Nat.beq x 2 then some (pAnd (pAnd (ckI t i) (ckA q n)) (some (v = 0 ∨ v = 1)), pc + 1, r, su S t i q v) else none
        | none => none)
    | _ => none)
  | .arraylength => (match st with
    | .inr (.inr (t, _)) :: r => bif Nat.beq t 70 && Nat.beq w 2 then some (none, pc + 1, .inl (G.xl : Int) :: r, S) else none
    | _ => none)
  | _ => none
def arun (G : Gw) (y : Nat) : Nat → Nat → ALo → List AV → Sg → Option ANx
  | 0, pc, ls, st, S => some (none, pc, ls, st, S)
  | n + 1, pc, ls, st, S => match (mm_pr y).bind (fun mi => mi.co pc) with
    | none => none
    | some (ins, w, x, z, k) => (match aPu ins k pc ls st with
      | some (P, pc', ls', st') => (match arun G y n pc' ls' st' S with
        | some (P2, c) => some (pAnd P P2, c)
        | none => none)
      | none => (match aMe G ins w x z pc st S with
        | some (P, pc', st', S') => (match arun G y n pc' ls st' S' with
          | some (P2, c) => some (pAnd P P2, c)
          | none => none)
        | none => none))
