/-! ONE STEP, AND WHAT COMES OF IT. The constants mm_cl, mm_fty, mm_aty, mm_pr, mm_sv, mm_mxC, mm_mxS stand in the part of tables. -/
/-- what is fixed while the law runs: the array classes by number, the static tables' addresses, the script's address, length, ints, the first address that is ours -/
abbrev Gw : Type := (Nat → ClassId) × (Nat → Nat) × Nat × Nat × (Nat → Int32) × Nat
abbrev Gw.dA (G : Gw) : Nat → ClassId := G.1
abbrev Gw.sa (G : Gw) : Nat → Nat := G.2.1
abbrev Gw.xa (G : Gw) : Nat := G.2.2.1
abbrev Gw.xl (G : Gw) : Nat := G.2.2.2.1
abbrev Gw.xs (G : Gw) : Nat → Int32 := G.2.2.2.2.1
abbrev Gw.b0 (G : Gw) : Nat := G.2.2.2.2.2
abbrev Xt : Type := Nat → Nat → Lo → List Value → Mm → Nat → Nat → Nat → Nat → Po → Prop
def cndZ (c : ClassFile.Cond) (x : Int32) : Prop := match c with
  | .eq => x = 0 | .ne => ¬ x = 0 | .lt => x < 0 | .ge => 0 ≤ x | .gt => 0 < x | .le => x ≤ 0
def cndI (c : ClassFile.Cond) (x y : Int32) : Prop := match c with
  | .eq => x = y | .ne => ¬ x = y | .lt => x < y | .ge => y ≤ x | .gt => y < x | .le => x ≤ y
/-- the number of slots and the first values of an object of a kind -/
def obDf (x : Nat) : List Value := (List.range ((mm_cl[x]?).map (fun q => q.2.2)|>.getD 0)).map (fun k => defaultValue (mm_fty x k))
def arDf (t : Nat) (n : Nat) : vp_A := match mm_aty[t]? with
  | some .long => (n, .inr (.inl (fun _ => 0)))
  | some (.object _) => (n, .inr (.inr (.inr (.inr (fun _ => none)))))
  | _ => (n, .inl (fun _ => 0))
def arBy (t : Nat) : Nat := match mm_aty[t]? with
  | some ty => componentBytes ty
  | none => 8
/-- behind a call -/
def backP (X : Xt) (y pc : Nat) (ls : Lo) (rest : List Value) (fr lo : Nat) (Q : Po) (o : Ou) (M : Mm) (sz sl : Nat) : Prop := match o with
  | .inl v => X y (pc + 3) ls (v.toList ++ rest) M sz sl fr lo Q
  | .inr k => (match mm_pr y with
    | some me => (match me.hn pc k with
      | some h => ∀ a : Nat, X y h ls [.ref a] M sz sl fr lo Q
      | none => me.hs = [] ∧ Q (.inr k) M sz sl)
    | none => False)
def callP (X : Xt) (y pc : Nat) (ls : Lo) (st : List Value) (M : Mm) (sz sl fr lo : Nat) (Q : Po) (x : Nat) (rc : List Value → Prop) : Prop := match mm_pr x with
  | none => False
  | some mi => mi.na ≤ st.length ∧ rc (st.take mi.na).reverse ∧ (loArgs (st.take mi.na).reverse).length ≤ mi.mL ∧ 1 ≤ fr ∧ mi.mL + 25 ≤ lo ∧ ((st.drop mi.na).map (fun v => v.category)).sum ≤ 14 ∧
    ∃ Qc : Po, X x 0 (loEnt mi.mL (st.take mi.na).reverse) [] M sz sl (fr - 1) (lo - (mi.mL + 25)) Qc ∧
      ∀ (o : Ou) (M' : Mm) (sz' sl' : Nat), Qc o M' sz' sl' → backP X y pc ls (st.drop mi.na) fr lo Q o M' sz' sl'
def rcV (M : Mm) (z : Nat) (As : List Value) : Prop := match As with
  | .ref b :: _ => ∃ fs, M b = some (.inr (z, fs))
  | _ => False
def rcI (As : List Value) : Prop := match As with
  | .ref _ :: _ => True
  | _ => False
/-- a step that isn't pure -/
def memS (G : Gw) (X : Xt) (y pc : Nat) (ls : Lo) (st : List Value) (M : Mm) (sz sl fr lo : Nat) (Q : Po) (ins : Instr) (w x z : Nat) (k : Int) : Prop := match ins with
  | .ifCond c o => (match st with
    | .int v :: r => 0 ≤ (pc : Int) + o ∧ (cndZ c v → X y (tgt pc o) ls r M sz sl fr lo Q) ∧ (¬ cndZ c v → X y (pc + 3) ls r M sz sl fr lo Q)
    | _ => False)
  | .if_icmp c o => (match st with
    | .int v :: .int u :: r => 0 ≤ (pc : Int) + o ∧ (cndI c u v → X y (tgt pc o) ls r M sz sl fr lo Q) ∧ (¬ cndI c u v → X y (pc + 3) ls r M sz sl fr lo Q)
    | _ => False)
  | .tableswitch d a b offs => (match st with
    | .int v :: r => (v.toInt < a ∨ b < v.toInt → 0 ≤ (pc : Int) + d ∧ X y (tgt pc d) ls r M sz sl fr lo Q) ∧
        (¬ v.toInt < a → ¬ b < v.toInt → ∃ o, offs[(v.toInt - a).toNat]? = some o ∧ 0 ≤ (pc : Int) + o ∧ X y (tgt pc o) ls r M sz sl fr lo Q)
    | _ => False)
  | .irem => (match st with
    | .int v :: .int u :: r => ¬ v = 0 ∧ X y (pc + 1) ls (.int (u - u / v * v) :: r) M sz sl fr lo Q
    | _ => False)
  | .idiv => (match st with
    | .int v :: .int u :: r => ¬ v = 0 ∧ X y (pc + 1) ls (.int (u / v) :: r) M sz sl fr lo Q
    | _ => False)
  | .getfield _ => (match st with
    | .ref a :: r => ∃ fs v, M a = some (.inr (x, fs)) ∧ fs[z]? = some v ∧ X y (pc + 3) ls (v :: r) M sz sl fr lo Q
    | _ => False)
  | .putfield _ => (match st with
    | v :: .ref a :: r => ∃ fs, M a = some (.inr (x, fs)) ∧ z < fs.length ∧ narrow (mm_fty x z) v = v ∧ fits (mm_fty x z) v = true ∧ X y (pc + 3) ls r (mUp M a (.inr (x, fs.set z v))) sz sl fr lo Q
    | _ => False)
  | .getstatic _ => X y (pc + 3) ls (.ref (G.sa x) :: st) M sz sl fr lo Q
  | .iaload => (match st with
    | .int i :: .ref a :: r => if w = 0 then ∃ n f, M a = some (.inl (G.dA x, n, .inl f)) ∧ vp_in i n ∧ X y (pc + 1) ls (.int (f i.toNatClampNeg) :: r) M sz sl fr lo Q
        else if w = 1 then a = G.sa x ∧ vp_in i (mm_sv x).1 ∧ X y (pc + 1) ls (.int ((mm_sv x).2 i.toNatClampNeg) :: r) M sz sl fr lo Q
        else a = G.xa ∧ vp_in i G.xl ∧ X y (pc + 1) ls (.int (G.xs i.toNatClampNeg) :: r) M sz sl fr lo Q
    | _ => False)
  | .laload => (match st with
    | .int i :: .ref a :: r => ∃ n f, M a = some (.inl (G.dA x, n, .inr (.inl f))) ∧ vp_in i n ∧ X y (pc + 1) ls (.long (f i.toNatClampNeg) :: r) M sz sl fr lo Q
    | _ => False)
  | .baload => (match st with
    | .int i :: .ref a :: r => ∃ n f, M a = some (.inl (G.dA x, n, .inl f)) ∧ vp_in i n ∧ X y (pc + 1) ls (.int (f i.toNatClampNeg) :: r) M sz sl fr lo Q
    | _ => False)
  | .aaload => (match st with
    | .int i :: .ref a :: r => ∃ n f, M a = some (.inl (G.dA x, n, .inr (.inr (.inr (.inr f))))) ∧ vp_in i n ∧ X y (pc + 1) ls (va_rf (f i.toNatClampNeg) :: r) M sz sl fr lo Q
    | _ => False)
  | .iastore => (match st with
    | .int v :: .int i :: .ref a :: r => ∃ n f, M a = some (.inl (G.dA x, n, .inl f)) ∧ vp_in i n ∧ X y (pc + 1) ls r (mUp M a (.inl (G.dA x, n, .inl (upd f i.toNatClampNeg v)))) sz sl fr lo Q
    | _ => False)
  | .lastore => (match st with
    | .long v :: .int i :: .ref a :: r => ∃ n f, M a = some (.inl (G.dA x, n, .inr (.inl f))) ∧ vp_in i n ∧ X y (pc + 1) ls r (mUp M a (.inl (G.dA x, n, .inr (.inl (vp_updL f i.toNatClampNeg v))))) sz sl fr lo Q
    | _ => False)
  | .bastore => (match st with
    | .int v :: .int i :: .ref a :: r => ∃ n f, M a = some (.inl (G.dA x, n, .inl f)) ∧ vp_in i n ∧ vp_nar .boolean v = v ∧ X y (pc + 1) ls r (mUp M a (.inl (G.dA x, n, .inl (upd f i.toNatClampNeg v)))) sz sl fr lo Q
    | _ => False)
  | .aastore => (match st with
    | .ref v :: .int i :: .ref a :: r => ∃ n f fs, M a = some (.inl (G.dA x, n, .inr (.inr (.inr (.inr f))))) ∧ vp_in i n ∧ M v = some (.inr (z, fs)) ∧ X y (pc + 1) ls r (mUp M a (.inl (G.dA x, n, .inr (.inr (.inr (.inr (va_up f i.toNatClampNeg (some v)))))))) sz sl fr lo Q
    | _ => False)
  | .arraylength => (match st with
    | .ref a :: r => if w = 0 then ∃ v, M a = some (.inl (G.dA x, v)) ∧ X y (pc + 1) ls (.int (Int32.ofNat v.1) :: r) M sz sl fr lo Q
        else a = G.xa ∧ X y (pc + 1) ls (.int (Int32.ofNat G.xl) :: r) M sz sl fr lo Q
    | _ => False)
  | .newarray _ => (match st with
    | .int n :: r => ¬ n < 0 ∧ n.toNatClampNeg * arBy x ≤ 536870912 ∧ sz + 1 ≤ G.b0 + mm_mxC ∧ sl + n.toNatClampNeg ≤ mm_mxS ∧ X y (pc + 2) ls (.ref sz :: r) (mUp M sz (.inl (G.dA x, arDf x n.toNatClampNeg))) (sz + 1) (sl + n.toNatClampNeg) fr lo Q
    | _ => False)
  | .anewarray _ => (match st with
    | .int n :: r => ¬ n < 0 ∧ n.toNatClampNeg * 4 ≤ 536870912 ∧ sz + 1 ≤ G.b0 + mm_mxC ∧ sl + n.toNatClampNeg ≤ mm_mxS ∧ X y (pc + 3) ls (.ref sz :: r) (mUp M sz (.inl (G.dA x, arDf x n.toNatClampNeg))) (sz + 1) (sl + n.toNatClampNeg) fr lo Q
    | _ => False)
  | .new _ => if z = 0 then sz + 1 ≤ G.b0 + mm_mxC ∧ sl + (obDf x).length ≤ mm_mxS ∧ X y (pc + 3) ls (.ref sz :: st) (mUp M sz (.inr (x, obDf x))) (sz + 1) (sl + (obDf x).length) fr lo Q
      else st = [] ∧ sz + 1 ≤ G.b0 + mm_mxC ∧ sl + 6 ≤ mm_mxS ∧ 8 ≤ fr ∧ 120 ≤ lo ∧ Q (.inr x) M (sz + 1) (sl + 6)
  | .invokevirtual _ => callP X y pc ls st M sz sl fr lo Q x (rcV M z)
  | .invokespecial _ => if z = 1 then (match st with
      | .ref _ :: r => 1 ≤ fr ∧ (r.map (fun v => v.category)).sum + 12 ≤ lo ∧ X y (pc + 3) ls r M sz sl fr lo Q
      | _ => False)
      else callP X y pc ls st M sz sl fr lo Q x rcI
  | .invokestatic _ => callP X y pc ls st M sz sl fr lo Q x (fun _ => True)
  | .ireturn => (match st with
    | [.int v] => (∃ mi t, mm_pr y = some mi ∧ mi.rt = some t ∧ narrow t (.int v) = .int v) ∧ Q (.inl (some (.int v))) M sz sl
    | _ => False)
  | .lreturn => (match st with
    | [.long v] => Q (.inl (some (.long v))) M sz sl
    | _ => False)
  | .return_ => (match st with
    | [] => Q (.inl none) M sz sl
    | _ => False)
  | _ => False
def stp (G : Gw) (X : Xt) (y pc : Nat) (ls : Lo) (st : List Value) (M : Mm) (sz sl fr lo : Nat) (Q : Po) : Prop := match (mm_pr y).bind (fun mi => mi.co pc) with
  | none => False
  | some (ins, w, x, z, k) => (match pure1 ins k pc ls st with
    | some r => X y r.1 r.2.1 r.2.2 M sz sl fr lo Q
    | none => memS G X y pc ls st M sz sl fr lo Q ins w x z k)
def Xle (Y X : Xt) : Prop := ∀ y pc ls st M sz sl fr lo Q, Y y pc ls st M sz sl fr lo Q → X y pc ls st M sz sl fr lo Q
def Closed (G : Gw) (X : Xt) : Prop := ∀ y pc ls st M sz sl fr lo Q, (∃ Y : Xt, Xle Y X ∧ stp G Y y pc ls st M sz sl fr lo Q) → X y pc ls st M sz sl fr lo Q
/-- from here the mini machine comes to an end with Q -/
def Ev (G : Gw) : Xt := fun y pc ls st M sz sl fr lo Q => ∀ X : Xt, Closed G X → X y pc ls st M sz sl fr lo Q
section EV
variable {G : Gw} {y pc : Nat} {ls : Lo} {st : List Value} {M : Mm} {sz sl fr lo : Nat} {Q : Po}
theorem Ev.le {X : Xt} (h : Closed G X) : Xle (Ev G) X := fun _ _ _ _ _ _ _ _ _ _ k => k X h
theorem Ev.fold (h : stp G (Ev G) y pc ls st M sz sl fr lo Q) : Ev G y pc ls st M sz sl fr lo Q := fun X hX => hX _ _ _ _ _ _ _ _ _ _ ⟨Ev G, Ev.le hX, h⟩
end EV
