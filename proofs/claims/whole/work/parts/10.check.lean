/-! WHAT A TABLE'S ENTRY MUST BE: decoded so, its words among the tables' -/
def isSw (i : Instr) : Bool := match i with
  | .tableswitch .. => true
  | _ => false
def lnkP (own : String) (i : Nat) (T : u_T) (z : Nat) : Prop := Jvm.Cond.fieldLink own i (T z).1 (T z).2.1 (T z).2.2.1 ∈ mm_tw ∨ ∃ host : String, Jvm.Cond.fieldLinkNest own i (T z).1 (T z).2.1 (T z).2.2.1 host ∈ mm_tw
def chkI (mi : Mi) (ins : Instr) (w x z : Nat) (k : Int) : Prop := match ins with
  | .bipush n => (Int8.ofInt n).toInt32 = Int32.ofInt k
  | .sipush n => (Int16.ofInt n).toInt32 = Int32.ofInt k
  | .ldc2_w i => Jvm.Cond.constantLong mi.nm.cls i (Int64.ofInt k) ∈ mm_tw
  | .getfield i => ∃ C T N, mm_cl[x]? = some (C, T, N) ∧ z < N ∧ lnkP mi.nm.cls i T z
  | .putfield i => ∃ C T N, mm_cl[x]? = some (C, T, N) ∧ z < N ∧ (((T z).2.2.2 = false ∧ lnkP mi.nm.cls i T z) ∨ ((T z).2.2.2 = true ∧ Jvm.Cond.fieldLink mi.nm.cls i (T z).1 (T z).2.1 (T z).2.2.1 ∈ mm_tw ∧ mi.nm.name = "<init>" ∧ (T z).1 = mi.nm.cls))
  | .getstatic i => ∃ q, mm_sn[x]? = some q ∧ (Jvm.Cond.fieldLink mi.nm.cls i q.1 q.2.1 q.2.2 ∈ mm_tw ∨ ∃ host : String, Jvm.Cond.fieldLinkNest mi.nm.cls i q.1 q.2.1 q.2.2 host ∈ mm_tw)
  | .iaload => (w = 0 → mm_aty[x]? = some .int) ∧ (w = 1 → ∃ q, mm_sn[x]? = some q)
  | .iastore => mm_aty[x]? = some .int
  | .laload => mm_aty[x]? = some .long
  | .lastore => mm_aty[x]? = some .long
  | .baload => mm_aty[x]? = some .boolean
  | .bastore => mm_aty[x]? = some .boolean
  | .aaload => ∃ C, mm_aty[x]? = some (.object C)
  | .aastore => ∃ C T N, mm_aty[x]? = some (.object C) ∧ mm_cl[z]? = some (C, T, N)
  | .arraylength => w = 0 → ∃ ty, mm_aty[x]? = some ty
  | .newarray t => mm_aty[x]? = some (Op.newarray.typeOf t) ∧ Op.newarray.typeOf t ∈ mm_acl ∧ (Op.newarray.typeOf t = .int ∨ Op.newarray.typeOf t = .long ∨ Op.newarray.typeOf t = .boolean)
  | .anewarray i => ∃ C, mm_aty[x]? = some (.object C) ∧ C ∈ mm_ao ∧ Jvm.Cond.classLink mi.nm.cls i C ∈ mm_tw
  | .new i => z = 0 → ∃ C T N, mm_cl[x]? = some (C, T, N) ∧ Jvm.Cond.classLink mi.nm.cls i C ∈ mm_tw
  | .invokespecial i => z = 1 → Jvm.Cond.methodLink mi.nm.cls i Lib.objectInit ∈ mm_tw
  | _ => True
def chkP (mi : Mi) (pc : Nat) (q : Ins) : Prop := (∃ n, decode mi.by pc = .ok (q.1, n) ∧ (isSw q.1 = false → n = lenOf q.1)) ∧ chkI mi q.1 q.2.1 q.2.2.1 q.2.2.2.1 q.2.2.2.2
/-- what holds of each of our kinds of object -/
def clP (x : Nat) (C : String) (T : u_T) (N : Nat) : Prop := (∀ w ∈ u_ws C T N, w ∈ mm_tw) ∧ (∀ k, k < N → parseFieldDescriptor (T k).2.2.1 = some (mm_fty x k)) ∧ (∀ a, a < N → ∀ b, b < N → a ≠ b → (T a).2.1 ≠ (T b).2.1) ∧ Jvm.Cond.instantiable C N ∈ mm_tw ∧ Jvm.Cond.initialized C ∈ mm_tw
theorem clOk0 : clP 0 "ChannelRooms$Channel" mT0 7 := ⟨by decide +kernel, by decide +kernel, by decide +kernel, by decide +kernel, by decide +kernel⟩
theorem clOk1 : clP 1 "ChannelRooms$LabelSearch" mT1 9 := ⟨by decide +kernel, by decide +kernel, by decide +kernel, by decide +kernel, by decide +kernel⟩
theorem clOk2 : clP 2 "ChannelRooms$Part" mT2 12 := ⟨by decide +kernel, by decide +kernel, by decide +kernel, by decide +kernel, by decide +kernel⟩
theorem clOk3 : clP 3 "ChannelRooms$Pose" mT3 7 := ⟨by decide +kernel, by decide +kernel, by decide +kernel, by decide +kernel, by decide +kernel⟩
theorem clOk4 : clP 4 "ChannelRooms$Room" mT4 5 := ⟨by decide +kernel, by decide +kernel, by decide +kernel, by decide +kernel, by decide +kernel⟩
theorem clOk5 : clP 5 "ChannelRooms" mT5 9 := ⟨by decide +kernel, by decide +kernel, by decide +kernel, by decide +kernel, by decide +kernel⟩
theorem clOk6 : clP 6 "ChannelRoomsModel" mT6 31 := ⟨by decide +kernel, by decide +kernel, by decide +kernel, by decide +kernel, by decide +kernel⟩
theorem mm_clOk : ∀ (x : Nat) (C : String) (T : u_T) (N : Nat), mm_cl[x]? = some (C, T, N) → clP x C T N := by
  intro x C T N h
  match x, h with
  | 0, h => cases h; exact clOk0
  | 1, h => cases h; exact clOk1
  | 2, h => cases h; exact clOk2
  | 3, h => cases h; exact clOk3
  | 4, h => cases h; exact clOk4
  | 5, h => cases h; exact clOk5
  | 6, h => cases h; exact clOk6
  | n + 7, h => simp [mm_cl] at h
