/-! THE CHECK OF A TABLE'S ENTRY AS A PROGRAM: words by their places -/
def wB (a : Nat) (w : Jvm.Cond) : Bool := decide (lw_tbl[a]? = some w) && okW w
theorem wB_ok {a : Nat} {w : Jvm.Cond} (h : wB a w = true) : w ∈ mm_tw := by
  unfold wB at h
  rw [Bool.and_eq_true, decide_eq_true_eq] at h
  exact tw_of a h.1 h.2
def lnkB (a : Nat) (own : String) (i : Nat) (n1 n2 n3 : String) : Bool := wB a (.fieldLink own i n1 n2 n3) || wB a (.fieldLinkNest own i n1 n2 n3 "ChannelRooms")
theorem lnkB_ok {a i : Nat} {own n1 n2 n3 : String} (h : lnkB a own i n1 n2 n3 = true) : Jvm.Cond.fieldLink own i n1 n2 n3 ∈ mm_tw ∨ ∃ host : String, Jvm.Cond.fieldLinkNest own i n1 n2 n3 host ∈ mm_tw := by
  unfold lnkB at h
  rw [Bool.or_eq_true] at h
  rcases h with h | h
  · exact Or.inl (wB_ok h)
  · exact Or.inr ⟨_, wB_ok h⟩
def mlnkB (a : Nat) (own : String) (i : Nat) (y : MethodName) : Bool := wB a (.methodLink own i y) || wB a (.methodLinkNest own i y "ChannelRooms")
theorem mlnkB_ok {a i : Nat} {own : String} {y : MethodName} (h : mlnkB a own i y = true) : mlnkP own i y := by
  unfold mlnkB at h
  rw [Bool.or_eq_true] at h
  rcases h with h | h
  · exact Or.inl (wB_ok h)
  · exact Or.inr ⟨_, wB_ok h⟩
def npM (mi : Mi) : Nat := ((parseMethodDescriptor mi.nm.desc).map (fun d => d.parameters.length)).getD 99
def calB (mi : Mi) (a b : Nat) : Bool := plainName mi.nm.cls && wB a (codeW mi) && wB b (.initialized mi.nm.cls) && decide (mi.nm.cls ≠ "java/lang/invoke/MethodHandle") && decide (mi.nm.cls ≠ "java/lang/invoke/VarHandle") && decide ((parseMethodDescriptor mi.nm.desc).map (fun d => d.parameters.length) = some (npM mi))
theorem calB_ok {mi : Mi} {a b : Nat} (h : calB mi a b = true) : calleeP mi (npM mi) := by
  unfold calB at h
  simp only [Bool.and_eq_true, decide_eq_true_eq] at h
  obtain ⟨⟨⟨⟨⟨h1, h2⟩, h3⟩, h4⟩, h5⟩, h6⟩ := h
  exact ⟨h1, wB_ok h2, wB_ok h3, ⟨h4, h5⟩, h6⟩
def decB (mi : Mi) (pc : Nat) (ins : Instr) : Bool := match decode mi.by pc with
  | .ok (i, n) => decide (i = ins) && (isSw ins || decide (n = lenOf ins))
  | .error _ => false
theorem decB_ok {mi : Mi} {pc : Nat} {ins : Instr} (h : decB mi pc ins = true) : ∃ n, decode mi.by pc = .ok (ins, n) ∧ (isSw ins = false → n = lenOf ins) := by
  unfold decB at h
  split at h
  · rename_i i n hd
    simp only [Bool.and_eq_true, Bool.or_eq_true, decide_eq_true_eq] at h
    obtain ⟨rfl, h2⟩ := h
    refine ⟨n, hd, fun hs => ?_⟩
    rcases h2 with h2 | h2
    · rw [hs] at h2; cases h2
    · exact h2
  · cases h
def d1B (mi : Mi) (pc : Nat) (ins : Instr) (n : Nat) : Bool := decide (decode mi.by pc = .ok (ins, n))
def thrB (mi : Mi) (pc i x : Nat) (h : List Nat) : Bool := decide (x < 3) && decide (mi.hs = []) && d1B mi (pc + 3) .dup 1 && d1B mi (pc + 4) (.ldc (h.getD 4 0)) 2 && d1B mi (pc + 6) (.invokespecial (h.getD 5 0)) 3 && d1B mi (pc + 9) .athrow 1 && wB (h.getD 0 0) (.classLink mi.nm.cls i (mm_xn x)) && wB (h.getD 1 0) (.instantiable (mm_xn x) 6) && wB (h.getD 2 0) (.initialized (mm_xn x)) && wB (h.getD 3 0) (.methodLink mi.nm.cls (h.getD 5 0) (Bundle.initS (mm_xn x))) && (match mm_str[h.getD 6 0]? with
  | some q => decide (q.1 = mi.nm.cls) && decide (q.2.1 = h.getD 4 0)
  | none => false)
theorem thrB_ok {mi : Mi} {pc i x : Nat} {h : List Nat} (hh : thrB mi pc i x h = true) : chkT mi pc i x := by
  unfold thrB at hh
  simp only [Bool.and_eq_true, decide_eq_true_eq, d1B] at hh
  obtain ⟨⟨⟨⟨⟨⟨⟨⟨⟨⟨h1, h2⟩, h3⟩, h4⟩, h5⟩, h6⟩, h7⟩, h8⟩, h9⟩, h10⟩, h11⟩ := hh
  split at h11
  · rename_i q hq
    rw [Bool.and_eq_true, decide_eq_true_eq, decide_eq_true_eq] at h11
    obtain ⟨q1, q2, q3⟩ := q
    obtain ⟨rfl, rfl⟩ := h11
    exact ⟨h1, h2, _, _, q3, h3, h4, h5, h6, wB_ok h7, wB_ok h8, wB_ok h9, List.mem_of_getElem? hq, wB_ok h10⟩
  · cases h11
/-- the check of an entry -/
def chkB (mi : Mi) (pc : Nat) (q : Ins) (h : List Nat) : Bool := decB mi pc q.1 && (match q.1 with
  | .bipush n => decide ((Int8.ofInt n).toInt32 = Int32.ofInt q.2.2.2.2)
  | .sipush n => decide ((Int16.ofInt n).toInt32 = Int32.ofInt q.2.2.2.2)
  | .ldc2_w i => wB (h.getD 0 0) (.constantLong mi.nm.cls i (Int64.ofInt q.2.2.2.2))
  | .getfield i => (match mm_cl[q.2.2.1]? with
    | some (_, T, N) => decide (q.2.2.2.1 < N) && lnkB (h.getD 0 0) mi.nm.cls i (T q.2.2.2.1).1 (T q.2.2.2.1).2.1 (T q.2.2.2.1).2.2.1
    | none => false)
  | .putfield i => (match mm_cl[q.2.2.1]? with
    | some (_, T, N) => decide (q.2.2.2.1 < N) && ((!(T q.2.2.2.1).2.2.2 && lnkB (h.getD 0 0) mi.nm.cls i (T q.2.2.2.1).1 (T q.2.2.2.1).2.1 (T q.2.2.2.1).2.2.1) || ((T q.2.2.2.1).2.2.2 && wB (h.getD 0 0) (.fieldLink mi.nm.cls i (T q.2.2.2.1).1 (T q.2.2.2.1).2.1 (T q.2.2.2.1).2.2.1) && decide (mi.nm.name = "<init>") && decide ((T q.2.2.2.1).1 = mi.nm.cls)))
    | none => false)
  | .getstatic i => (match mm_sn[q.2.2.1]? with
    | some s => lnkB (h.getD 0 0) mi.nm.cls i s.1 s.2.1 s.2.2
    | none => false)
  | .iaload => (match q.2.1 with
    | 0 => decide (mm_aty[q.2.2.1]? = some .int)
    | 1 => (mm_sn[q.2.2.1]?).isSome
    | _ => true)
  | .iastore => decide (mm_aty[q.2.2.1]? = some .int)
  | .laload => decide (mm_aty[q.2.2.1]? = some .long)
  | .lastore => decide (mm_aty[q.2.2.1]? = some .long)
  | .baload => decide (mm_aty[q.2.2.1]? = some .boolean)
  | .bastore => decide (mm_aty[q.2.2.1]? = some .boolean)
  | .aaload => (match mm_aty[q.2.2.1]? with | some (.object _) => true | _ => false)
  | .aastore => (match mm_aty[q.2.2.1]?, mm_cl[q.2.2.2.1]? with | some (.object C), some (C', _, _) => decide (C' = C) | _, _ => false)
  | .arraylength => (mm_aty[q.2.2.1]?).isSome
  | .newarray t => decide (mm_aty[q.2.2.1]? = some (Op.newarray.typeOf t)) && decide (Op.newarray.typeOf t ∈ mm_acl) && (decide (Op.newarray.typeOf t = .int) || decide (Op.newarray.typeOf t = .long) || decide (Op.newarray.typeOf t = .boolean))
  | .anewarray i => (match mm_aty[q.2.2.1]? with | some (.object C) => decide (C ∈ mm_ao) && wB (h.getD 0 0) (.classLink mi.nm.cls i C) | _ => false)
  | .new i => (match q.2.2.2.1 with
    | 0 => (match mm_cl[q.2.2.1]? with | some (C, _, _) => wB (h.getD 0 0) (.classLink mi.nm.cls i C) | none => false)
    | _ => thrB mi pc i q.2.2.1 h)
  | .invokevirtual i => (match mm_pr q.2.2.1, mm_cl[q.2.2.2.1]? with
    | some mi', some (C, _, _) => Nat.blt q.2.2.1 (mm_n - 1) && decide (mi'.na = npM mi' + 1) && mlnkB (h.getD 0 0) mi.nm.cls i mi'.nm && wB (h.getD 1 0) (.instanceMethod mi'.nm) && wB (h.getD 2 0) (.selects C mi'.nm mi'.nm)
    | _, _ => false)
  | .invokestatic i => (match mm_pr q.2.2.1 with
    | some mi' => Nat.blt q.2.2.1 (mm_n - 1) && decide (mi'.na = npM mi') && mlnkB (h.getD 0 0) mi.nm.cls i mi'.nm && wB (h.getD 1 0) (.static mi'.nm)
    | none => false)
  | .invokespecial i => (match q.2.2.2.1 with
    | 0 => (match mm_pr q.2.2.1 with
      | some mi' => Nat.blt q.2.2.1 (mm_n - 1) && decide (mi'.na = npM mi' + 1) && mlnkB (h.getD 0 0) mi.nm.cls i mi'.nm && wB (h.getD 1 0) (.instanceMethod mi'.nm) && decide (mi'.nm.name = "<init>") && decide (mi'.rt = none) && decide (mi'.hs = [])
      | none => false)
    | 1 => wB (h.getD 0 0) (.methodLink mi.nm.cls i Lib.objectInit) && wB (h.getD 1 0) (.instanceMethod Lib.objectInit)
    | _ => false)
  | .lreturn => decide (mi.rt = some .long)
  | .return_ => decide (mi.rt = none)
  | _ => true)
def hintB (hs : List (Nat × List Nat)) (pc : Nat) : List Nat := (hs.lookup pc).getD []
def chkR (mi : Mi) (a n : Nat) (hs : List (Nat × List Nat)) : Bool := (List.range' a n).all (fun pc => match mi.co pc with
  | none => true
  | some q => chkB mi pc q (hintB hs pc))
theorem chkR_ok {mi : Mi} {a n : Nat} {hs : List (Nat × List Nat)} (h : chkR mi a n hs = true) {pc : Nat} (h1 : a ≤ pc) (h2 : pc < a + n) {q : Ins} (hq : mi.co pc = some q) : ∃ hh, chkB mi pc q hh = true := by
  unfold chkR at h
  have := List.all_eq_true.mp h pc (List.mem_range'_1.mpr ⟨h1, h2⟩)
  rw [hq] at this
  exact ⟨_, this⟩
theorem obj_code : Jvm.Cond.code Lib.objectInit ⟨#[0xb1]⟩ 1 none ∈ mm_tw := by decide +kernel
set_option maxHeartbeats 1000000 in
theorem chkB_ok (hcal : ∀ x mi, mm_pr x = some mi → x < mm_n - 1 → calleeP mi (npM mi)) {mi : Mi} {pc : Nat} {q : Ins} {hh : List Nat} (h : chkB mi pc q hh = true) : chkP mi pc q ∧ chkC mi pc q.1 q.2.2.1 q.2.2.2.1 ∧ chkS mi pc q.1 q.2.2.1 q.2.2.2.1 := by
  obtain ⟨ins, w, x, z, k⟩ := q
  unfold chkB at h
  rw [Bool.and_eq_true] at h
  obtain ⟨hd, h⟩ := h
  refine ⟨⟨decB_ok hd, ?_⟩, ?_⟩
  · cases ins with
    | bipush n => have h1 := of_decide_eq_true h; exact h1
    | sipush n => have h1 := of_decide_eq_true h; exact h1
    | ldc2_w i => exact wB_ok h
    | getfield i =>
      dsimp only at h
      split at h
      · rename_i C T N hc
        rw [Bool.and_eq_true, decide_eq_true_eq] at h
        exact ⟨C, T, N, hc, h.1, lnkB_ok h.2⟩
      · cases h
    | putfield i =>
      dsimp only at h
      split at h
      · rename_i C T N hc
        simp only [Bool.and_eq_true, Bool.or_eq_true, decide_eq_true_eq, Bool.not_eq_true'] at h
        refine ⟨C, T, N, hc, h.1, ?_⟩
        rcases h.2 with h2 | h2
        · exact Or.inl ⟨h2.1, lnkB_ok h2.2⟩
        · exact Or.inr ⟨h2.1.1.1, wB_ok h2.1.1.2, h2.1.2, h2.2⟩
      · cases h
    | getstatic i =>
      dsimp only at h
      split at h
      · rename_i s hs
        exact ⟨s, hs, lnkB_ok h⟩
      · cases h
    | iaload =>
      refine ⟨fun hw => ?_, fun hw => ?_⟩
      · have hw' : w = 0 := hw
        subst hw'
        exact of_decide_eq_true h
      · have hw' : w = 1 := hw
        subst hw'
        exact Option.isSome_iff_exists.mp h
    | iastore => have h1 := of_decide_eq_true h; exact h1
    | laload => have h1 := of_decide_eq_true h; exact h1
    | lastore => have h1 := of_decide_eq_true h; exact h1
    | baload => have h1 := of_decide_eq_true h; exact h1
    | bastore => have h1 := of_decide_eq_true h; exact h1
    | aaload =>
      dsimp only at h
      split at h
      · rename_i C hc; exact ⟨C, hc⟩
      · cases h
    | aastore =>
      dsimp only at h
      split at h
      · rename_i C C' T N hc hc'
        have := of_decide_eq_true h
        subst this
        exact ⟨C', T, N, hc, hc'⟩
      · cases h
    | arraylength => exact fun _ => Option.isSome_iff_exists.mp h
    | newarray t =>
      simp only [Bool.and_eq_true, Bool.or_eq_true, decide_eq_true_eq] at h
      exact ⟨h.1.1, h.1.2, or_assoc.mp h.2⟩
    | anewarray i =>
      dsimp only at h
      split at h
      · rename_i C hc
        rw [Bool.and_eq_true, decide_eq_true_eq] at h
        exact ⟨C, hc, h.1, wB_ok h.2⟩
      · cases h
    | new i =>
      intro hz
      have hz' : z = 0 := hz
      subst hz'
      have h1 : (match mm_cl[x]? with | some (C, _, _) => wB (hh.getD 0 0) (.classLink mi.nm.cls i C) | none => false) = true := h
      split at h1
      · rename_i C T N hc
        exact ⟨C, T, N, hc, wB_ok h1⟩
      · cases h1
    | invokespecial i =>
      intro hz
      have hz' : z = 1 := hz
      subst hz'
      have h1 : (wB (hh.getD 0 0) (.methodLink mi.nm.cls i Lib.objectInit) && wB (hh.getD 1 0) (.instanceMethod Lib.objectInit)) = true := h
      rw [Bool.and_eq_true] at h1
      exact wB_ok h1.1
    | _ => trivial
  · cases ins with
    | invokevirtual i =>
      dsimp only at h
      split at h
      · rename_i mi' C T N hm hc
        simp only [Bool.and_eq_true, decide_eq_true_eq] at h
        obtain ⟨⟨⟨⟨h1, h2⟩, h3⟩, h4⟩, h5⟩ := h
        exact ⟨⟨mi', npM mi', C, T, N, hm, h2, hcal _ _ hm (by simpa [Nat.blt_eq] using h1), mlnkB_ok h3, wB_ok h4, hc, wB_ok h5⟩, trivial⟩
      · cases h
    | invokestatic i =>
      dsimp only at h
      split at h
      · rename_i mi' hm
        simp only [Bool.and_eq_true, decide_eq_true_eq] at h
        obtain ⟨⟨⟨h1, h2⟩, h3⟩, h4⟩ := h
        exact ⟨⟨mi', hm, by rw [h2]; exact hcal _ _ hm (by simpa [Nat.blt_eq] using h1), mlnkB_ok h3, wB_ok h4⟩, trivial⟩
      · cases h
    | invokespecial i =>
      match z, h with
      | 0, h =>
        have h1 : (match mm_pr x with
          | some mi' => Nat.blt x (mm_n - 1) && decide (mi'.na = npM mi' + 1) && mlnkB (hh.getD 0 0) mi.nm.cls i mi'.nm && wB (hh.getD 1 0) (.instanceMethod mi'.nm) && decide (mi'.nm.name = "<init>") && decide (mi'.rt = none) && decide (mi'.hs = [])
          | none => false) = true := h
        split at h1
        · rename_i mi' hm
          simp only [Bool.and_eq_true, decide_eq_true_eq] at h1
          obtain ⟨⟨⟨⟨⟨⟨h1, h2⟩, h3⟩, h4⟩, h5⟩, h6⟩, h7⟩ := h1
          exact ⟨Or.inl rfl, fun _ => ⟨mi', npM mi', hm, h2, hcal _ _ hm (by simpa [Nat.blt_eq] using h1), mlnkB_ok h3, wB_ok h4, h5, h6, h7⟩⟩
        · cases h1
      | 1, h =>
        have h1 : (wB (hh.getD 0 0) (.methodLink mi.nm.cls i Lib.objectInit) && wB (hh.getD 1 0) (.instanceMethod Lib.objectInit)) = true := h
        rw [Bool.and_eq_true] at h1
        exact ⟨Or.inr ⟨rfl, wB_ok h1.1, wB_ok h1.2, obj_code⟩, fun h0 => by cases h0⟩
      | n + 2, h => cases h
    | new i =>
      refine ⟨trivial, fun hz => ?_⟩
      match z, h, hz with
      | 0, h, hz => exact absurd rfl hz
      | n + 1, h, hz => exact thrB_ok (show thrB mi pc i x hh = true from h)
    | lreturn => have h1 := of_decide_eq_true h; exact ⟨trivial, h1⟩
    | return_ => have h1 := of_decide_eq_true h; exact ⟨trivial, h1⟩
    | _ => exact ⟨trivial, trivial⟩
