/-! AN EXCEPTION MADE AND THROWN -/
/-- the same walk, seen from a start whose heap is the present one -/
def rebS (s T : State) : State := { s with heap := T.heap, slotsUsed := T.slotsUsed }
theorem stand_reb {p : Program} {l : Launch} {e : Env} {R : Room} {s : State} {m : MethodId} {args : Array Value} {below : List Frame} {meth : Method} {c : Code} {T : State} {locs : List Loc} {cells slots : Nat} (X : Stand p l e R s m args below meth c T locs cells slots) {rc rs : Nat} (h1 : cells + rc ≤ R.cells) (h2 : slots + rs ≤ R.slots) :
    Stand p l e { frames := R.frames, cells := rc, slots := rs, locals := R.locals } (rebS s T) m args below meth c T [] 0 0 := by
  have hroom := X.room
  simp only [State.hasRoom, Bool.and_eq_true, decide_eq_true_eq] at hroom
  obtain ⟨⟨⟨⟨r1, r2⟩, r3⟩, r4⟩, r5⟩ := hroom
  have hz := X.heapSize
  have hu := X.used
  have hk := X.book
  refine ⟨X.admits, X.cas, X.clock, X.frames, ?_, X.hears, X.method, X.code, X.here, X.tail, X.warmed, X.limits, X.bytes, ?_⟩
  · simp only [State.hasRoom, Bool.and_eq_true, decide_eq_true_eq]
    refine ⟨⟨⟨⟨r1, r2⟩, ?_⟩, ?_⟩, hk⟩
    · show T.heap.size + rc ≤ _
      omega
    · show T.slotsUsed + rs ≤ _
      omega
  · refine ⟨?_, Nat.le_refl _, Nat.le_refl _, ?_, ?_, ?_⟩
    · have h := X.same.1
      exact h
    · show T.slotsUsed = T.slotsUsed + ((T.heap.toList.drop T.heap.size).map (·.slots.size)).sum
      rw [List.drop_of_length_le (by simp)]
      simp
    · show ((T.heap.toList.drop T.heap.size).map (·.slots.size)).sum ≤ 0
      rw [List.drop_of_length_le (by simp)]
      simp
    · intro a c0 hc
      exact ⟨c0, hc, rfl, rfl, fun _ _ => rfl⟩
theorem same_reb {p : Program} {l : Launch} {e : Env} {R : Room} {s : State} {m : MethodId} {args : Array Value} {below : List Frame} {meth : Method} {c : Code} {T : State} {locs : List Loc} {cells slots : Nat} (X : Stand p l e R s m args below meth c T locs cells slots) : s.sameButNew (rebS s T) locs cells slots := by
  obtain ⟨t, ht, -⟩ := State.frames_cons X.frames
  refine ⟨?_, X.same.2⟩
  show rebS s T = { s.setFrames s.frames with heap := T.heap, slotsUsed := T.slotsUsed }
  rw [State.setFrames_self ht]
  rfl
def exNames : List String := ["java/lang/RuntimeException", "java/lang/Exception"]
/-- the words of a throw but the link of the constructor at the place -/
def exCom (X : String) : List Jvm.Cond := Bundle.throwableAtoms ++ Bundle.throwableSAtoms ++ Bundle.chainSAtoms X exNames ++
  [.instantiable X 6, .castable X X, .selects X Bundle.tFill0 Bundle.tFill0, .selects X Bundle.tFill Bundle.tFill,
   .lays X Bundle.tN "cause" "Ljava/lang/Throwable;", .lays X Bundle.tN "stackTrace" Bundle.steD, .lays X Bundle.tN "suppressedExceptions" Bundle.listD, .lays X Bundle.tN "detailMessage" "Ljava/lang/String;",
   .isRef (.static Bundle.tN "UNASSIGNED_STACK" Bundle.steD), .isRef (.static Bundle.tN "SUPPRESSED_SENTINEL" Bundle.listD),
   .fieldLink Bundle.tN 198 Bundle.tN "backtrace" "Ljava/lang/Object;", .lays Bundle.tN Bundle.tN "backtrace" "Ljava/lang/Object;", .lays X Bundle.tN "backtrace" "Ljava/lang/Object;"]
theorem ownAtoms_in {own X : String} {ic : Nat} {a : Jvm.Cond} (h : a ∈ Bundle.ownAtoms own ic X exNames) : a = .methodLink own ic (Bundle.initS X) ∨ a ∈ exCom X := by
  simp only [Bundle.ownAtoms, exCom, List.mem_append, List.mem_cons] at h ⊢
  rcases h with ((h | h) | h) | h | h
  · exact Or.inr (Or.inl (Or.inl (Or.inl h)))
  · exact Or.inr (Or.inl (Or.inl (Or.inr h)))
  · exact Or.inr (Or.inl (Or.inr h))
  · exact Or.inl h
  · exact Or.inr (Or.inr h)
def exW : List Jvm.Cond := [.laysStatic "java/lang/Throwable" "UNASSIGNED_STACK" "[Ljava/lang/StackTraceElement;", .laysStatic "java/lang/Throwable" "SUPPRESSED_SENTINEL" "Ljava/util/List;", .isRef (.static "java/lang/Throwable" "UNASSIGNED_STACK" "[Ljava/lang/StackTraceElement;"), .isRef (.static "java/lang/Throwable" "SUPPRESSED_SENTINEL" "Ljava/util/List;")]
theorem exCom0 : ∀ a ∈ exCom "java/lang/IllegalArgumentException", a ∈ mm_tw ∨ a ∈ exW := by decide +kernel
theorem exCom1 : ∀ a ∈ exCom "java/lang/IndexOutOfBoundsException", a ∈ mm_tw ∨ a ∈ exW := by decide +kernel
theorem exCom2 : ∀ a ∈ exCom "java/lang/IllegalStateException", a ∈ mm_tw ∨ a ∈ exW := by decide +kernel
theorem isRef_of {C n d : String} {A : Nat → Prop} {U : State} (h : va_Zq C n d A U U.heap) {args : Array Value} : (Jvm.Cond.isRef (.static C n d)).before args U = true := by
  rcases h with h | ⟨t, h⟩ <;>
  · obtain ⟨cf, kf, fi, f, a, cell, h1, h2, h3, h4, h5, h6, h7, h8⟩ := h
    simp [Cond.before, Cond.holds, Cond.value, Term.eval, State.fieldNamed?, h1, h2, h4, h5, h6, h7]
theorem exW_of {G : Gw} {D : va_G} {U : State} (hE : En G D U) {args : Array Value} : ∀ a ∈ exW, a.before args U = true := by
  have h0 := hE.2.2.2.1 ("java/lang/Throwable", "UNASSIGNED_STACK", "[Ljava/lang/StackTraceElement;") (by simp [exSt])
  have h1 := hE.2.2.2.1 ("java/lang/Throwable", "SUPPRESSED_SENTINEL", "Ljava/util/List;") (by simp [exSt])
  have hn := hE.2.2.2.2.2.2.2.2.2
  intro a ha
  simp only [exW, List.mem_cons, List.not_mem_nil, or_false] at ha
  rcases ha with rfl | rfl | rfl | rfl
  · exact laysSt_go rfl hn (fun _ _ => rfl) h0.2
  · exact laysSt_go rfl hn (fun _ _ => rfl) h1.2
  · exact isRef_of h0.1
  · exact isRef_of h1.1
theorem exAtoms {G : Gw} {D : va_G} {U : State} (hE : En G D U) {own : String} {ic x : Nat} (hx : x < 3) (hl : Jvm.Cond.methodLink own ic (Bundle.initS (mm_xn x)) ∈ mm_tw) {args : Array Value} : ∀ a ∈ Bundle.ownAtoms own ic (mm_xn x) exNames, a.before args U = true := by
  intro a ha
  rcases ownAtoms_in ha with rfl | h
  · exact hE.w _ hl
  · have : a ∈ mm_tw ∨ a ∈ exW := by
      rcases (show x = 0 ∨ x = 1 ∨ x = 2 by omega) with rfl | rfl | rfl
      · exact exCom0 a h
      · exact exCom1 a h
      · exact exCom2 a h
    rcases this with h | h
    · exact hE.w _ h
    · exact exW_of hE a h
