/-! THE MINI MACHINE'S STEPS ARE THE MACHINE'S: pictures, the place of a walk, loads and stores -/
def NoSt (b0 : Nat) (H : Heap) : Prop := ∀ (a : Nat) (cell : Cell), b0 ≤ a → H[a]? = some cell → cell.vm.isStatics = false
def Pic (D : va_G) (b0 sz : Nat) (M : Mm) (H : Heap) : Prop := H.size = sz ∧ NoSt b0 H ∧ ∀ (a : Nat) (e : va_E), M a = some e → b0 ≤ a ∧ va_at D mm_cl (a, e) H
theorem va_at_ns {D : va_G} {cl : List vw_C} {a : Nat} {e : va_E} {H : Heap} (h : va_at D cl (a, e) H) {cell : Cell} (hc : H[a]? = some cell) : cell.vm.isStatics = false := by
  cases e with
  | inl x =>
    have h' : H[a]? = some (vp_cell x.1 x.2) := h
    rw [h'] at hc
    cases hc
    obtain ⟨cA, n, f | f | f | f | f⟩ := x <;> rfl
  | inr o =>
    obtain ⟨r, -, cell', h1, -, h2, -⟩ := h
    have h1' : H[a]? = some cell' := h1
    rw [h1'] at hc
    cases hc
    rw [h2]
    rfl
theorem Pic.one {D : va_G} {b0 sz : Nat} {M : Mm} {H : Heap} (h : Pic D b0 sz M H) {a : Nat} {e : va_E} (hM : M a = some e) : va_P D mm_cl [(a, e)] H := by
  intro k q hk
  have hz : k < 1 := (List.getElem?_eq_some_iff.mp hk).1
  rw [show k = 0 by omega] at hk
  cases hk
  exact (h.2.2 a e hM).2
theorem Pic.put {D : va_G} {b0 sz : Nat} {M : Mm} {H H1 : Heap} {a : Nat} {e0 e : va_E} (h : Pic D b0 sz M H) (hM : M a = some e0) (z : H1.size = H.size) (oq : ∀ q : Nat, q ≠ a → H1[q]? = H[q]?) (he : va_at D mm_cl (a, e) H1) : Pic D b0 sz (mUp M a e) H1 := by
  refine ⟨z.trans h.1, fun q cell hq hc => ?_, fun q x hx => ?_⟩
  · by_cases hqa : q = a
    · subst hqa
      exact va_at_ns he hc
    · rw [oq q hqa] at hc
      exact h.2.1 q cell hq hc
  · unfold mUp at hx
    split at hx
    · rename_i hqa
      subst hqa
      cases hx
      exact ⟨(h.2.2 q e0 hM).1, he⟩
    · rename_i hqa
      obtain ⟨h1, h2⟩ := h.2.2 q x hx
      exact ⟨h1, h2.kept (oq q hqa)⟩
theorem Pic.push {D : va_G} {b0 sz : Nat} {M : Mm} {H H1 : Heap} {e : va_E} (h : Pic D b0 sz M H) (hb : b0 ≤ sz) (z : H1.size = sz + 1) (oq : ∀ q : Nat, q < sz → H1[q]? = H[q]?) (he : va_at D mm_cl (sz, e) H1) : Pic D b0 (sz + 1) (mUp M sz e) H1 := by
  refine ⟨z, fun q cell hq hc => ?_, fun q x hx => ?_⟩
  · by_cases hqa : q = sz
    · subst hqa
      exact va_at_ns he hc
    · have hl : q < H1.size := (Array.getElem?_eq_some_iff.mp hc).1
      rw [oq q (by omega)] at hc
      exact h.2.1 q cell hq hc
  · unfold mUp at hx
    split at hx
    · rename_i hqa
      subst hqa
      cases hx
      exact ⟨hb, he⟩
    · rename_i hqa
      obtain ⟨h1, h2⟩ := h.2.2 q x hx
      have hl := h2.lt
      rw [h.1] at hl
      exact ⟨h1, h2.kept (oq q hl)⟩
/-- a cell of which nothing is said -/
theorem Pic.skip {D : va_G} {b0 sz : Nat} {M : Mm} {H H1 : Heap} (h : Pic D b0 sz M H) (z : H1.size = sz + 1) (oq : ∀ q : Nat, q < sz → H1[q]? = H[q]?) (hn : ∀ cell : Cell, H1[sz]? = some cell → cell.vm.isStatics = false) : Pic D b0 (sz + 1) M H1 := by
  refine ⟨z, fun q cell hq hc => ?_, fun q x hx => ?_⟩
  · by_cases hqa : q = sz
    · subst hqa
      exact hn cell hc
    · have hl : q < H1.size := (Array.getElem?_eq_some_iff.mp hc).1
      rw [oq q (by omega)] at hc
      exact h.2.1 q cell hq hc
  · obtain ⟨h1, h2⟩ := h.2.2 q x hx
    have hl := h2.lt
    rw [h.1] at hl
    exact ⟨h1, h2.kept (oq q hl)⟩
def tysOf (dA : Nat → ClassId) : List (ClassId × FieldType) := (List.range mm_aty.length).map (fun i => (dA i, (mm_aty[i]?).getD .int))
theorem tysOf_at {dA : Nat → ClassId} {i : Nat} {ty : FieldType} (h : mm_aty[i]? = some ty) : (tysOf dA)[i]? = some (dA i, ty) := by
  obtain ⟨hl, he⟩ := List.getElem?_eq_some_iff.mp h
  simp [tysOf, hl, he]
theorem W.post {p : Program} {l : Launch} {e : Env} {R : Room} {s : State} {m : MethodId} {args : Array Value} {below : List Frame} {meth : Method} {c : Code} {H : Heap} {locs : List Loc} {cells slots : Nat} {Q Q' : State → Prop} {g : JFrame} (h : W p l e R s m args below meth c H locs cells slots Q g) (hq : ∀ t, Q t → Q' t) : W p l e R s m args below meth c H locs cells slots Q' g := fun T hT X => by
  obtain ⟨t, a, b⟩ := h T hT X
  exact ⟨t, a, hq t b⟩
