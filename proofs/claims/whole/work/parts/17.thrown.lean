/-! THE ROW OF A THROW -/
/-- what a throw's place must be: its four further instructions, its words -/
def chkT (mi : Mi) (pc i x : Nat) : Prop := x < 3 ∧ mi.hs = [] ∧ ∃ (j ic : Nat) (tx : String), decode mi.by (pc + 3) = .ok (.dup, 1) ∧ decode mi.by (pc + 4) = .ok (.ldc j, 2) ∧ decode mi.by (pc + 6) = .ok (.invokespecial ic, 3) ∧ decode mi.by (pc + 9) = .ok (.athrow, 1) ∧
  Jvm.Cond.classLink mi.nm.cls i (mm_xn x) ∈ mm_tw ∧ Jvm.Cond.instantiable (mm_xn x) 6 ∈ mm_tw ∧ Jvm.Cond.initialized (mm_xn x) ∈ mm_tw ∧ (mi.nm.cls, j, tx) ∈ mm_str ∧ Jvm.Cond.methodLink mi.nm.cls ic (Bundle.initS (mm_xn x)) ∈ mm_tw
theorem xn_fit {x : Nat} (hx : x < 3) : Bundle.fit (mm_xn x) = true := by
  rcases (show x = 0 ∨ x = 1 ∨ x = 2 by omega) with rfl | rfl | rfl <;> decide +kernel
theorem exNames_fit : ∀ n ∈ exNames, Bundle.fit n = true := by decide +kernel
section TH
variable {l : Launch} {G : Gw} {D : va_G} {y pc : Nat} {ls : Lo} {M : Mm} {sz sl fr lo : Nat} {Q : Po} {mi : Mi}
variable {p : Program} {e : Env} {s : State} {m : MethodId} {args : Array Value} {below : List Frame} {meth : Method} {c : Code} {H : Heap} {locs : List Loc} {arr : Array Slot} {sz0 sl0 : Nat}
set_option maxHeartbeats 1000000 in
theorem j_throw {i x : Nat} (hfl : l.flags = flags0) (cx : Cx G D mi p s m meth c) (hl : lvR arr mi.mL ls) (hP : Pic D G.b0 sz M H) (hB : Bd G s H locs sz0 sl0 sz sl) (hd : decode mi.by pc = .ok (.new i, 3)) (hk : chkT mi pc i x) (h1 : sz + 1 ≤ G.b0 + mm_mxC) (h2 : sl + 6 ≤ mm_mxS) (h3 : 8 ≤ fr) (h4 : 120 ≤ lo) (hq : Q (.inr x) M (sz + 1) (sl + 6)) :
    W p l e { frames := fr, cells := G.b0 + mm_mxC - sz0, slots := mm_mxS - sl0, locals := lo } s m args below meth c H locs (sz - sz0) (sl - sl0) (EndQ G D below s sz0 sl0 Q) (F0 m pc arr []) := by
  obtain ⟨hx, hb, hml, -, hown, hlocks, -, htab, hE⟩ := id cx
  obtain ⟨hx3, hhs, j, ic, tx, hd3, hd4, hd6, hd9, w1, w2, w3, w4, w5⟩ := hk
  obtain ⟨g1, g2, g3, g4, g5, g6⟩ := id hB
  have hb0 := hE.2.2.2.2.2.2.2.2.1
  intro T hT X
  have htr : e.platform.stackTraces = false := Launch.traces_off hfl X.admits
  have X1 := stand_reb X (rc := 1) (rs := 6) (by show sz - sz0 + 1 ≤ G.b0 + mm_mxC - sz0; omega) (by show sl - sl0 + 6 ≤ mm_mxS - sl0; omega)
  have hE1 : En G D (rebS s T) := by
    refine hE.go (U := rebS s T) (State.WarmedH.refl s) (fun q hq' => ?_) ?_ ?_
    · show T.heap[q]? = s.heap[q]?
      rw [hT]
      exact g6.2.1 q (by omega) (by omega)
    · show G.b0 ≤ T.heap.size
      rw [hT, hP.1]
      omega
    · show NoSt G.b0 T.heap
      rw [hT]
      exact hP.2.1
  have hts := hE1.w (args := args)
  obtain ⟨q, hvk⟩ := hE1.2.2.2.2.2.1.2.2 _ w4
  have hown1 : (rebS s T).vm.findClass mi.nm.cls = some m.cls := hown
  have hTs : T.heap.size = sz := by rw [hT]; exact hP.1
  have K : W p l e { frames := fr, cells := 1, slots := 6, locals := lo } (rebS s T) m args below meth c T.heap [] 0 0 (fun U => U.status = .running ∧ Ended U below (.threw T.heap.size) ∧ (rebS s T).WarmedH U.vm ∧ (rebS s T).sameButNew ({ U with vm := s.vm } : State) [] 1 6 ∧ ∃ ce : Cell, U.heap[T.heap.size]? = some ce ∧ ce.vm = .none ∧ s.vm.findClass (mm_xn x) = some ce.cls) (F0 m pc arr []) := by
    refine W.newc hx hb hown1 (hts _ w1) (hts _ w2) (hts _ w3) rfl hd (Nat.le_refl _) (Nat.le_refl _) (fun cC kC k1 k2 k3 k4 => ?_)
    refine lv_dup (va := .ref T.heap.size) hx hb hd3 rfl ?_
    refine va_ldcS hx hb hown1 hvk hd4 ?_
    intro T2 hT2 X2
    have hcell : T2.heap[T.heap.size]? = some (freshCell cC kC) := by rw [hT2, Array.getElem?_push_size]
    obtain ⟨U, u1, u2, u3, u4, u5, ce, u6, u7⟩ := X2.ctorThrowS hx htr (own := mi.nm.cls) (cls := mm_xn x) (names := exNames) (ic := ic) hown1 (xn_fit hx3) exNames_fit (exAtoms hE1 hx3 w5) (fun z hz => by cases hz) k1 k2 hcell (Nat.le_refl _) (msg := .ref q) rfl (g := F0 m (pc + 6) arr [.ref q, .ref T.heap.size, .ref T.heap.size]) rfl (by show arr.size = c.maxLocals; rw [hml]; exact hl.1) rfl rfl (rest := []) rfl (by rw [hb]; exact hd6) (by rw [hb]; exact hd9)
      (fun z hz => by
        have : (z.startPc, z.endPc, z.handlerPc, z.catchType) ∈ mi.hs := by rw [← htab]; exact List.mem_map_of_mem hz
        rw [hhs] at this
        cases this)
      (by show exNames.length + 3 < fr; simp [exNames]; omega) (by show 2 * 0 + ((Value.ref T.heap.size :: []).map fun v => v.category).sum + (13 * (exNames.length + 1) + 42) ≤ lo; simp [exNames, Value.category]; omega) hlocks
    exact ⟨U, u1, u2, u3, u4, u5, ce, u6, u7.vm, u7.cls⟩
  obtain ⟨U, st, u2, u3, u4, u5, ce, u6, u7, u8⟩ := K T rfl X1
  rw [hTs] at u3 u6
  have hlt : sz < U.heap.size := (Array.getElem?_eq_some_iff.mp u6).1
  have hUs : U.heap.size = sz + 1 := by
    have := u5.2.2.1
    have h' : U.heap.size ≤ T.heap.size + 1 := this
    omega
  have oq : ∀ q : Nat, q < sz → U.heap[q]? = H[q]? := by
    intro q hq'
    obtain ⟨cq, hcq⟩ : ∃ cq, T.heap[q]? = some cq := ⟨_, Array.getElem?_eq_getElem (by omega)⟩
    have := kept_of_same (keep := fun _ => True) u5 (fun z hz => by cases hz) q cq trivial hcq
    rw [← hT, hcq]
    exact this
  refine ⟨U, st, .threw sz, .inr x, M, sz + 1, sl + 6, locs, u2, u3, ⟨sz, ce, rfl, u6, u7, ?_⟩, hq, hP.skip hUs oq ?_, u4, ?_, g6.2.2, fun q hq' => ?_, by omega, by omega, h1, h2⟩
  · have hal : s.vm.Alike U.vm := u4.alike
    rw [hal.findClass]
    exact u8
  · intro cell hc
    rw [u6] at hc
    cases hc
    rw [u7]
    rfl
  · have h := (same_reb X).trans u5
    rw [List.append_nil] at h
    have e1 : sz - sz0 + 1 = sz + 1 - sz0 := by omega
    have e2 : sl - sl0 + 6 = sl + 6 - sl0 := by omega
    rw [e1, e2] at h
    exact h
  · rw [oq q (by omega)]
    exact g6.2.1 q (by omega) (by omega)
end TH
