/-! BEHIND A CALL -/
section CB
variable {l : Launch} {G : Gw} {D : va_G} {y pc : Nat} {ls : Lo} {M : Mm} {sz sl fr lo : Nat} {Q : Po} {mi : Mi}
variable {p : Program} {e : Env} {R : Room} {s : State} {m : MethodId} {args : Array Value} {below : List Frame} {meth : Method} {c : Code} {U : State} {locs : List Loc} {arr : Array Slot} {sz0 sl0 : Nat}
/-- a handler of this method takes what is thrown: the walk goes on there, in warmer tables -/
def Takes1 (l : Launch) (p : Program) (e : Env) (s : State) (m : MethodId) (args : Array Value) (below : List Frame) (meth : Method) (c : Code) (pc h k : Nat) : Prop := ∀ (R : Room) (T : State) (locs : List Loc) (cells slots : Nat) (arr : Array Slot) (rest : List Value) (a : Addr) (ce : Cell), Stand p l e R s m args below meth c T locs cells slots → T.heap[a]? = some ce → ce.vm = .none → T.vm.findClass (mm_xn k) = some ce.cls →
  ∃ vm', Stand p l e R s m args below meth c (T.setVm vm') locs cells slots ∧ ∀ tg, Steps p.tables e below ((T.setVm vm').setTop (F0 m h arr [.ref a])) tg → Steps p.tables e below ((T.setTop (F0 m pc arr rest)).pushFrame (.throwing a)) tg
theorem j_back {Qc : Po} {rest : List Value} {mk : MethodId} {av : Array Value} {o : Outcome} {t : State} {ig : Instr} (hmi : mm_pr y = some mi) (cx : Cx G D mi p s m meth c) (hl : lvR arr mi.mL ls) (hB : Bd G s U.heap locs sz0 sl0 sz sl)
    (X : Stand p l e { frames := fr, cells := G.b0 + mm_mxC - sz0, slots := mm_mxS - sl0, locals := lo } s m args below meth c U locs (sz - sz0) (sl - sl0)) (hdg : decode c.code pc = .ok (ig, 3))
    (hend : Ended t (.java (F0 m pc arr rest) :: below) o) (hx : EndX G D sz sl Qc (U.calling (F0 m pc arr rest) mk av) o t)
    (hc : ∀ k h, mi.hn pc k = some h → Takes1 l p e s m args below meth c pc h k)
    (hb : ∀ (o : Ou) (M' : Mm) (sz' sl' : Nat), Qc o M' sz' sl' → backP (Jd l G D) y pc ls rest fr lo Q o M' sz' sl') : ∃ t2, Steps p.tables e below t t2 ∧ EndQ G D below s sz0 sl0 Q t2 := by
  obtain ⟨u, M', sz', sl', L, h1, h2, h3, h4, h5, h6, h7, h8, h9, h10, h11⟩ := hx
  obtain ⟨g1, g2, g3, g4, g5, g6⟩ := hB
  have hb0 := cx.2.2.2.2.2.2.2.2.2.2.2.2.2.2.2.2.1
  have hK := hb u M' sz' sl' h2
  have hUh : (U.calling (F0 m pc arr rest) mk av).heap = U.heap := rfl
  have ec : sz - sz0 + (sz' - sz) = sz' - sz0 := by omega
  have es : sl - sl0 + (sl' - sl) = sl' - sl0 := by omega
  cases u with
  | inl v =>
    have h1' : o = .returned v := h1
    subst h1'
    obtain ⟨T', X', hW', hsame', ht⟩ := X.outOf (g := F0 m pc arr rest) rfl hdg hend h4 h5
    rw [ec, es] at X'
    have hth : t.heap = T'.heap := by rw [ht]; rfl
    have hB' : Bd G s T'.heap (locs ++ L) sz0 sl0 sz' sl' := by
      refine ⟨g1, by omega, by omega, h10, h11, ?_, fun q hq hA => ?_, fun q hq => ?_⟩
      · have := h3.1
        rw [hth] at this
        omega
      · have hq' : q < G.b0 := by simpa using hA
        rw [← hth, h7 q hq', hUh]
        exact g6.2.1 q hq hA
      · rcases List.mem_append.mp hq with h | h
        · exact g6.2.2 q h
        · exact h6 q h
    have hP' : Pic D G.b0 sz' M' T'.heap := by rw [← hth]; exact h3
    obtain ⟨t2, a1, b1⟩ := hK mi hmi p e s m args below meth c T'.heap (locs ++ L) arr sz0 sl0 cx hl hP' hB' T' rfl X'
    refine ⟨t2, ?_, b1⟩
    rw [ht]
    exact a1
  | inr k =>
    obtain ⟨a, ce, ho, hce, hvm, hcls⟩ := h1
    subst ho
    obtain ⟨T', X', hW', hsame', ht⟩ := X.outOfThrown (g := F0 m pc arr rest) rfl hend h4 h5
    rw [ec, es] at X'
    have hth : t.heap = T'.heap := by rw [ht]; exact Stand.throwing_heap _ _ _
    have htv : t.vm = T'.vm := by rw [ht]; exact Stand.throwing_vm _ _ _
    have hB' : Bd G s T'.heap (locs ++ L) sz0 sl0 sz' sl' := by
      refine ⟨g1, by omega, by omega, h10, h11, ?_, fun q hq hA => ?_, fun q hq => ?_⟩
      · have := h3.1
        rw [hth] at this
        omega
      · have hq' : q < G.b0 := by simpa using hA
        rw [← hth, h7 q hq', hUh]
        exact g6.2.1 q hq hA
      · rcases List.mem_append.mp hq with h | h
        · exact g6.2.2 q h
        · exact h6 q h
    have hP' : Pic D G.b0 sz' M' T'.heap := by rw [← hth]; exact h3
    simp only [backP, hmi] at hK
    cases hh : mi.hn pc k with
    | some h =>
      rw [hh] at hK
      obtain ⟨vm', X2, hst⟩ := hc k h hh _ T' (locs ++ L) _ _ arr rest a ce X' (by rw [← hth]; exact hce) hvm (by rw [← htv]; exact hcls)
      obtain ⟨t2, a1, b1⟩ := hK a mi hmi p e s m args below meth c T'.heap (locs ++ L) arr sz0 sl0 cx hl hP' hB' (T'.setVm vm') rfl X2
      refine ⟨t2, ?_, b1⟩
      rw [ht]
      exact hst t2 a1
    | none =>
      rw [hh] at hK
      have hlocks : meth.locks = false := cx.2.2.2.2.2.1
      obtain ⟨hhs, hK⟩ := hK
      have hu : ∀ x ∈ c.exceptionTable.toList, covers x pc = false := fun x hx => by
        have h9 : (x.startPc, x.endPc, x.handlerPc, x.catchType) ∈ mi.hs := by rw [← cx.2.2.2.2.2.2.2.1]; exact List.mem_map_of_mem hx
        rw [hhs] at h9
        cases h9
      obtain ⟨hs1, hs2, hs3, hs4, hs5⟩ := X'.leaveThrown a (g := F0 m pc arr rest) rfl rfl rfl hu hlocks
      refine ⟨_, by rw [ht]; exact hs1, .threw a, .inr k, M', sz', sl', locs ++ L, hs2, hs3, ⟨a, ce, rfl, ?_, hvm, ?_⟩, hK, hP', hs4, hs5, hB'.2.2.2.2.2.2.2, fun q hq => ?_, by omega, by omega, h10, h11⟩
      · show T'.heap[a]? = some ce
        rw [← hth]; exact hce
      · show T'.vm.findClass _ = _
        rw [← htv]; exact hcls
      · exact hB'.2.2.2.2.2.2.1 q (by omega) (by omega)
end CB
