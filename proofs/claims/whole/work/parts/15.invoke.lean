/-! THE THREE CALLS -/
/-- what a callee's words say -/
def calleeP (mi : Mi) (n : Nat) : Prop := plainName mi.nm.cls = true ∧ codeW mi ∈ mm_tw ∧ Jvm.Cond.initialized mi.nm.cls ∈ mm_tw ∧ (mi.nm.cls ≠ "java/lang/invoke/MethodHandle" ∧ mi.nm.cls ≠ "java/lang/invoke/VarHandle") ∧ (parseMethodDescriptor mi.nm.desc).map (fun d => d.parameters.length) = some n
def mlnkP (own : String) (i : Nat) (y : MethodName) : Prop := Jvm.Cond.methodLink own i y ∈ mm_tw ∨ ∃ host : String, Jvm.Cond.methodLinkNest own i y host ∈ mm_tw
theorem codeW_on (mi : Mi) : (codeW mi).onTables = true := by
  unfold codeW
  split <;> rfl
theorem codeW_named {mi : Mi} {args : Array Value} {s : State} (h : (codeW mi).before args s = true) : ∃ m, s.methodNamed? mi.nm = some m := by
  unfold codeW at h
  split at h
  · exact Cond.code_named h
  · obtain ⟨m, meth, c, hn, -⟩ := Cond.codeWith_spec h
    exact ⟨m, hn⟩
section CV
variable {l : Launch} {G : Gw} {D : va_G} {y pc : Nat} {ls : Lo} {M : Mm} {sz sl fr lo : Nat} {Q : Po} {mi : Mi}
variable {p : Program} {e : Env} {s : State} {m : MethodId} {args : Array Value} {below : List Frame} {meth : Method} {c : Code} {H : Heap} {locs : List Loc} {arr : Array Slot} {sz0 sl0 : Nat}
theorem En.at {T : State} {R : Room} {cells slots : Nat} {vm₁ : Vm} (hE : En G D s) (hB : Bd G s H locs sz0 sl0 sz sl) (hP : Pic D G.b0 sz M H) (hT : T.heap = H) (X : Stand p l e R s m args below meth c (T.setVm vm₁) locs cells slots) : En G D (T.setVm vm₁) := by
  have h8 := hE.2.2.2.2.2.2.2.2.1
  refine hE.go X.warmed (fun q hq => ?_) ?_ ?_
  · show T.heap[q]? = _
    rw [hT]
    exact hB.2.2.2.2.2.2.1 q (by omega) (by omega)
  · show G.b0 ≤ T.heap.size
    rw [hT]
    have := hB.2.2.2.2.2.1
    omega
  · show NoSt G.b0 T.heap
    rw [hT]
    exact hP.2.1
theorem j_callV {i x z a : Nat} {mi' : Mi} {As rest : List Value} {fs : List Value} {Qc : Po} {C : String} {T0 : u_T} {N : Nat} (hmi : mm_pr y = some mi) (cx : Cx G D mi p s m meth c) (hl : lvR arr mi.mL ls) (hP : Pic D G.b0 sz M H) (hB : Bd G s H locs sz0 sl0 sz sl) (hd : decode mi.by pc = .ok (.invokevirtual i, 3))
    (hmi' : mm_pr x = some mi') (hcp : calleeP mi' As.length) (hlk : mlnkP mi.nm.cls i mi'.nm) (hin : Jvm.Cond.instanceMethod mi'.nm ∈ mm_tw) (hcl : mm_cl[z]? = some (C, T0, N)) (hse : Jvm.Cond.selects C mi'.nm mi'.nm ∈ mm_tw)
    (hM : M a = some (.inr (z, fs))) (hL : (loArgs (.ref a :: As)).length ≤ mi'.mL) (h1 : 1 ≤ fr) (h2 : mi'.mL + 25 ≤ lo) (h3 : (rest.map (fun v => v.category)).sum ≤ 14)
    (hj : Jd l G D x 0 (loEnt mi'.mL (.ref a :: As)) [] M sz sl (fr - 1) (lo - (mi'.mL + 25)) Qc)
    (hc : ∀ k h, mi.hn pc k = some h → Takes1 l p e s m args below meth c pc h k)
    (hb : ∀ (o : Ou) (M' : Mm) (sz' sl' : Nat), Qc o M' sz' sl' → backP (Jd l G D) y pc ls rest fr lo Q o M' sz' sl') :
    W p l e { frames := fr, cells := G.b0 + mm_mxC - sz0, slots := mm_mxS - sl0, locals := lo } s m args below meth c H locs (sz - sz0) (sl - sl0) (EndQ G D below s sz0 sl0 Q) (F0 m pc arr (As.reverse ++ .ref a :: rest)) := by
  obtain ⟨hx, hbb, hml, -, hown, -, -, -, hE⟩ := id cx
  obtain ⟨hpl, hcw, hini, hy, hds⟩ := hcp
  have hts := hE.w (args := args)
  intro T hT X
  obtain ⟨mk, methM, hnamed, hmethM, hstM, habM⟩ := Cond.instanceMethod_spec (hts _ hin)
  obtain ⟨methM', cM, hmethM', -, -, -, -, -, -, hsigM⟩ := codeW_spec (hts _ hcw) hnamed
  cases hmethM.symm.trans hmethM'
  obtain ⟨c2, r2, m2, q1, q2, q3, q4, kP, hkP, hkPi⟩ := Cond.selects_spec (hts _ hse)
  obtain ⟨cellB, hcB, hoB, hclB⟩ := va_recv hE.2.1 (hP.one hM) hcl (q0 := 0) rfl
  cases hclB.symm.trans q1
  cases (State.methodFound?_of_named hnamed hy).symm.trans q2
  cases hnamed.symm.trans q3
  have hselP : selectMethod e.platform s.vm cellB.cls mk = .method mk := by rw [Launch.admits_selectMethod X.admits]; exact q4
  have hlen : As.length = methM.sig.parameters.length := by
    rw [hsigM] at hds
    exact (Option.some.inj hds).symm
  have hstep : ∃ vm₁, Stand p l e { frames := fr, cells := G.b0 + mm_mxC - sz0, slots := mm_mxS - sl0, locals := lo } s m args below meth c (T.setVm vm₁) locs (sz - sz0) (sl - sl0) ∧ ∀ target, (∀ acts, Steps p.tables e below (doInvoke e ((T.setVm vm₁).setTop (F0 m pc arr rest)) acts mk (Value.ref a :: As).toArray).1 target) → Steps p.tables e below (T.setTop (F0 m pc arr (As.reverse ++ .ref a :: rest))) target := by
    rcases hlk with hlk | ⟨host, hlk⟩
    · exact X.invokevirtual hx hown (hts _ hlk) hnamed hmethM hstM hkP hkPi hy (a := a) (cell := cellB) (by rw [hT]; exact hcB) (fun z h => by rw [h] at hoB; cases hoB) hselP hmethM habM hkP hkPi (g := F0 m pc arr (As.reverse ++ .ref a :: rest)) rfl (argsL := As) (rest := rest) hlen rfl (by rw [hbb]; exact hd)
    · exact X.invokevirtualNest hx hown (hts _ hlk) hnamed hmethM hstM hkP hkPi hy (a := a) (cell := cellB) (by rw [hT]; exact hcB) (fun z h => by rw [h] at hoB; cases hoB) hselP hmethM habM hkP hkPi (g := F0 m pc arr (As.reverse ++ .ref a :: rest)) rfl (argsL := As) (rest := rest) hlen rfl (by rw [hbb]; exact hd)
  obtain ⟨vm₁, X₁, hstep₁⟩ := hstep
  have hE1 := En.at hE hB hP hT X₁
  have g1 := hB.1
  have g2 := hB.2.1
  have g3 := hB.2.2.1
  have g4 := hB.2.2.2.1
  have g5 := hB.2.2.2.2.1
  obtain ⟨o, t, hsteps, hend, hex⟩ := call_in (U := T.setVm vm₁) (g := F0 m pc arr rest) hmi' hpl hj hL g4 g5 X₁ (hE1.w _ hcw) (hE1.w _ hini) hE1 (by show Pic D G.b0 sz M T.heap; rw [hT]; exact hP) rfl (by show arr.size = c.maxLocals; rw [hml]; exact hl.1) (by rw [hbb]; exact hd) (X₁.named hnamed) (by show fr - 1 + 1 ≤ fr; omega)
    (by show 2 * 0 + (rest.map fun v => v.category).sum + (mi'.mL + 11) + (lo - (mi'.mL + 25)) ≤ lo; omega) (by show sz - sz0 + (G.b0 + mm_mxC - sz) ≤ G.b0 + mm_mxC - sz0; omega) (by show sl - sl0 + (mm_mxS - sl) ≤ mm_mxS - sl0; omega) (codeW_on mi')
  obtain ⟨t2, a2, b2⟩ := j_back (U := T.setVm vm₁) hmi cx hl (by show Bd G s T.heap locs sz0 sl0 sz sl; rw [hT]; exact hB) X₁ (by rw [hbb]; exact hd) hend hex hc hb
  exact ⟨t2, hstep₁ _ (fun acts => by rw [doInvoke_state]; exact hsteps.trans a2), b2⟩
theorem j_callS {i x : Nat} {mi' : Mi} {As rest : List Value} {Qc : Po} (hmi : mm_pr y = some mi) (cx : Cx G D mi p s m meth c) (hl : lvR arr mi.mL ls) (hP : Pic D G.b0 sz M H) (hB : Bd G s H locs sz0 sl0 sz sl) (hd : decode mi.by pc = .ok (.invokestatic i, 3))
    (hmi' : mm_pr x = some mi') (hcp : calleeP mi' As.length) (hlk : mlnkP mi.nm.cls i mi'.nm) (hst : Jvm.Cond.static mi'.nm ∈ mm_tw)
    (hL : (loArgs As).length ≤ mi'.mL) (h1 : 1 ≤ fr) (h2 : mi'.mL + 25 ≤ lo) (h3 : (rest.map (fun v => v.category)).sum ≤ 14)
    (hj : Jd l G D x 0 (loEnt mi'.mL As) [] M sz sl (fr - 1) (lo - (mi'.mL + 25)) Qc)
    (hc : ∀ k h, mi.hn pc k = some h → Takes1 l p e s m args below meth c pc h k)
    (hb : ∀ (o : Ou) (M' : Mm) (sz' sl' : Nat), Qc o M' sz' sl' → backP (Jd l G D) y pc ls rest fr lo Q o M' sz' sl') :
    W p l e { frames := fr, cells := G.b0 + mm_mxC - sz0, slots := mm_mxS - sl0, locals := lo } s m args below meth c H locs (sz - sz0) (sl - sl0) (EndQ G D below s sz0 sl0 Q) (F0 m pc arr (As.reverse ++ rest)) := by
  obtain ⟨hx, hbb, hml, -, hown, -, -, -, hE⟩ := id cx
  obtain ⟨hpl, hcw, hini, hy, hds⟩ := hcp
  have hts := hE.w (args := args)
  intro T hT X
  obtain ⟨mk, hnamed⟩ := codeW_named (hts _ hcw)
  obtain ⟨methM, cM, hmethM, -, -, -, -, -, -, hsigM⟩ := codeW_spec (hts _ hcw) hnamed
  have hstatic : methM.isStatic = true := Cond.static_spec hnamed hmethM (hts _ hst)
  obtain ⟨kP, hkP, -⟩ := className_of_methodNamed hnamed
  have hinitP : kP.init = .initialized := Cond.initialized_spec (findClass_of_methodNamed hnamed) hkP (hts _ hini)
  have hlen : As.length = methM.sig.parameters.length := by
    rw [hsigM] at hds
    exact (Option.some.inj hds).symm
  have hstep : ∃ vm₁, Stand p l e { frames := fr, cells := G.b0 + mm_mxC - sz0, slots := mm_mxS - sl0, locals := lo } s m args below meth c (T.setVm vm₁) locs (sz - sz0) (sl - sl0) ∧ ∀ target, (∀ acts, Steps p.tables e below (doInvoke e ((T.setVm vm₁).setTop (F0 m pc arr rest)) acts mk As.toArray).1 target) → Steps p.tables e below (T.setTop (F0 m pc arr (As.reverse ++ rest))) target := by
    rcases hlk with hlk | ⟨host, hlk⟩
    · exact X.invokestatic hx hown (hts _ hlk) hnamed hmethM hstatic hkP hinitP hy (g := F0 m pc arr (As.reverse ++ rest)) rfl (argsL := As) (rest := rest) hlen rfl (by rw [hbb]; exact hd)
    · exact X.invokestaticNest hx hown (hts _ hlk) hnamed hmethM hstatic hkP hinitP hy (g := F0 m pc arr (As.reverse ++ rest)) rfl (argsL := As) (rest := rest) hlen rfl (by rw [hbb]; exact hd)
  obtain ⟨vm₁, X₁, hstep₁⟩ := hstep
  have hE1 := En.at hE hB hP hT X₁
  have g1 := hB.1
  have g2 := hB.2.1
  have g3 := hB.2.2.1
  have g4 := hB.2.2.2.1
  have g5 := hB.2.2.2.2.1
  obtain ⟨o, t, hsteps, hend, hex⟩ := call_in (U := T.setVm vm₁) (g := F0 m pc arr rest) hmi' hpl hj hL g4 g5 X₁ (hE1.w _ hcw) (hE1.w _ hini) hE1 (by show Pic D G.b0 sz M T.heap; rw [hT]; exact hP) rfl (by show arr.size = c.maxLocals; rw [hml]; exact hl.1) (by rw [hbb]; exact hd) (X₁.named hnamed) (by show fr - 1 + 1 ≤ fr; omega)
    (by show 2 * 0 + (rest.map fun v => v.category).sum + (mi'.mL + 11) + (lo - (mi'.mL + 25)) ≤ lo; omega) (by show sz - sz0 + (G.b0 + mm_mxC - sz) ≤ G.b0 + mm_mxC - sz0; omega) (by show sl - sl0 + (mm_mxS - sl) ≤ mm_mxS - sl0; omega) (codeW_on mi')
  obtain ⟨t2, a2, b2⟩ := j_back (U := T.setVm vm₁) hmi cx hl (by show Bd G s T.heap locs sz0 sl0 sz sl; rw [hT]; exact hB) X₁ (by rw [hbb]; exact hd) hend hex hc hb
  exact ⟨t2, hstep₁ _ (fun acts => by rw [doInvoke_state]; exact hsteps.trans a2), b2⟩
theorem j_callI {i x a : Nat} {mi' : Mi} {As rest : List Value} {Qc : Po} (hmi : mm_pr y = some mi) (cx : Cx G D mi p s m meth c) (hl : lvR arr mi.mL ls) (hP : Pic D G.b0 sz M H) (hB : Bd G s H locs sz0 sl0 sz sl) (hd : decode mi.by pc = .ok (.invokespecial i, 3))
    (hmi' : mm_pr x = some mi') (hcp : calleeP mi' As.length) (hlk : mlnkP mi.nm.cls i mi'.nm) (hin : Jvm.Cond.instanceMethod mi'.nm ∈ mm_tw) (hnm : mi'.nm.name = "<init>") (hrt : mi'.rt = none) (hhs : mi'.hs = [])
    (hL : (loArgs (.ref a :: As)).length ≤ mi'.mL) (h1 : 1 ≤ fr) (h2 : mi'.mL + 25 ≤ lo) (h3 : (rest.map (fun v => v.category)).sum ≤ 14)
    (hj : Jd l G D x 0 (loEnt mi'.mL (.ref a :: As)) [] M sz sl (fr - 1) (lo - (mi'.mL + 25)) Qc)
    (hc : ∀ k h, mi.hn pc k = some h → Takes1 l p e s m args below meth c pc h k)
    (hb : ∀ (o : Ou) (M' : Mm) (sz' sl' : Nat), Qc o M' sz' sl' → backP (Jd l G D) y pc ls rest fr lo Q o M' sz' sl') :
    W p l e { frames := fr, cells := G.b0 + mm_mxC - sz0, slots := mm_mxS - sl0, locals := lo } s m args below meth c H locs (sz - sz0) (sl - sl0) (EndQ G D below s sz0 sl0 Q) (F0 m pc arr (As.reverse ++ .ref a :: rest)) := by
  obtain ⟨hx, hbb, hml, -, hown, -, -, -, hE⟩ := id cx
  obtain ⟨hpl, hcw, hini, hy, hds⟩ := hcp
  have hts := hE.w (args := args)
  intro T hT X
  have hplat : e.platform.magicAccessors = ({} : Platform).magicAccessors := by rw [X.admits.platform]
  have hcode : (Jvm.Cond.code mi'.nm mi'.by mi'.mL none).before args s = true := by
    have h := hts _ hcw
    unfold codeW at h
    rw [if_pos hhs, hrt] at h
    exact h
  have hlen : ∀ sig, parseMethodDescriptor mi'.nm.desc = some sig → As.length = sig.parameters.length := fun sig h => by
    rw [h] at hds
    exact (Option.some.inj hds).symm
  have hstep : ∃ mk vm₁, s.methodNamed? mi'.nm = some mk ∧ s.WarmedH vm₁ ∧ ∀ target, (∀ acts, Steps p.tables e below (doInvoke e ((T.setVm vm₁).setTop (F0 m pc arr rest)) acts mk (Value.ref a :: As).toArray).1 target) → Steps p.tables e below (T.setTop (F0 m pc arr (As.reverse ++ .ref a :: rest))) target := by
    rcases hlk with hlk | ⟨host, hlk⟩
    · obtain ⟨mk, methM, cM, kP, vm₁, hnamed, hmethM, hcodeM, -, hlocalsM, -, hkP, -, hW₁, hstep₁⟩ := Steps.initColdArgs (e := e) X.here hx X.warmed hplat hown hnm hy (hts _ hlk) (hts _ hin) hcode (f := F0 m pc arr (As.reverse ++ .ref a :: rest)) rfl hlen rfl (by rw [hbb]; exact hd)
      exact ⟨mk, vm₁, hnamed, hW₁, hstep₁⟩
    · obtain ⟨mk, methM, cM, kP, vm₁, hnamed, hmethM, hcodeM, -, hlocalsM, -, hkP, -, hW₁, hstep₁⟩ := Steps.initColdArgsNest (e := e) X.here hx X.warmed hplat hown hnm hy (hts _ hlk) (hts _ hin) hcode (f := F0 m pc arr (As.reverse ++ .ref a :: rest)) rfl hlen rfl (by rw [hbb]; exact hd)
      exact ⟨mk, vm₁, hnamed, hW₁, hstep₁⟩
  obtain ⟨mk, vm₁, hnamed, hW₁, hstep₁⟩ := hstep
  have X₁ := X.noted hW₁
  have hE1 := En.at hE hB hP hT X₁
  have g1 := hB.1
  have g2 := hB.2.1
  have g3 := hB.2.2.1
  have g4 := hB.2.2.2.1
  have g5 := hB.2.2.2.2.1
  obtain ⟨o, t, hsteps, hend, hex⟩ := call_in (U := T.setVm vm₁) (g := F0 m pc arr rest) hmi' hpl hj hL g4 g5 X₁ (hE1.w _ hcw) (hE1.w _ hini) hE1 (by show Pic D G.b0 sz M T.heap; rw [hT]; exact hP) rfl (by show arr.size = c.maxLocals; rw [hml]; exact hl.1) (by rw [hbb]; exact hd) (X₁.named hnamed) (by show fr - 1 + 1 ≤ fr; omega)
    (by show 2 * 0 + (rest.map fun v => v.category).sum + (mi'.mL + 11) + (lo - (mi'.mL + 25)) ≤ lo; omega) (by show sz - sz0 + (G.b0 + mm_mxC - sz) ≤ G.b0 + mm_mxC - sz0; omega) (by show sl - sl0 + (mm_mxS - sl) ≤ mm_mxS - sl0; omega) (codeW_on mi')
  obtain ⟨t2, a2, b2⟩ := j_back (U := T.setVm vm₁) hmi cx hl (by show Bd G s T.heap locs sz0 sl0 sz sl; rw [hT]; exact hB) X₁ (by rw [hbb]; exact hd) hend hex hc hb
  exact ⟨t2, hstep₁ _ (fun acts => by rw [doInvoke_state]; exact hsteps.trans a2), b2⟩
end CV
