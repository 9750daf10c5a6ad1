/-! CALLS -/
def sloOf (x : Slot) : Option Value := match x with
  | .val v => some v
  | _ => none
theorem loArgs_eq (vs : List Value) : loArgs vs = (lg_sl vs).map sloOf := by
  induction vs with
  | nil => rfl
  | cons v t ih =>
    have e : lg_sl (v :: t) = (if v.category = 2 then [.val v, .second] else [.val v]) ++ lg_sl t := by simp [lg_sl]
    rw [e, List.map_append, ← ih]
    by_cases hc : v.category = 2
    · simp [loArgs, hc, sloOf]
    · simp [loArgs, hc, sloOf]
theorem lvR_entry (vs : List Value) {n : Nat} (h : (loArgs vs).length ≤ n) : lvR ((lg_sl vs ++ List.replicate (n - (lg_sl vs).length) Slot.unset).toArray) n (loEnt n vs) := by
  have hlen : (loArgs vs).length = (lg_sl vs).length := by rw [loArgs_eq, List.length_map]
  have hl := lv_entry vs (n := n) (by rw [← hlen]; exact h)
  have e : loEnt n vs = (lg_sl vs ++ List.replicate (n - (lg_sl vs).length) Slot.unset).map sloOf := by
    unfold loEnt
    rw [List.map_append, List.map_replicate, ← loArgs_eq, hlen]
    rfl
  refine ⟨hl.1, ?_, hl.2.1, fun i v hi => ?_⟩
  · rw [e, List.length_map]
    have := hl.1
    simpa using this
  · rw [e, List.getElem?_map] at hi
    rw [List.getElem?_toArray]
    cases hs : (lg_sl vs ++ List.replicate (n - (lg_sl vs).length) Slot.unset)[i]? with
    | none => rw [hs] at hi; cases hi
    | some q =>
      rw [hs] at hi
      cases q with
      | val w => simp [sloOf] at hi; rw [hi]
      | _ => simp [sloOf] at hi
def codeW (mi : Mi) : Jvm.Cond := if mi.hs = [] then .code mi.nm mi.by mi.mL mi.rt else .codeWith mi.nm mi.by mi.mL mi.rt mi.hs
theorem codeW_spec {mi : Mi} {args : Array Value} {s : State} {m : MethodId} (h : (codeW mi).before args s = true) (hn : s.methodNamed? mi.nm = some m) : ∃ meth c, s.vm.method? m = some meth ∧ meth.code = some c ∧ c.code = mi.by ∧ c.maxLocals = mi.mL ∧ meth.sig.returnType = mi.rt ∧ meth.locks = false ∧ c.exceptionTable.toList.map (fun h => (h.startPc, h.endPc, h.handlerPc, h.catchType)) = mi.hs ∧ parseMethodDescriptor mi.nm.desc = some meth.sig := by
  unfold codeW at h
  split at h
  · rename_i he
    obtain ⟨meth, c, h1, h2, h3, h4, h5, h6, h7, h8⟩ := Cond.code_spec hn h
    refine ⟨meth, c, h1, h2, h3, h4, h5, h6, ?_, h8⟩
    rw [he]
    simpa using h7
  · obtain ⟨m9, meth, c, hn9, h1, h2, h3, h4, h5, h6, h7, h8⟩ := Cond.codeWith_spec h
    cases hn.symm.trans hn9
    exact ⟨meth, c, h1, h2, h3, h4, h6, h7, h5, h8⟩
/-- the end of a call, seen from its start -/
def EndX (G : Gw) (D : va_G) (sz sl : Nat) (Q : Po) (st : State) (o : Outcome) (t : State) : Prop := ∃ (u : Ou) (M' : Mm) (sz' sl' : Nat) (L : List Loc),
  OutIs t o u ∧ Q u M' sz' sl' ∧ Pic D G.b0 sz' M' t.heap ∧ st.WarmedH t.vm ∧ st.sameButNew ({ t with vm := st.vm } : State) L (sz' - sz) (sl' - sl) ∧ (∀ q ∈ L, G.b0 ≤ q.base) ∧ (∀ q : Nat, q < G.b0 → t.heap[q]? = st.heap[q]?) ∧ sz ≤ sz' ∧ sl ≤ sl' ∧ sz' ≤ G.b0 + mm_mxC ∧ sl' ≤ mm_mxS
section CA
variable {l : Launch} {G : Gw} {D : va_G} {M : Mm} {sz sl : Nat}
theorem met_of {x fr lo : Nat} {mi : Mi} {av : List Value} {Qc : Po} (hmi : mm_pr x = some mi) (hpl : plainName mi.nm.cls = true) (hj : Jd l G D x 0 (loEnt mi.mL av) [] M sz sl fr lo Qc) (hL : (loArgs av).length ≤ mi.mL) (h1 : sz ≤ G.b0 + mm_mxC) (h2 : sl ≤ mm_mxS) :
    MetFree l mi.nm (headSpec [codeW mi] { frames := fr, cells := G.b0 + mm_mxC - sz, slots := mm_mxS - sl, locals := lo }) (fun a U => a = av.toArray ∧ Pic D G.b0 sz M U.heap ∧ En G D U) (fun _ _ _ _ _ => True) (fun _ st o t => EndX G D sz sl Qc st o t) := by
  refine MetFree.of_bodyS (code := mi.by) (maxLocals := mi.mL) (ret := mi.rt) hpl ?_ ?_
  · intro args s m h hn
    obtain ⟨meth, c, g1, g2, g3, g4, g5, g6, -, -⟩ := codeW_spec (atoms_spec (ws := [codeW mi]) h _ List.mem_cons_self) hn
    exact ⟨meth, c, g1, g2, g3, g4, g5, g6⟩
  · intro p e s m args below meth c s₁ B hml hP _
    obtain ⟨rfl, hPic, hE⟩ := hP
    have hh0 : s₁.heap = s.heap := by rw [B.state]; rfl
    have X₀ := Stand.of_body B
    obtain ⟨meth', c', g1, g2, -, -, -, -, g7, -⟩ := codeW_spec (atoms_spec (ws := [codeW mi]) B.pre _ List.mem_cons_self) B.named
    cases B.method.symm.trans g1
    cases X₀.code.symm.trans g2
    have cx : Cx G D mi p s m meth c := ⟨B.exec, B.bytes, hml, B.returns, findClass_of_methodNamed B.named, B.notSynchronized, (name_of_methodNamed B.named B.method).1, g7, hE⟩
    have hB : Bd G s s.heap [] sz sl sz sl := ⟨hPic.1, Nat.le_refl _, Nat.le_refl _, h1, h2, va_S.rf⟩
    have K := hj mi hmi p e s m av.toArray below meth c s.heap [] _ sz sl cx (lvR_entry av hL) hPic hB
    rw [← lg_entry_eq m av mi.mL, Nat.sub_self, Nat.sub_self] at K
    obtain ⟨t, a1, o, u, M', sz', sl', L, b1, b2, b3, b4, b5, b6, b7, b8, b9⟩ := K s₁ hh0 X₀
    exact ⟨t, o, a1, b1, b2, u, M', sz', sl', L, b3, b4, b5, b6, b7, b8, b9⟩
variable {p : Program} {e : Env} {R : Room} {s : State} {m : MethodId} {args : Array Value} {below : List Frame} {meth : Method} {c : Code} {U : State} {locs : List Loc} {cells slots : Nat}
theorem call_in {x fr lo len : Nat} {mi : Mi} {av : List Value} {Qc : Po} {mk : MethodId} {ig : Instr} (hmi : mm_pr x = some mi) (hpl : plainName mi.nm.cls = true) (hj : Jd l G D x 0 (loEnt mi.mL av) [] M sz sl fr lo Qc) (hL : (loArgs av).length ≤ mi.mL) (h1 : sz ≤ G.b0 + mm_mxC) (h2 : sl ≤ mm_mxS)
    (X : Stand p l e R s m args below meth c U locs cells slots) (hcode : (codeW mi).before #[] U = true) (hinit : (Jvm.Cond.initialized mi.nm.cls).before #[] U = true) (hE : En G D U) (hP : Pic D G.b0 sz M U.heap) {g : JFrame} (hg : g.method = m) (hsize : g.locals.size = c.maxLocals) (hdg : decode c.code g.pc = .ok (ig, len)) (hn : U.methodNamed? mi.nm = some mk)
    (hf : fr + 1 ≤ R.frames) (hl : 2 * g.monitorRoom + (g.stack.map fun v => v.category).sum + (mi.mL + 11) + lo ≤ R.locals) (hc : cells + (G.b0 + mm_mxC - sz) ≤ R.cells) (hs : slots + (mm_mxS - sl) ≤ R.slots) (hcon : (codeW mi).onTables = true) :
    ∃ o t, Steps p.tables e below (doInvoke e (U.setTop g) [] mk av.toArray).1 t ∧ Ended t (.java g :: below) o ∧ EndX G D sz sl Qc (U.calling g mk av.toArray) o t := by
  have hM := met_of hmi hpl hj hL h1 h2
  obtain ⟨methY, cY, hmY, hcY, -, hlY, -, -, -, -⟩ := codeW_spec hcode hn
  obtain ⟨kY, hkY, -⟩ := className_of_methodNamed hn
  have hinitY : kY.init = .initialized := Cond.initialized_spec (findClass_of_methodNamed hn) hkY hinit
  have h : At U g.method c below := by rw [hg]; exact X.here
  have hpre : (headSpec [codeW mi] { frames := fr, cells := G.b0 + mm_mxC - sz, slots := mm_mxS - sl, locals := lo }).pre.before av.toArray U = true := atoms_intro (ws := [codeW mi]) fun w hw => by
    rw [List.mem_singleton.mp hw]
    exact va_tabs hcon rfl hcode
  have happ := Spec.appliesLoose_calling (S := headSpec [codeW mi] { frames := fr, cells := G.b0 + mm_mxC - sz, slots := mm_mxS - sl, locals := lo }) (g := g) h hdg hn hkY hinitY
      (X.room_calling (g := g) (args' := av.toArray) (R' := { frames := fr, cells := G.b0 + mm_mxC - sz, slots := mm_mxS - sl, locals := lo }) hsize hmY hcY hf (by rw [hlY]; exact hl) hc hs) hpre
  obtain ⟨mid, hmid⟩ := h.above
  have hfr : (U.setTop g).frames = (.java g :: mid) ++ below := by rw [State.frames_setTop' g h.top, hmid]; rfl
  have hE' : En G D (U.calling g mk av.toArray) := hE.same rfl rfl
  obtain ⟨o, t, hsteps, -, hend, hq⟩ := Steps.callFree hM p X.admits X.cas X.clock (acts := []) hfr happ ⟨rfl, hP, hE'⟩ trivial
  rw [State.frames_setTop' g h.top, X.tail] at hend
  exact ⟨o, t, hsteps, hend, hq⟩
end CA
