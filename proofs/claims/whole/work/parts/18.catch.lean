/-! A HANDLER TAKES WHAT IS THROWN, its class linked at the search -/
def FindsTo (e : Env) (s : State) (f : JFrame) (a : Addr) (h : Handler) (s' : State) : Prop := ∀ (Q : Handler → Pre) (E : CtlPost) (d : Bool) (acts : List Action), wp (findHandler f a) Q E e d acts s ↔ Q h d acts s'
section FH
variable {E : CtlPost} {e : Env} {d : Bool} {acts : List Action} {s : State} {f : JFrame} {a : Addr} {Q : Handler → Pre}
theorem fh_cold {x : ExceptionTableEntry} {t : List ExceptionTableEntry} {c : ClassId} {cell : Cell} {vm' : Vm} (hx : covers x f.pc = true) (h0 : x.catchType ≠ 0)
    (hg : (Jvm.resolveClass f.method.cls x.catchType).Gives e.toSetting s.vm (.ok c) vm') (hsz : vm'.classes.size ≤ s.vm.classes.size) (hcell : s.heap[a]? = some cell) (hobj : ∀ k, cell.vm ≠ .statics k)
    (hk : ∃ k, vm'.classes[cell.cls]? = some k) (hc : ∃ k, vm'.classes[c]? = some k) :
    wp (findHandler.go f a (x :: t)) Q E e d acts s ↔ if vm'.assignable cell.cls c = true then Q (.found x.handlerPc) d acts (s.setVm vm') else wp (findHandler.go f a t) Q E e d acts (s.setVm vm') := by
  obtain ⟨ha, ht⟩ := hg.op (op := VmOp.resolveClass f.method.cls x.catchType) rfl
  simp only [covers] at hx
  cases hfit : vm'.assignable cell.cls c <;>
    simp [findHandler.go, hx, h0, ha, ht, hsz, hcell, hobj, hk, hc, hfit, VmOp.dirties, VmOp.acts]
theorem st_catchTo {r : List Frame} {pc : Nat} {s' : State} (hfind : FindsTo e s f a (.found pc) s') :
    (stepThrowing e s a (.java f :: r)).Is (s'.setFrames (.java { f with pc := pc, stack := [.ref a] } :: r)) [] := by
  simp only [stepThrowing, searchFrame, vmDo]
  generalize hr : Sem.go _ e false [] s = res
  obtain ⟨as, rfl, ha⟩ := Sem.eq_ok_of hr (a := Handler.found pc) (s' := s') (acts' := []) (by simp [hfind _ _ _ _])
  exact ⟨rfl, ha⟩
end FH
theorem caughtTo {p : Program} {e : Env} {s : State} {g : JFrame} {c : Code} {below : List Frame} {a : Addr} {target : State} {vm' : Vm} (h : At s g.method c below) {pc : Nat} (hfind : FindsTo e ((s.setTop g).pushFrame (.throwing a)) g a (.found pc) (((s.setTop g).pushFrame (.throwing a)).setVm vm'))
    (hrest : Steps p.tables e below ((s.setVm vm').setTop { g with pc := pc, stack := [.ref a] }) target) :
    Steps p.tables e below ((s.setTop g).pushFrame (.throwing a)) target := by
  obtain ⟨hgo, hw⟩ := h.throwing a
  refine Steps.head hgo hw ?_
  rw [stepThread_throwing (frames_entered h.top _), (st_catchTo (s := (s.setTop g).pushFrame (.throwing a)) hfind).1]
  obtain ⟨g₀, hg⟩ := Option.isSome_iff_exists.mp h.top
  obtain ⟨r, hr⟩ := State.topJava?_eq_some.mp hg
  have hr' : (s.setVm vm').frames = .java g₀ :: r := hr
  rw [State.setTop_of_frames _ hr'] at hrest
  have e0 : ∀ A B, ((s.setFrames A).setVm vm').setFrames B = (s.setVm vm').setFrames B := fun A B => by
    show ((s.setVm vm').setFrames A).setFrames B = _
    rw [State.setFrames_setFrames]
  rw [State.pushFrame, State.setTop_of_frames _ hr, State.setFrames_setFrames, hr, e0]
  exact hrest
/-- where a kind of exception goes: to the first handler, or to the second behind one of another kind -/
def hkP (mi : Mi) (pc k h : Nat) : Prop := k < 3 ∧ ∃ s1 e1 ct r, s1 ≤ pc ∧ pc < e1 ∧ ct ≠ 0 ∧ Jvm.Cond.classLink mi.nm.cls ct (mm_xn k) ∈ mm_tw ∧ (mi.hs = (s1, e1, h, ct) :: r ∨ ∃ s2 e2 h2 ct2 k2, mi.hs = (s2, e2, h2, ct2) :: (s1, e1, h, ct) :: r ∧ s2 ≤ pc ∧ pc < e2 ∧ ct2 ≠ 0 ∧ Jvm.Cond.classLink mi.nm.cls ct2 (mm_xn k2) ∈ mm_tw ∧ (mm_xn k, mm_xn k2) ∈ mm_nc)
theorem xn_cast {k : Nat} (hk : k < 3) : Jvm.Cond.castable (mm_xn k) (mm_xn k) ∈ mm_tw := by
  rcases (show k = 0 ∨ k = 1 ∨ k = 2 by omega) with rfl | rfl | rfl <;> decide +kernel
/-- linking a class: the tables behind it -/
theorem cl_link {p : Program} {l : Launch} {e : Env} {R : Room} {s : State} {m : MethodId} {args : Array Value} {below : List Frame} {meth : Method} {c : Code} {T : State} {locs : List Loc} {cells slots : Nat} (X : Stand p l e R s m args below meth c T locs cells slots) {own C : String} {i : Nat} (hown : s.vm.findClass own = some m.cls) (hw : (Jvm.Cond.classLink own i C).before args s = true) :
    ∃ (cT : ClassId) (vm' : Vm), s.vm.findClass C = some cT ∧ (Jvm.resolveClass m.cls i).Gives e.toSetting T.vm (.ok cT) vm' ∧ vm'.classes.size ≤ T.vm.classes.size ∧ s.WarmedH vm' ∧ ∃ k, vm'.classes[cT]? = some k := by
  have hpl : e.platform.magicAccessors = ({} : Platform).magicAccessors := by rw [X.admits.platform]
  obtain ⟨cT, hc', hcl⟩ := Cond.classLink_spec hown hw e.platform hpl
  obtain ⟨dk, _, _, kt, hd, _, _, _, _, hkt, _, hopen⟩ := hcl.here
  have hcl₀ := X.warmed.classLinks hcl
  have hW' : s.WarmedH (T.vm.noted m.cls i (.cls cT)) := X.warmed.noted hd hopen (State.rightAt_cls hcl)
  obtain ⟨kt', hkt', -⟩ := hW'.alike.2.2 _ _ hkt
  exact ⟨cT, _, hc', resolveClass_links e.toSetting hcl₀, by no_record, hW', kt', hkt'⟩
section TK
variable {l : Launch} {G : Gw} {D : va_G} {mi : Mi} {p : Program} {e : Env} {s : State} {m : MethodId} {args : Array Value} {below : List Frame} {meth : Method} {c : Code}
set_option maxHeartbeats 1000000 in
theorem takes_of {pc h k : Nat} (cx : Cx G D mi p s m meth c) (hk : hkP mi pc k h) : Takes1 l p e s m args below meth c pc h k := by
  obtain ⟨hx, hb, hml, -, hown, hlocks, -, htab, hE⟩ := id cx
  obtain ⟨hk3, s1, e1, ct, r, q1, q2, q3, q4, hh⟩ := hk
  have hts := hE.w (args := args)
  intro R T locs cells slots arr rest a ce X hce hvm hcls
  have hobj : ∀ k, ce.vm ≠ .statics k := fun k hk => by rw [hvm] at hk; cases hk
  have hal := X.warmed.alike
  have hcs : s.vm.findClass (mm_xn k) = some ce.cls := by rw [← hal.findClass]; exact hcls
  obtain ⟨c3, c4, hc3, hc4, hasg⟩ := Cond.castable_spec (hts _ (xn_cast hk3))
  cases Option.some.inj (hc3.symm.trans hcs)
  cases Option.some.inj (hc4.symm.trans hcs)
  obtain ⟨kC, hkC⟩ := Vm.classAt_of_findClass hcs
  have hmT : T.vm.method? m = some meth := X.method'
  rcases hh with hh | ⟨s2, e2, h2, ct2, k2, hh, z1, z2, z3, z4, z5⟩
  · obtain ⟨cT, vm', k1, k2, k3, k4, k5⟩ := cl_link X hown (hts _ q4)
    cases Option.some.inj (k1.symm.trans hcs)
    refine ⟨vm', X.noted k4, fun tg hst => caughtTo (g := F0 m pc arr rest) (pc := h) X.here ?_ hst⟩
    rw [hh] at htab
    obtain ⟨x1, xs, hl1, hx1, hxs⟩ := List.map_eq_cons_iff.mp htab
    simp only [Prod.mk.injEq] at hx1
    obtain ⟨y1, y2, y3, y4⟩ := hx1
    intro Q E d acts
    rw [W.findHandler_eq (meth := meth) (code := c) (by show ((T.setTop _).pushFrame _).vm.method? m = _; rw [Stand.throwing_vm]; exact hmT) X.code, hl1]
    rw [fh_cold (c := ce.cls) (cell := ce) (vm' := vm') (by show covers x1 pc = true; simp [covers, y1, y2, q1, q2]) (by rw [y4]; exact q3) (by rw [y4, Stand.throwing_vm]; exact k2) (by rw [Stand.throwing_vm]; exact k3) (by rw [Stand.throwing_heap]; exact hce) hobj (by obtain ⟨k', hk', -⟩ := k4.alike.2.2 _ _ hkC; exact ⟨k', hk'⟩) k5]
    rw [if_pos (by rw [k4.alike.assignable]; exact hasg), y3]
  · obtain ⟨cT2, vm2, k1, k2', k3, k4, k5⟩ := cl_link X hown (hts _ z4)
    have X2 := X.noted k4
    obtain ⟨cT, vm', j1, j2, j3, j4, j5⟩ := cl_link X2 hown (hts _ q4)
    cases Option.some.inj (j1.symm.trans hcs)
    obtain ⟨n1, n2, n3, n4, n5⟩ := hE.2.2.2.2.1 _ z5
    cases Option.some.inj (n3.symm.trans hcs)
    cases Option.some.inj (n4.symm.trans k1)
    refine ⟨vm', X.noted j4, fun tg hst => caughtTo (g := F0 m pc arr rest) (pc := h) X.here ?_ hst⟩
    rw [hh] at htab
    obtain ⟨x2, xs2, hl2, hx2, hxs2⟩ := List.map_eq_cons_iff.mp htab
    obtain ⟨x1, xs, hl1, hx1, hxs⟩ := List.map_eq_cons_iff.mp hxs2
    simp only [Prod.mk.injEq] at hx1 hx2
    obtain ⟨y1, y2, y3, y4⟩ := hx1
    obtain ⟨w1, w2, w3, w4⟩ := hx2
    intro Q E d acts
    rw [W.findHandler_eq (meth := meth) (code := c) (by show ((T.setTop _).pushFrame _).vm.method? m = _; rw [Stand.throwing_vm]; exact hmT) X.code, hl2, hl1]
    rw [fh_cold (x := x2) (f := F0 m pc arr rest) (c := cT2) (cell := ce) (vm' := vm2) (by show covers x2 pc = true; simp [covers, w1, w2, z1, z2]) (by rw [w4]; exact z3) (by rw [w4, Stand.throwing_vm]; exact k2') (by rw [Stand.throwing_vm]; exact k3) (by rw [Stand.throwing_heap]; exact hce) hobj (by obtain ⟨k', hk', -⟩ := k4.alike.2.2 _ _ hkC; exact ⟨k', hk'⟩) k5]
    rw [if_neg (by rw [k4.alike.assignable, n5]; decide)]
    rw [fh_cold (x := x1) (f := F0 m pc arr rest) (s := ((T.setTop (F0 m pc arr rest)).pushFrame (.throwing a)).setVm vm2) (c := ce.cls) (cell := ce) (vm' := vm') (by show covers x1 pc = true; simp [covers, y1, y2, q1, q2]) (by rw [y4]; exact q3) (by rw [y4]; exact j2) j3 (by show ((T.setTop (F0 m pc arr rest)).pushFrame (.throwing a)).heap[a]? = _; rw [Stand.throwing_heap]; exact hce) hobj (by obtain ⟨k', hk', -⟩ := j4.alike.2.2 _ _ hkC; exact ⟨k', hk'⟩) j5]
    rw [if_pos (by rw [j4.alike.assignable]; exact hasg), y3]
    rfl
end TK
