/-! WHAT HOLDS AT EVERY METHOD'S START: words of the tables, classes, static tables, the script -/
/-- a word that stays true while entries are linked -/
def okW (w : Jvm.Cond) : Bool := w.onTables && (w.keeps || (match w with
  | .fieldLinkNest .. => true
  | .methodLinkNest .. => true
  | .castable .. => true
  | .declares _ => true
  | _ => false))
/-- the tables' words that stay -/
def mm_tw : List Jvm.Cond := lw_tbl.filter okW
theorem okW_warm {w : Jvm.Cond} (h : okW w = true) {s U : State} (hW : s.WarmedH U.vm) (hw : va_Nw w s) : va_Nw w U := by
  unfold okW at h
  rw [Bool.and_eq_true, Bool.or_eq_true] at h
  obtain ⟨h1, h2⟩ := h
  rcases h2 with h2 | h2
  · exact word_at hW (Or.inl (by rw [h1, h2]; rfl)) hw
  · split at h2
    · exact va_Nw.warmF hW hw
    · exact va_Nw.warmM hW hw
    · exact va_Nw.warmC hW hw
    · exact va_Nw.warmD hW hw
    · cases h2
theorem mm_tw_on {w : Jvm.Cond} (hw : w ∈ mm_tw) : okW w = true := (List.mem_filter.mp hw).2
theorem tw_of {w : Jvm.Cond} (i : Nat) (h : lw_tbl[i]? = some w) (ho : okW w = true) : w ∈ mm_tw := List.mem_filter.mpr ⟨List.mem_of_getElem? h, ho⟩
/-- the statics that a throw reads -/
def exSt : List (String × String × String) := [("java/lang/Throwable", "UNASSIGNED_STACK", "[Ljava/lang/StackTraceElement;"), ("java/lang/Throwable", "SUPPRESSED_SENTINEL", "Ljava/util/List;")]
def En (G : Gw) (D : va_G) (U : State) : Prop :=
  (∀ w ∈ mm_tw, va_Nw w U) ∧ va_K D mm_cl (tysOf G.dA) U ∧
  (∀ (j : Nat) (q : String × String × String), mm_sn[j]? = some q → va_Z q.1 q.2.1 q.2.2 (.ref (G.sa j)) (fun a => G.b0 ≤ a) U U.heap ∧ va_T .int (G.sa j) (mm_sv j).1 (fun i => .int ((mm_sv j).2 i)) (fun a => G.b0 ≤ a) U U.heap) ∧
  (∀ q ∈ exSt, va_Zq q.1 q.2.1 q.2.2 (fun a => G.b0 ≤ a) U U.heap ∧ (Jvm.Cond.laysStatic q.1 q.2.1 q.2.2).before #[] U = true) ∧ (∀ q ∈ mm_nc, va_Nc q.1 q.2 U) ∧
  ((∀ ty ∈ mm_acl, (Jvm.Cond.arrayClass ty).before #[] U = true) ∧ (∀ C ∈ mm_ao, va_AO C U) ∧ (∀ q ∈ mm_str, ∃ a : Nat, vk_R q.1 q.2.1 q.2.2 a U)) ∧
  va_X G.xa G.xl G.xs U U.heap ∧ G.xa < G.b0 ∧ G.b0 ≤ U.heap.size ∧ NoSt G.b0 U.heap
theorem va_Zq.go {C n d : String} {A : Nat → Prop} {s U : State} {H H1 : Heap} (hvm : s.vm.Alike U.vm) (h : va_Zq C n d A s H) (hq : ∀ a : Nat, a < H.size → ¬ A a → H1[a]? = H[a]?) : va_Zq C n d A U H1 := by
  rcases h with h | ⟨t, h⟩
  · exact Or.inl ((h.moved hvm).kept hq)
  · exact Or.inr ⟨t, (h.moved hvm).kept hq⟩
theorem laysSt_go {C n d : String} {b0 : Nat} {s U : State} (hv : U.vm = s.vm) (hn : NoSt b0 s.heap) (hh : ∀ q : Nat, q < b0 → U.heap[q]? = s.heap[q]?) {A A' : Array Value} (h : (Jvm.Cond.laysStatic C n d).before A s = true) : (Jvm.Cond.laysStatic C n d).before A' U = true := by
  obtain ⟨c, k, i, f, a, cell, h1, h2, h3, h4, h5, h6, h7, h8, h9⟩ := Cond.laysStatic_spec h
  have ha : a < b0 := by
    rcases Nat.lt_or_ge a b0 with q | q
    · exact q
    · have := hn a cell q h5
      rw [h6] at this
      cases this
  have h1' : U.vm.findClass C = some c := by rw [hv]; exact h1
  have h2' : U.fieldFound? C n d = some (c, k, i, f) := by
    have e : U.fieldFound? C n d = s.fieldFound? C n d := by simp only [State.fieldFound?, hv]
    rw [e]; exact h2
  simp [Cond.before, Cond.holds, Cond.value, h1', h2', h4, hh a ha, h5, h3, h6, h7, h8, h9]
theorem En.go {G : Gw} {D : va_G} {s U : State} (h : En G D s) (hW : s.WarmedH U.vm) (hh : ∀ q : Nat, q < G.b0 → U.heap[q]? = s.heap[q]?) (hz : G.b0 ≤ U.heap.size) (hn : NoSt G.b0 U.heap) : En G D U := by
  obtain ⟨h1, h2, h3, h4, h5, ⟨ha, hb, hc⟩, h6, h7, h8, h9⟩ := h
  have hvm := hW.alike
  have hq : ∀ a : Nat, a < s.heap.size → ¬ (fun a => G.b0 ≤ a) a → U.heap[a]? = s.heap[a]? := fun a _ hA => hh a (by simpa using hA)
  exact ⟨fun w hw => okW_warm (mm_tw_on hw) hW (h1 w hw), h2.moved hvm, fun j q hj => ⟨((h3 j q hj).1.moved hvm).kept hq, ((h3 j q hj).2.moved hvm).kept hq⟩, fun q hq' => ⟨(h4 q hq').1.go hvm hq, laysSt_go (s := s.setVm U.vm) (U := U) rfl h9 hh (Cond.holds_shifted (State.Shifted.of_warmed hW) _ [] rfl (h4 q hq').2)⟩, fun q hq' => (h5 q hq').moved hvm, ⟨fun ty hty => word_at hW (Or.inr ⟨_, rfl⟩) (ha ty hty), fun C hC => (hb C hC).moved hvm, fun q hq' => by obtain ⟨a, h⟩ := hc q hq'; exact ⟨a, h.warm hW⟩⟩, (h6.moved hvm).kept (hh _ h7), h7, hz, hn⟩
theorem En.w {G : Gw} {D : va_G} {s : State} (h : En G D s) {args : Array Value} : ∀ w ∈ mm_tw, w.before args s = true := fun w hw => by
  have h1 := mm_tw_on hw
  unfold okW at h1
  rw [Bool.and_eq_true] at h1
  exact va_Nw.use h1.1 (h.1 w hw)
/-- the same tables, the same heap -/
theorem En.same {G : Gw} {D : va_G} {s U : State} (h : En G D s) (hv : s.vm = U.vm) (hh : s.heap = U.heap) : En G D U := by
  have hW : s.WarmedH U.vm := by rw [← hv]; exact State.WarmedH.refl s
  exact h.go hW (fun q _ => by rw [hh]) (by rw [← hh]; exact h.2.2.2.2.2.2.2.2.1) (by rw [← hh]; exact h.2.2.2.2.2.2.2.2.2)
def OutIs (t : State) (o : Outcome) (u : Ou) : Prop := match u with
  | .inl v => o = .returned v
  | .inr k => ∃ (a : Addr) (ce : Cell), o = .threw a ∧ t.heap[a]? = some ce ∧ ce.vm = .none ∧ t.vm.findClass (mm_xn k) = some ce.cls
def EndQ (G : Gw) (D : va_G) (below : List Frame) (s : State) (sz0 sl0 : Nat) (Q : Po) : State → Prop := fun t => ∃ (o : Outcome) (u : Ou) (M' : Mm) (sz' sl' : Nat) (L : List Loc),
  t.status = .running ∧ Ended t below o ∧ OutIs t o u ∧ Q u M' sz' sl' ∧ Pic D G.b0 sz' M' t.heap ∧ s.WarmedH t.vm ∧ s.sameButNew ({ t with vm := s.vm } : State) L (sz' - sz0) (sl' - sl0) ∧ (∀ q ∈ L, G.b0 ≤ q.base) ∧ (∀ q : Nat, q < G.b0 → t.heap[q]? = s.heap[q]?) ∧ sz0 ≤ sz' ∧ sl0 ≤ sl' ∧ sz' ≤ G.b0 + mm_mxC ∧ sl' ≤ mm_mxS
def Cx (G : Gw) (D : va_G) (mi : Mi) (p : Program) (s : State) (m : MethodId) (meth : Method) (c : Code) : Prop :=
  p.tables.exec = Jvm.exec ∧ c.code = mi.by ∧ c.maxLocals = mi.mL ∧ meth.sig.returnType = mi.rt ∧ s.vm.findClass mi.nm.cls = some m.cls ∧ meth.locks = false ∧ meth.name = mi.nm.name ∧ c.exceptionTable.toList.map (fun h => (h.startPc, h.endPc, h.handlerPc, h.catchType)) = mi.hs ∧ En G D s
def Bd (G : Gw) (s : State) (H : Heap) (locs : List Loc) (sz0 sl0 sz sl : Nat) : Prop :=
  s.heap.size = sz0 ∧ sz0 ≤ sz ∧ sl0 ≤ sl ∧ sz ≤ G.b0 + mm_mxC ∧ sl ≤ mm_mxS ∧ va_S (fun q => G.b0 ≤ q) s.heap H locs
/-- the machine, at this place of this method, comes to an end as Q says -/
def Jd (l : Launch) (G : Gw) (D : va_G) : Xt := fun y pc ls st M sz sl fr lo Q => ∀ mi : Mi, mm_pr y = some mi → ∀ (p : Program) (e : Env) (s : State) (m : MethodId) (args : Array Value) (below : List Frame) (meth : Method) (c : Code) (H : Heap) (locs : List Loc) (arr : Array Slot) (sz0 sl0 : Nat),
  Cx G D mi p s m meth c → lvR arr mi.mL ls → Pic D G.b0 sz M H → Bd G s H locs sz0 sl0 sz sl →
  W p l e { frames := fr, cells := G.b0 + mm_mxC - sz0, slots := mm_mxS - sl0, locals := lo } s m args below meth c H locs (sz - sz0) (sl - sl0) (EndQ G D below s sz0 sl0 Q) (F0 m pc arr st)
