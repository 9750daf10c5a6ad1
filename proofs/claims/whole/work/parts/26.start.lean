/-! THE HEADS OF THE SKELETON -/
def R_law : String := "ChannelRoomsLaw"
def lw_P (b : Addr) (xs : List Int32) (args : Array Value) (s : State) : Prop := args = #[.ref b] ∧ s.IntsAt b xs ∧ xs.length ≤ 4608 ∧ (Jvm.Cond.and given_1 narrow_1).before args s = true
def lw_Q (_ : Array Value) (s : State) (o : Outcome) (t : State) : Prop := o = .returned (some (.int 1)) ∧ Framed s o t [] 601024 7293034
def lw_Z (below : List Frame) (a : Array Value) (s : State) : State → Prop := fun t => ∃ o, t.status = .running ∧ Ended t below o ∧ lw_Q a s o t
/-- what holds at the law's entry: the machine, the code, the tables' words (any of lw_tbl by 'hts w (by decide +kernel)'), the script of L ints xs at the cell b, what the Statement gives of the start (any of its parts by flat_of_before) -/
def lw_At (p : Program) (s : State) (m : MethodId) (meth : Method) (c : Code) (b L : Nat) (xs : Nat → Int32) : Prop :=
  p.tables.exec = Jvm.exec ∧ c.code = code ∧ meth.sig.returnType = ret ∧ c.maxLocals = 8 ∧ s.vm.findClass R_law = some m.cls ∧ (∀ w ∈ lw_tbl, w.before #[Value.ref b] s = true) ∧ va_X b L xs s s.heap ∧ b < s.heap.size ∧ meth.locks = false ∧ (Jvm.Cond.and given_1 narrow_1).before #[Value.ref b] s = true
/-! FROM THE MINI MACHINE TO THE CLAIM -/
theorem narrow_at {b : Nat} {s : State} (h : (Jvm.Cond.and given_1 narrow_1).before #[Value.ref b] s = true) {w : Jvm.Cond} (hw : w ∈ flatC (Jvm.Cond.and given_1 narrow_1)) : w.before #[Value.ref b] s = true := flat_of_before _ h w hw
def spEl (nm : String) (j : Nat) (v : Int32) : Jvm.Cond := .eq (.elem (.static "ChannelRooms" nm "[I") (.int (Int32.ofNat j))) (.int v)
theorem spX : ∀ j : Nat, j < 8 → spEl "SPOT_X" j ((mm_sv 0).2 j) ∈ flatC (Jvm.Cond.and given_1 narrow_1) := by decide +kernel
theorem spY : ∀ j : Nat, j < 8 → spEl "SPOT_Y" j ((mm_sv 1).2 j) ∈ flatC (Jvm.Cond.and given_1 narrow_1) := by decide +kernel
theorem nc_in : ∀ q ∈ mm_nc, Jvm.Cond.not (.castable q.1 q.2) ∈ flatC (Jvm.Cond.and given_1 narrow_1) := by decide +kernel
theorem str_in : ∀ q ∈ mm_str, Jvm.Cond.exactly (.string q.1 q.2.1) "java/lang/String" ∈ flatC (Jvm.Cond.and given_1 narrow_1) := by decide +kernel
theorem str_tb : ∀ q ∈ mm_str, Jvm.Cond.stringRef q.1 q.2.1 q.2.2 ∈ lw_tbl := by decide +kernel
theorem sp_tab {b : Nat} {s : State} (h : (Jvm.Cond.and given_1 narrow_1).before #[Value.ref b] s = true) (hts : ∀ w ∈ lw_tbl, w.before #[Value.ref b] s = true) {nm : String} {f : Nat → Int32}
    (h1 : Jvm.Cond.arrayOf (.static "ChannelRooms" nm "[I") .int ∈ flatC (Jvm.Cond.and given_1 narrow_1)) (h2 : Jvm.Cond.eq (.length (.static "ChannelRooms" nm "[I")) (.int 8) ∈ flatC (Jvm.Cond.and given_1 narrow_1)) (h3 : ∀ j : Nat, j < 8 → spEl nm j (f j) ∈ flatC (Jvm.Cond.and given_1 narrow_1)) (h4 : Jvm.Cond.laysStatic "ChannelRooms" nm "[I" ∈ lw_tbl) (h5 : Jvm.Cond.initialized "ChannelRooms" ∈ lw_tbl) :
    ∃ t : Nat, va_Z "ChannelRooms" nm "[I" (.ref t) (fun a => s.heap.size ≤ a) s s.heap ∧ va_T .int t 8 (fun i => .int (f i)) (fun a => s.heap.size ≤ a) s s.heap := by
  have hA : ∀ a : Nat, a < s.heap.size → ¬ s.heap.size ≤ a := fun a q => Nat.not_le.mpr q
  obtain ⟨t, ht, hT⟩ := va_Tof (args := #[Value.ref b]) (s := s) (tm := .static "ChannelRooms" nm "[I") (ty := .int) (N := 8) (f := fun i => .int (f i)) (A := fun a => s.heap.size ≤ a) (by decide) (narrow_at h h1) (va_eqt (narrow_at h h2)) (fun j hj => va_eqt (narrow_at h (h3 j hj))) hA
  exact ⟨t, va_Zof (hts _ h4) (hts _ h5) ht hA, hT⟩
theorem arr_prim {b : Nat} {s : State} {ty : FieldType} (hp : ty = .int ∨ ty = .long ∨ ty = .boolean) (h : (Jvm.Cond.arrayClass ty).before #[Value.ref b] s = true) : ∃ cA : ClassId, ArrOfT s cA ty ∧ va_RA s cA ty := by
  obtain ⟨cA, kA, comp, h1, h2, h3⟩ := Cond.arrayClass_spec h
  refine ⟨cA, fun n z => ⟨fun k q => (by cases q), kA, h2, comp, h3⟩, ?_⟩
  rcases hp with rfl | rfl | rfl <;> exact h1
theorem arr_obj {b : Nat} {s : State} {C : String} (h : (Jvm.Cond.arrayOver (.object C)).before #[Value.ref b] s = true) : ∃ cA : ClassId, ArrOfT s cA (.object C) ∧ va_RA s cA (.object C) := by
  obtain ⟨comp, cA, kA, h1, h2, h3, h4, h5⟩ := Cond.arrayOver_spec h
  exact ⟨cA, fun n z => ⟨fun k q => (by cases q), kA, h3, comp, h4⟩, kA, comp, h3, h4, h1, h5⟩
/-- what holds at the law's entry, in the mini machine's words -/
theorem en_start {p : Program} {s : State} {m : MethodId} {meth : Method} {c : Code} {b L : Nat} {xs : Nat → Int32} (C0 : lw_At p s m meth c b L xs) : ∃ (dA sa : Nat → Nat) (D : va_G), En (dA, sa, b, L, xs, s.heap.size) D s := by
  obtain ⟨hx, hb, hr, hml, hown, hts, hX, hbl, hlocks, hgv⟩ := C0
  have hA : ∀ a : Nat, a < s.heap.size → ¬ s.heap.size ≤ a := fun a q => Nat.not_le.mpr q
  have hnw : ∀ w ∈ mm_tw, w.before #[Value.ref b] s = true := fun w hw => hts w (List.mem_filter.mp hw).1
  -- kinds
  have hk : ∀ x : Nat, ∃ (cC : ClassId) (iS : Nat → Nat), ∀ q : vw_C, mm_cl[x]? = some q → u_Kn s q.1 q.2.1 q.2.2 cC iS := by
    intro x
    cases hq : mm_cl[x]? with
    | none => exact ⟨0, fun _ => 0, fun q h => by cases h⟩
    | some q =>
      obtain ⟨C, T, N⟩ := q
      obtain ⟨h1, -, -, h4, -⟩ := mm_clOk x C T N hq
      obtain ⟨cC, iS, hK⟩ := u_known (C := C) (T := T) (N := N) (n := N) hnw h1 (hnw _ h4)
      exact ⟨cC, iS, fun q h => by cases h; exact hK⟩
  obtain ⟨dC, hdC⟩ := Classical.skolem.mp hk
  obtain ⟨dI, hdI⟩ := Classical.skolem.mp hdC
  -- arrays
  have ha : ∀ i : Nat, ∃ cA : ClassId, ∀ ty, mm_aty[i]? = some ty → ArrOfT s cA ty ∧ va_RA s cA ty := by
    intro i
    cases hq : mm_aty[i]? with
    | none => exact ⟨0, fun q h => by cases h⟩
    | some ty =>
      have : ∃ cA : ClassId, ArrOfT s cA ty ∧ va_RA s cA ty := by
        match i, hq with
        | 0, hq => cases hq; exact arr_prim (Or.inl rfl) (hts _ (by decide +kernel))
        | 1, hq => cases hq; exact arr_prim (Or.inr (Or.inl rfl)) (hts _ (by decide +kernel))
        | 2, hq => cases hq; exact arr_prim (Or.inr (Or.inr rfl)) (hts _ (by decide +kernel))
        | 3, hq => cases hq; exact arr_obj (hts _ (by decide +kernel))
        | 4, hq => cases hq; exact arr_obj (hts _ (by decide +kernel))
        | 5, hq => cases hq; exact arr_obj (hts _ (by decide +kernel))
        | n + 6, hq => simp [mm_aty] at hq
      obtain ⟨cA, h⟩ := this
      exact ⟨cA, fun ty' h' => by cases h'; exact h⟩
  obtain ⟨dA, hdA⟩ := Classical.skolem.mp ha
  -- static tables
  obtain ⟨t0, z0, T0⟩ := sp_tab hgv hts (nm := "SPOT_X") (f := (mm_sv 0).2) (by decide +kernel) (by decide +kernel) spX (by decide +kernel) (by decide +kernel)
  obtain ⟨t1, z1, T1⟩ := sp_tab hgv hts (nm := "SPOT_Y") (f := (mm_sv 1).2) (by decide +kernel) (by decide +kernel) spY (by decide +kernel) (by decide +kernel)
  refine ⟨dA, fun j => if j = 0 then t0 else t1, (dC, dI), ?_, ?_, ?_, ?_, ?_, ⟨?_, ?_, ?_⟩, hX, hbl, Nat.le_refl _, ?_⟩
  · intro w hw
    have h1 := mm_tw_on hw
    unfold okW at h1
    rw [Bool.and_eq_true] at h1
    exact va_Nw.of h1.1 (hnw w hw)
  · refine ⟨fun c q hq => hdI c q hq, fun k q hq => ?_⟩
    unfold tysOf at hq
    rw [List.getElem?_map] at hq
    cases hr : (List.range mm_aty.length)[k]? with
    | none => rw [hr] at hq; cases hq
    | some k' =>
      rw [hr] at hq
      obtain ⟨hlt, he⟩ := List.getElem?_eq_some_iff.mp hr
      have hk' : k = k' := by simpa using he
      subst hk'
      have hlt' : k < mm_aty.length := by simpa using hlt
      cases hq
      obtain ⟨ty, hty⟩ : ∃ ty, mm_aty[k]? = some ty := ⟨_, List.getElem?_eq_getElem hlt'⟩
      dsimp only
      rw [hty]
      exact hdA k ty hty
  · intro j q hj
    match j, hj with
    | 0, hj => cases hj; exact ⟨z0, T0⟩
    | 1, hj => cases hj; exact ⟨z1, T1⟩
    | n + 2, hj => simp [mm_sn] at hj
  · intro q hq
    simp only [exSt, List.mem_cons, List.not_mem_nil, or_false] at hq
    rcases hq with rfl | rfl
    · exact ⟨va_Zqof (args := #[Value.ref b]) (hts _ (by decide +kernel)) (hts _ (by decide +kernel)) (narrow_at hgv (by decide +kernel)) hA, laysSt_go (b0 := s.heap.size) rfl (fun a cell h1 h2 => absurd (Array.getElem?_eq_some_iff.mp h2).1 (by omega)) (fun _ _ => rfl) (hts _ (by decide +kernel))⟩
    · exact ⟨va_Zqof (args := #[Value.ref b]) (hts _ (by decide +kernel)) (hts _ (by decide +kernel)) (narrow_at hgv (by decide +kernel)) hA, laysSt_go (b0 := s.heap.size) rfl (fun a cell h1 h2 => absurd (Array.getElem?_eq_some_iff.mp h2).1 (by omega)) (fun _ _ => rfl) (hts _ (by decide +kernel))⟩
  · exact fun q hq => va_Nc.of (narrow_at hgv (nc_in q hq))
  · intro ty hty
    refine word_at (args := #[Value.ref b]) (State.WarmedH.refl s) (Or.inr ⟨_, rfl⟩) ?_
    simp only [mm_acl, List.mem_cons, List.not_mem_nil, or_false] at hty
    rcases hty with rfl | rfl | rfl <;> exact hts _ (by decide +kernel)
  · intro C hC
    simp only [mm_ao, List.mem_cons, List.not_mem_nil, or_false] at hC
    rcases hC with rfl | rfl | rfl <;> exact va_AO.of (hts _ (by decide +kernel))
  · intro q hq
    obtain ⟨a, _, _, _, h1, -⟩ := Cond.exactly_spec (narrow_at hgv (str_in q hq))
    exact ⟨a, vk_R.of (hts _ (str_tb q hq)) h1⟩
  · exact fun a cell h1 h2 => absurd (Array.getElem?_eq_some_iff.mp h2).1 (by have h1' : s.heap.size ≤ a := h1; omega)
/-- the law's end in the mini machine -/
def lawQ : Po := fun o _ _ _ => o = .inl (some (.int 1))
theorem start_open {Qz : Gw → Po} (hQz : ∀ (G : Gw) (o : Ou) (M : Mm) (sz sl : Nat), Qz G o M sz sl → lawQ o M sz sl) (hlaw : ∀ G : Gw, G.xl ≤ 4608 → Ev G 124 0 (loEnt 8 [.ref G.xa]) [] (fun _ => none) G.b0 0 2048 84000 (Qz G))
    {p : Program} {e : Env} {s : State} {m : MethodId} {below : List Frame} {meth : Method} {c : Code} (l : Launch) (hfl : l.flags = flags0) (hname : meth.name = "law") (htab : c.exceptionTable.toList = []) {b L : Nat} {xs : Nat → Int32} (hL : L ≤ 4608) (C0 : lw_At p s m meth c b L xs) : W p l e room_1 s m #[Value.ref b] below meth c s.heap [] 0 0 (lw_Z below #[Value.ref b] s) (entryFrame m ([Value.ref b] : List Value).toArray 8) := by
  obtain ⟨dA, sa, D, hE⟩ := en_start C0
  obtain ⟨hx, hb, hr, hml, hown, hts, hX, hbl, hlocks, hgv⟩ := C0
  have hj := hlaw (dA, sa, b, L, xs, s.heap.size) hL (Jd l (dA, sa, b, L, xs, s.heap.size) D) (Jd.closed hfl hk_all chk_all)
  have cx : Cx (dA, sa, b, L, xs, s.heap.size) D mi124 p s m meth c := ⟨hx, hb, hml, hr, hown, hlocks, hname, by rw [htab]; rfl, hE⟩
  have hP : Pic D s.heap.size s.heap.size (fun _ => none) s.heap := ⟨rfl, hE.2.2.2.2.2.2.2.2.2, fun a e h => by cases h⟩
  have hB : Bd (dA, sa, b, L, xs, s.heap.size) s s.heap [] s.heap.size 0 s.heap.size 0 := ⟨rfl, Nat.le_refl _, Nat.le_refl _, Nat.le_add_right _ _, Nat.zero_le _, va_S.rf⟩
  have K := hj mi124 rfl p e s m #[Value.ref b] below meth c s.heap [] _ s.heap.size 0 cx (lvR_entry [.ref b] (show (loArgs [Value.ref b]).length ≤ 8 from by simp [loArgs, Value.category])) hP hB
  have hroom : ({ frames := 2048, cells := s.heap.size + mm_mxC - s.heap.size, slots := mm_mxS - 0, locals := 84000 } : Room) = room_1 := by
    simp [room_1, mm_mxC, mm_mxS]
  have K2 := W.post K (Q' := lw_Z below #[Value.ref b] s) (fun t ht => by
    obtain ⟨o, u, M', sz', sl', L', b1, b2, b3, b4, b5, b6, b7, b8, b9, b10, b11, b12, b13⟩ := ht
    have hu : u = .inl (some (.int 1)) := hQz _ _ _ _ _ b4
    subst hu
    have ho : o = .returned (some (.int 1)) := b3
    subst ho
    refine ⟨_, b1, b2, rfl, ⟨_, rfl⟩, b6, ?_⟩
    refine b7.weaken (fun y hy hlt => ?_) ?_ ?_
    · have := b8 y hy
      have h' : s.heap.size ≤ y.base := this
      exact absurd hlt (Nat.not_lt.mpr h')
    · have h' : sz' ≤ s.heap.size + mm_mxC := b12
      have h'' : mm_mxC = 601024 := rfl
      show sz' - s.heap.size ≤ 601024
      omega
    · have h'' : mm_mxS = 7293034 := rfl
      have h' : sl' ≤ mm_mxS := b13
      show sl' - 0 ≤ 7293034
      omega)
  rw [lg_entry_eq]
  have h0 : s.heap.size - s.heap.size = 0 := Nat.sub_self _
  have h1 : (0 : Nat) - 0 = 0 := rfl
  rw [h0, h1] at K2
  rw [← hroom]
  exact K2
