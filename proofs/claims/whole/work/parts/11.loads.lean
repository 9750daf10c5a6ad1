/-! LOADS, STORES, MAKINGS, BRANCHES, ENDS -/
section CL
variable {l : Launch} {G : Gw} {D : va_G} {y pc : Nat} {ls : Lo} {r : List Value} {M : Mm} {sz sl fr lo : Nat} {Q : Po} {mi : Mi}
variable {p : Program} {e : Env} {s : State} {m : MethodId} {args : Array Value} {below : List Frame} {meth : Method} {c : Code} {H : Heap} {locs : List Loc} {arr : Array Slot} {sz0 sl0 : Nat}
theorem j_if {cd : ClassFile.Cond} {o : Int} {v : Int32} (hmi : mm_pr y = some mi) (cx : Cx G D mi p s m meth c) (hl : lvR arr mi.mL ls) (hP : Pic D G.b0 sz M H) (hB : Bd G s H locs sz0 sl0 sz sl) (hd : decode mi.by pc = .ok (.ifCond cd o, 3)) (h0 : 0 ≤ (pc : Int) + o) (k1 : cndZ cd v → Jd l G D y (tgt pc o) ls r M sz sl fr lo Q) (k2 : ¬ cndZ cd v → Jd l G D y (pc + 3) ls r M sz sl fr lo Q) :
    W p l e { frames := fr, cells := G.b0 + mm_mxC - sz0, slots := mm_mxS - sl0, locals := lo } s m args below meth c H locs (sz - sz0) (sl - sl0) (EndQ G D below s sz0 sl0 Q) (F0 m pc arr (.int v :: r)) := by
  obtain ⟨hx, hb, -⟩ := id cx
  have ht := tgt_ok h0
  cases cd with
  | eq => exact lv_if_eq hx hb hd ht (fun h => k1 h mi hmi p e s m args below meth c H locs arr sz0 sl0 cx hl hP hB) (fun h => k2 h mi hmi p e s m args below meth c H locs arr sz0 sl0 cx hl hP hB)
  | ne => exact lv_if_ne hx hb hd ht (fun h => k1 h mi hmi p e s m args below meth c H locs arr sz0 sl0 cx hl hP hB) (fun h => k2 (fun q => q h) mi hmi p e s m args below meth c H locs arr sz0 sl0 cx hl hP hB)
  | lt => exact lv_if_lt hx hb hd ht (fun h => k1 h mi hmi p e s m args below meth c H locs arr sz0 sl0 cx hl hP hB) (fun h => k2 h mi hmi p e s m args below meth c H locs arr sz0 sl0 cx hl hP hB)
  | ge => exact lv_if_ge hx hb hd ht (fun h => k1 h mi hmi p e s m args below meth c H locs arr sz0 sl0 cx hl hP hB) (fun h => k2 h mi hmi p e s m args below meth c H locs arr sz0 sl0 cx hl hP hB)
  | gt => exact lv_if_gt hx hb hd ht (fun h => k1 h mi hmi p e s m args below meth c H locs arr sz0 sl0 cx hl hP hB) (fun h => k2 h mi hmi p e s m args below meth c H locs arr sz0 sl0 cx hl hP hB)
  | le => exact lv_if_le hx hb hd ht (fun h => k1 h mi hmi p e s m args below meth c H locs arr sz0 sl0 cx hl hP hB) (fun h => k2 h mi hmi p e s m args below meth c H locs arr sz0 sl0 cx hl hP hB)
theorem j_icmp {cd : ClassFile.Cond} {o : Int} {v u : Int32} (hmi : mm_pr y = some mi) (cx : Cx G D mi p s m meth c) (hl : lvR arr mi.mL ls) (hP : Pic D G.b0 sz M H) (hB : Bd G s H locs sz0 sl0 sz sl) (hd : decode mi.by pc = .ok (.if_icmp cd o, 3)) (h0 : 0 ≤ (pc : Int) + o) (k1 : cndI cd u v → Jd l G D y (tgt pc o) ls r M sz sl fr lo Q) (k2 : ¬ cndI cd u v → Jd l G D y (pc + 3) ls r M sz sl fr lo Q) :
    W p l e { frames := fr, cells := G.b0 + mm_mxC - sz0, slots := mm_mxS - sl0, locals := lo } s m args below meth c H locs (sz - sz0) (sl - sl0) (EndQ G D below s sz0 sl0 Q) (F0 m pc arr (.int v :: .int u :: r)) := by
  obtain ⟨hx, hb, -⟩ := id cx
  have ht := tgt_ok h0
  cases cd with
  | eq => exact lv_icmp_eq hx hb hd ht (fun h => k1 h mi hmi p e s m args below meth c H locs arr sz0 sl0 cx hl hP hB) (fun h => k2 h mi hmi p e s m args below meth c H locs arr sz0 sl0 cx hl hP hB)
  | ne => exact lv_icmp_ne hx hb hd ht (fun h => k1 h mi hmi p e s m args below meth c H locs arr sz0 sl0 cx hl hP hB) (fun h => k2 (fun q => q h) mi hmi p e s m args below meth c H locs arr sz0 sl0 cx hl hP hB)
  | lt => exact lv_icmp_lt hx hb hd ht (fun h => k1 h mi hmi p e s m args below meth c H locs arr sz0 sl0 cx hl hP hB) (fun h => k2 h mi hmi p e s m args below meth c H locs arr sz0 sl0 cx hl hP hB)
  | ge => exact lv_icmp_ge hx hb hd ht (fun h => k1 h mi hmi p e s m args below meth c H locs arr sz0 sl0 cx hl hP hB) (fun h => k2 h mi hmi p e s m args below meth c H locs arr sz0 sl0 cx hl hP hB)
  | gt => exact lv_icmp_gt hx hb hd ht (fun h => k1 h mi hmi p e s m args below meth c H locs arr sz0 sl0 cx hl hP hB) (fun h => k2 h mi hmi p e s m args below meth c H locs arr sz0 sl0 cx hl hP hB)
  | le => exact lv_icmp_le hx hb hd ht (fun h => k1 h mi hmi p e s m args below meth c H locs arr sz0 sl0 cx hl hP hB) (fun h => k2 h mi hmi p e s m args below meth c H locs arr sz0 sl0 cx hl hP hB)
theorem j_get {i x z a : Nat} {fs : List Value} {v : Value} (hmi : mm_pr y = some mi) (cx : Cx G D mi p s m meth c) (hl : lvR arr mi.mL ls) (hP : Pic D G.b0 sz M H) (hB : Bd G s H locs sz0 sl0 sz sl) (hd : decode mi.by pc = .ok (.getfield i, 3)) (hk : ∃ C T N, mm_cl[x]? = some (C, T, N) ∧ z < N ∧ lnkP mi.nm.cls i T z) (hM : M a = some (.inr (x, fs))) (hv : fs[z]? = some v) (k1 : Jd l G D y (pc + 3) ls (v :: r) M sz sl fr lo Q) :
    W p l e { frames := fr, cells := G.b0 + mm_mxC - sz0, slots := mm_mxS - sl0, locals := lo } s m args below meth c H locs (sz - sz0) (sl - sl0) (EndQ G D below s sz0 sl0 Q) (F0 m pc arr (.ref a :: r)) := by
  obtain ⟨hx, hb, -, -, hown, -, -, -, hE⟩ := id cx
  obtain ⟨C, T, N, hc, hz, hL⟩ := hk
  obtain ⟨hin, -⟩ := mm_clOk x C T N hc
  have kk := k1 mi hmi p e s m args below meth c H locs arr sz0 sl0 cx hl hP hB
  rcases hL with hL | ⟨host, hL⟩
  · exact va_get (D := D) (ci := x) (C := C) (T := T) (N := N) hx hb hE.w hin hown hE.2.1 (hP.one hM) 0 rfl hc z hz (hE.w _ hL) (fun _ h => h) hv hd kk
  · exact va_getN (D := D) (ci := x) (C := C) (T := T) (N := N) hx hb hE.w hin hown hE.2.1 (hP.one hM) 0 rfl hc z hz (hE.w _ hL) (fun _ h => h) hv hd kk
theorem Bd.put {H1 : Heap} {a k : Nat} (hB : Bd G s H locs sz0 sl0 sz sl) (z : H1.size = H.size) (oq : ∀ q : Nat, q ≠ a → H1[q]? = H[q]?) (ha : G.b0 ≤ a) : Bd G s H1 (locs ++ [⟨a, k⟩]) sz0 sl0 sz sl := by
  obtain ⟨h1, h2, h3, h4, h5, h6⟩ := hB
  exact ⟨h1, h2, h3, h4, h5, va_S.put h6 z oq ha⟩
theorem j_put {i x z a : Nat} {fs : List Value} {v : Value} (hmi : mm_pr y = some mi) (cx : Cx G D mi p s m meth c) (hl : lvR arr mi.mL ls) (hP : Pic D G.b0 sz M H) (hB : Bd G s H locs sz0 sl0 sz sl) (hd : decode mi.by pc = .ok (.putfield i, 3))
    (hk : ∃ C T N, mm_cl[x]? = some (C, T, N) ∧ z < N ∧ (((T z).2.2.2 = false ∧ lnkP mi.nm.cls i T z) ∨ ((T z).2.2.2 = true ∧ Jvm.Cond.fieldLink mi.nm.cls i (T z).1 (T z).2.1 (T z).2.2.1 ∈ mm_tw ∧ mi.nm.name = "<init>" ∧ (T z).1 = mi.nm.cls)))
    (hM : M a = some (.inr (x, fs))) (hzl : z < fs.length) (hn : narrow (mm_fty x z) v = v) (hf : fits (mm_fty x z) v = true) (k1 : Jd l G D y (pc + 3) ls r (mUp M a (.inr (x, fs.set z v))) sz sl fr lo Q) :
    W p l e { frames := fr, cells := G.b0 + mm_mxC - sz0, slots := mm_mxS - sl0, locals := lo } s m args below meth c H locs (sz - sz0) (sl - sl0) (EndQ G D below s sz0 sl0 Q) (F0 m pc arr (v :: .ref a :: r)) := by
  obtain ⟨hx, hb, -, -, hown, -, hname, -, hE⟩ := id cx
  obtain ⟨C, T, N, hc, hz, hL⟩ := hk
  obtain ⟨hin, hty, hnm, -⟩ := mm_clOk x C T N hc
  have hts := hE.w (args := args)
  have hK := hE.2.1
  obtain ⟨hba, hat⟩ := hP.2.2 a _ hM
  have hap := va_apart (own := mi.nm.cls) hts hin (mm_fty x) hty hnm hK hc
  obtain ⟨r0, h1, cell, q1, q2, q3, q4⟩ := hat
  have hr : r0 = (C, T, N) := Option.some.inj (h1.symm.trans hc)
  subst hr
  obtain ⟨hS, hfc, kC, hkC, hkind⟩ := hK.1 x _ hc
  obtain ⟨cf, kf, fi, f, hi, hsl⟩ := hS z hz
  have hst := (u_facts hfc hkC (u_lays hts hin hz) hi).1
  have hd' := hty z hz
  have fin : ∀ H' : Heap, H'[a]? = some (cell.setSlot f.slot v) → H'.size = H.size → (∀ q, q ≠ a → H'[q]? = H[q]?) → W p l e { frames := fr, cells := G.b0 + mm_mxC - sz0, slots := mm_mxS - sl0, locals := lo } s m args below meth c H' (locs ++ [⟨a, f.slot⟩]) (sz - sz0) (sl - sl0) (EndQ G D below s sz0 sl0 Q) (F0 m (pc + 3) arr r) := by
    intro H' e1 e2 e3
    rw [hsl] at e1
    refine k1 mi hmi p e s m args below meth c H' _ arr sz0 sl0 cx hl (hP.put hM e2 e3 ?_) (hB.put e2 e3 hba)
    exact ⟨_, hc, t_OB.to (V := updV (vp_V fs) z v) ⟨_, e1, q2, q3, t_set q4 hap hz v⟩ (fun j _ => vp_updV_set hzl v j)⟩
  have hlay := hts _ (hin _ (u_in_lay hz))
  unfold u_lay at hlay
  rcases hL with ⟨hfin, hL⟩ | ⟨hfin, hL, hin2, hdecl⟩
  · rw [if_neg (by rw [hfin]; decide)] at hlay
    have h6 := u_store hfc hkC hkind hlay hi hd' hn hf
    rcases hL with hL | ⟨host, hL⟩
    · exact W.putK hx hb (f := f) ⟨hown, hts _ hL, ⟨_, _, _, hi⟩, hst⟩ (by rw [q2]; exact h6) q1 q3 (by rw [hsl]; exact k2_hasslot (q4 z hz)) rfl rfl hd fin
    · exact va_WputK hx hb (f := f) hown (hts _ hL) hi hst (by rw [q2]; exact h6) q1 q3 (by rw [hsl]; exact k2_hasslot (q4 z hz)) rfl rfl hd fin
  · rw [if_pos hfin] at hlay
    have hcf : m.cls = cf := by
      obtain ⟨_, _, c', _, _, _, -, -, hf', -, -, -, hown2, -⟩ := Cond.laysFinal_spec hlay
      have e1 : c' = cf := by have := hi.symm.trans hf'; simp at this; exact this.1.symm
      rw [hdecl] at hown2
      rw [← e1]; exact Option.some.inj (hown.symm.trans hown2)
    have h6 := u_fits hfc hkC hkind (Or.inr hlay) hi hd' hn hf
    exact W.putFinK hx hb hown (hts _ hL) hi hst hcf (hname.trans hin2) (by rw [q2]; exact h6) q1 q3 (by rw [hsl]; exact k2_hasslot (q4 z hz)) rfl rfl hd fin
theorem j_iald {x a n : Nat} {i : Int32} {f : Nat → Int32} (hmi : mm_pr y = some mi) (cx : Cx G D mi p s m meth c) (hl : lvR arr mi.mL ls) (hP : Pic D G.b0 sz M H) (hB : Bd G s H locs sz0 sl0 sz sl) (hd : decode mi.by pc = .ok (.iaload, 1)) (hk : mm_aty[x]? = some .int) (hM : M a = some (.inl (G.dA x, n, .inl f))) (hi : vp_in i n) (k1 : Jd l G D y (pc + 1) ls (.int (f i.toNatClampNeg) :: r) M sz sl fr lo Q) :
    W p l e { frames := fr, cells := G.b0 + mm_mxC - sz0, slots := mm_mxS - sl0, locals := lo } s m args below meth c H locs (sz - sz0) (sl - sl0) (EndQ G D below s sz0 sl0 Q) (F0 m pc arr (.int i :: .ref a :: r)) := by
  obtain ⟨hx, hb, -, -, -, -, -, -, hE⟩ := id cx
  exact va_iald hx hb hE.2.1 (hP.one hM) 0 x rfl (tysOf_at hk) hi hd (k1 mi hmi p e s m args below meth c H locs arr sz0 sl0 cx hl hP hB)
theorem j_lald {x a n : Nat} {i : Int32} {f : Nat → Int64} (hmi : mm_pr y = some mi) (cx : Cx G D mi p s m meth c) (hl : lvR arr mi.mL ls) (hP : Pic D G.b0 sz M H) (hB : Bd G s H locs sz0 sl0 sz sl) (hd : decode mi.by pc = .ok (.laload, 1)) (hk : mm_aty[x]? = some .long) (hM : M a = some (.inl (G.dA x, n, .inr (.inl f)))) (hi : vp_in i n) (k1 : Jd l G D y (pc + 1) ls (.long (f i.toNatClampNeg) :: r) M sz sl fr lo Q) :
    W p l e { frames := fr, cells := G.b0 + mm_mxC - sz0, slots := mm_mxS - sl0, locals := lo } s m args below meth c H locs (sz - sz0) (sl - sl0) (EndQ G D below s sz0 sl0 Q) (F0 m pc arr (.int i :: .ref a :: r)) := by
  obtain ⟨hx, hb, -, -, -, -, -, -, hE⟩ := id cx
  exact va_lald hx hb hE.2.1 (hP.one hM) 0 x rfl (tysOf_at hk) hi hd (k1 mi hmi p e s m args below meth c H locs arr sz0 sl0 cx hl hP hB)
theorem j_bald {x a n : Nat} {i : Int32} {f : Nat → Int32} (hmi : mm_pr y = some mi) (cx : Cx G D mi p s m meth c) (hl : lvR arr mi.mL ls) (hP : Pic D G.b0 sz M H) (hB : Bd G s H locs sz0 sl0 sz sl) (hd : decode mi.by pc = .ok (.baload, 1)) (hk : mm_aty[x]? = some .boolean) (hM : M a = some (.inl (G.dA x, n, .inl f))) (hi : vp_in i n) (k1 : Jd l G D y (pc + 1) ls (.int (f i.toNatClampNeg) :: r) M sz sl fr lo Q) :
    W p l e { frames := fr, cells := G.b0 + mm_mxC - sz0, slots := mm_mxS - sl0, locals := lo } s m args below meth c H locs (sz - sz0) (sl - sl0) (EndQ G D below s sz0 sl0 Q) (F0 m pc arr (.int i :: .ref a :: r)) := by
  obtain ⟨hx, hb, -, -, -, -, -, -, hE⟩ := id cx
  exact va_zald hx hb hE.2.1 (hP.one hM) 0 x rfl (tysOf_at hk) hi hd (k1 mi hmi p e s m args below meth c H locs arr sz0 sl0 cx hl hP hB)
theorem j_aald {x a n : Nat} {C : String} {i : Int32} {f : Nat → Option Nat} (hmi : mm_pr y = some mi) (cx : Cx G D mi p s m meth c) (hl : lvR arr mi.mL ls) (hP : Pic D G.b0 sz M H) (hB : Bd G s H locs sz0 sl0 sz sl) (hd : decode mi.by pc = .ok (.aaload, 1)) (hk : mm_aty[x]? = some (.object C)) (hM : M a = some (.inl (G.dA x, n, .inr (.inr (.inr (.inr f)))))) (hi : vp_in i n) (k1 : Jd l G D y (pc + 1) ls (va_rf (f i.toNatClampNeg) :: r) M sz sl fr lo Q) :
    W p l e { frames := fr, cells := G.b0 + mm_mxC - sz0, slots := mm_mxS - sl0, locals := lo } s m args below meth c H locs (sz - sz0) (sl - sl0) (EndQ G D below s sz0 sl0 Q) (F0 m pc arr (.int i :: .ref a :: r)) := by
  obtain ⟨hx, hb, -, -, -, -, -, -, hE⟩ := id cx
  exact va_aldq hx hb hE.2.1 (hP.one hM) 0 x rfl (tysOf_at hk) hi hd (k1 mi hmi p e s m args below meth c H locs arr sz0 sl0 cx hl hP hB)
theorem j_iast {x a n : Nat} {i v : Int32} {f : Nat → Int32} (hmi : mm_pr y = some mi) (cx : Cx G D mi p s m meth c) (hl : lvR arr mi.mL ls) (hP : Pic D G.b0 sz M H) (hB : Bd G s H locs sz0 sl0 sz sl) (hd : decode mi.by pc = .ok (.iastore, 1)) (hk : mm_aty[x]? = some .int) (hM : M a = some (.inl (G.dA x, n, .inl f))) (hi : vp_in i n) (k1 : Jd l G D y (pc + 1) ls r (mUp M a (.inl (G.dA x, n, .inl (upd f i.toNatClampNeg v)))) sz sl fr lo Q) :
    W p l e { frames := fr, cells := G.b0 + mm_mxC - sz0, slots := mm_mxS - sl0, locals := lo } s m args below meth c H locs (sz - sz0) (sl - sl0) (EndQ G D below s sz0 sl0 Q) (F0 m pc arr (.int v :: .int i :: .ref a :: r)) := by
  obtain ⟨hx, hb, -, -, -, -, -, -, hE⟩ := id cx
  obtain ⟨hba, hat⟩ := hP.2.2 a _ hM
  refine W.iast hx hb hat ((hE.2.1.2 x _ (tysOf_at hk)).1 n (fun j => .int (f j))) (fun q => by cases q) (by show ¬ (i < 0 ∨ (arrV _ _ _).slots.size ≤ _); rw [arrV_size]; exact hi) rfl rfl hd fun H1 e1 z1 oq => ?_
  refine k1 mi hmi p e s m args below meth c H1 _ arr sz0 sl0 cx hl (hP.put hM z1 oq ?_) (hB.put z1 oq hba)
  show H1[a]? = some (vp_cell _ _)
  rw [e1, vp_cell_i, vp_cell_i, arrV_store]
  congr 2
  funext q
  by_cases hq : q = i.toNatClampNeg
  · subst hq
    simp [updV, upd]
  · simp [updV, upd, hq]
theorem j_bast {x a n : Nat} {i v : Int32} {f : Nat → Int32} (hmi : mm_pr y = some mi) (cx : Cx G D mi p s m meth c) (hl : lvR arr mi.mL ls) (hP : Pic D G.b0 sz M H) (hB : Bd G s H locs sz0 sl0 sz sl) (hd : decode mi.by pc = .ok (.bastore, 1)) (hk : mm_aty[x]? = some .boolean) (hM : M a = some (.inl (G.dA x, n, .inl f))) (hi : vp_in i n) (hv : vp_nar .boolean v = v) (k1 : Jd l G D y (pc + 1) ls r (mUp M a (.inl (G.dA x, n, .inl (upd f i.toNatClampNeg v)))) sz sl fr lo Q) :
    W p l e { frames := fr, cells := G.b0 + mm_mxC - sz0, slots := mm_mxS - sl0, locals := lo } s m args below meth c H locs (sz - sz0) (sl - sl0) (EndQ G D below s sz0 sl0 Q) (F0 m pc arr (.int v :: .int i :: .ref a :: r)) := by
  obtain ⟨hx, hb, -, -, -, -, -, -, hE⟩ := id cx
  obtain ⟨hba, hat⟩ := hP.2.2 a _ hM
  refine W.zast hx hb hat ((hE.2.1.2 x _ (tysOf_at hk)).1 n (fun j => .int (f j))) (fun q => by cases q) (by show ¬ (i < 0 ∨ (arrV _ _ _).slots.size ≤ _); rw [arrV_size]; exact hi) rfl rfl hd fun H1 e1 z1 oq => ?_
  refine k1 mi hmi p e s m args below meth c H1 _ arr sz0 sl0 cx hl (hP.put hM z1 oq ?_) (hB.put z1 oq hba)
  show H1[a]? = some (vp_cell _ _)
  have hv' : narrow .boolean (.int v) = .int v := by
    have h1 : v &&& 1 = v := by simpa [vp_nar, narrow] using hv
    simp [narrow, h1]
  rw [e1, vp_cell_i, vp_cell_i, arrV_store, hv']
  congr 2
  funext q
  by_cases hq : q = i.toNatClampNeg
  · subst hq
    simp [updV, upd]
  · simp [updV, upd, hq]
theorem j_last {x a n : Nat} {i : Int32} {v : Int64} {f : Nat → Int64} (hmi : mm_pr y = some mi) (cx : Cx G D mi p s m meth c) (hl : lvR arr mi.mL ls) (hP : Pic D G.b0 sz M H) (hB : Bd G s H locs sz0 sl0 sz sl) (hd : decode mi.by pc = .ok (.lastore, 1)) (hk : mm_aty[x]? = some .long) (hM : M a = some (.inl (G.dA x, n, .inr (.inl f)))) (hi : vp_in i n) (k1 : Jd l G D y (pc + 1) ls r (mUp M a (.inl (G.dA x, n, .inr (.inl (vp_updL f i.toNatClampNeg v))))) sz sl fr lo Q) :
    W p l e { frames := fr, cells := G.b0 + mm_mxC - sz0, slots := mm_mxS - sl0, locals := lo } s m args below meth c H locs (sz - sz0) (sl - sl0) (EndQ G D below s sz0 sl0 Q) (F0 m pc arr (.long v :: .int i :: .ref a :: r)) := by
  obtain ⟨hx, hb, -, -, -, -, -, -, hE⟩ := id cx
  obtain ⟨hba, hat⟩ := hP.2.2 a _ hM
  refine W.last hx hb hat ((hE.2.1.2 x _ (tysOf_at hk)).1 n (fun j => .long (f j))) (fun q => by cases q) (by show ¬ (i < 0 ∨ (arrV _ _ _).slots.size ≤ _); rw [arrV_size]; exact hi) rfl rfl hd fun H1 e1 z1 oq => ?_
  refine k1 mi hmi p e s m args below meth c H1 _ arr sz0 sl0 cx hl (hP.put hM z1 oq ?_) (hB.put z1 oq hba)
  show H1[a]? = some (vp_cell _ _)
  rw [e1, vp_cell_l, vp_cell_l, arrV_store]
  congr 2
  funext q
  by_cases hq : q = i.toNatClampNeg
  · subst hq
    simp [updV, vp_updL]
  · simp [updV, vp_updL, hq]
theorem j_aast {x z a n v N : Nat} {C : String} {T : u_T} {i : Int32} {fs : List Value} {f : Nat → Option Nat} (hmi : mm_pr y = some mi) (cx : Cx G D mi p s m meth c) (hl : lvR arr mi.mL ls) (hP : Pic D G.b0 sz M H) (hB : Bd G s H locs sz0 sl0 sz sl) (hd : decode mi.by pc = .ok (.aastore, 1)) (hk : mm_aty[x]? = some (.object C)) (hc : mm_cl[z]? = some (C, T, N)) (hM : M a = some (.inl (G.dA x, n, .inr (.inr (.inr (.inr f)))))) (hi : vp_in i n) (hv : M v = some (.inr (z, fs))) (k1 : Jd l G D y (pc + 1) ls r (mUp M a (.inl (G.dA x, n, .inr (.inr (.inr (.inr (va_up f i.toNatClampNeg (some v)))))))) sz sl fr lo Q) :
    W p l e { frames := fr, cells := G.b0 + mm_mxC - sz0, slots := mm_mxS - sl0, locals := lo } s m args below meth c H locs (sz - sz0) (sl - sl0) (EndQ G D below s sz0 sl0 Q) (F0 m pc arr (.ref v :: .int i :: .ref a :: r)) := by
  obtain ⟨hx, hb, -, -, -, -, -, -, hE⟩ := id cx
  obtain ⟨hba, hat⟩ := hP.2.2 a _ hM
  have hlt : i.toNatClampNeg < n := Nat.not_le.mp fun q => hi (Or.inr q)
  have h0 : ¬ i < 0 := fun q => hi (Or.inl q)
  obtain ⟨r', hr', cellV, g1, g2, g3, -⟩ := (hP.2.2 v _ hv).2
  have hcls := (hE.2.1.1 z _ hc).2
  obtain ⟨kA, comp, k1', k2', k3', -⟩ := (hE.2.1.2 x _ (tysOf_at hk)).2
  have hcomp : comp = D.1 z := Option.some.inj (k3'.symm.trans hcls.1)
  subst hcomp
  obtain ⟨kC, hkC, -⟩ := hcls.2
  refine W.aast hx hb hat (fun q h => by cases h) (fun h => by cases h) k1' k2' rfl hkC ⟨h0, by show _ < (arrV _ _ _).slots.size; rw [arrV_size]; exact hlt⟩ g1 (fun q h => by rw [g3] at h; cases h) (by rw [g2]; exact hkC) (by rw [g2]; exact va_assign hcls) rfl rfl hd fun H1 e1 z1 oq => ?_
  refine k1 mi hmi p e s m args below meth c H1 _ arr sz0 sl0 cx hl (hP.put hM z1 oq ?_) (hB.put z1 oq hba)
  show H1[a]? = some (vp_cell _ _)
  rw [e1, vp_cell_q, vp_cell_q, arrV_store]
  congr 2
  funext q
  by_cases hq : q = i.toNatClampNeg
  · subst hq
    simp [updV, va_up, va_rf]
  · simp [updV, va_up, hq]
theorem j_alen {x a : Nat} {ty : FieldType} {v : vp_A} (hmi : mm_pr y = some mi) (cx : Cx G D mi p s m meth c) (hl : lvR arr mi.mL ls) (hP : Pic D G.b0 sz M H) (hB : Bd G s H locs sz0 sl0 sz sl) (hd : decode mi.by pc = .ok (.arraylength, 1)) (hk : mm_aty[x]? = some ty) (hM : M a = some (.inl (G.dA x, v))) (k1 : Jd l G D y (pc + 1) ls (.int (Int32.ofNat v.1) :: r) M sz sl fr lo Q) :
    W p l e { frames := fr, cells := G.b0 + mm_mxC - sz0, slots := mm_mxS - sl0, locals := lo } s m args below meth c H locs (sz - sz0) (sl - sl0) (EndQ G D below s sz0 sl0 Q) (F0 m pc arr (.ref a :: r)) := by
  obtain ⟨hx, hb, -, -, -, -, -, -, hE⟩ := id cx
  exact va_alen hx hb hE.2.1 (hP.one hM) 0 x rfl (tysOf_at hk) rfl hd (k1 mi hmi p e s m args below meth c H locs arr sz0 sl0 cx hl hP hB)
end CL
