/-! STATIC TABLES, THE SCRIPT, MAKINGS, ENDS -/
section CM
variable {l : Launch} {G : Gw} {D : va_G} {y pc : Nat} {ls : Lo} {r : List Value} {M : Mm} {sz sl fr lo : Nat} {Q : Po} {mi : Mi}
variable {p : Program} {e : Env} {s : State} {m : MethodId} {args : Array Value} {below : List Frame} {meth : Method} {c : Code} {H : Heap} {locs : List Loc} {arr : Array Slot} {sz0 sl0 : Nat}
theorem j_gets {i x : Nat} {q : String × String × String} (hmi : mm_pr y = some mi) (cx : Cx G D mi p s m meth c) (hl : lvR arr mi.mL ls) (hP : Pic D G.b0 sz M H) (hB : Bd G s H locs sz0 sl0 sz sl) (hd : decode mi.by pc = .ok (.getstatic i, 3)) (hk : mm_sn[x]? = some q) (hL : Jvm.Cond.fieldLink mi.nm.cls i q.1 q.2.1 q.2.2 ∈ mm_tw ∨ ∃ host : String, Jvm.Cond.fieldLinkNest mi.nm.cls i q.1 q.2.1 q.2.2 host ∈ mm_tw) (k1 : Jd l G D y (pc + 3) ls (.ref (G.sa x) :: r) M sz sl fr lo Q) :
    W p l e { frames := fr, cells := G.b0 + mm_mxC - sz0, slots := mm_mxS - sl0, locals := lo } s m args below meth c H locs (sz - sz0) (sl - sl0) (EndQ G D below s sz0 sl0 Q) (F0 m pc arr r) := by
  obtain ⟨hx, hb, -, -, hown, -, -, -, hE⟩ := id cx
  have kk := k1 mi hmi p e s m args below meth c H locs arr sz0 sl0 cx hl hP hB
  rcases hL with hL | ⟨host, hL⟩
  · exact va_gets hx hb (hE.2.2.1 x q hk).1 hB.2.2.2.2.2 hown (hE.w _ hL) (fun _ h => h) hd kk
  · exact va_getsN hx hb (hE.2.2.1 x q hk).1 hB.2.2.2.2.2 hown (hE.w _ hL) (fun _ h => h) hd kk
theorem j_iaS {x : Nat} {i : Int32} {q : String × String × String} (hmi : mm_pr y = some mi) (cx : Cx G D mi p s m meth c) (hl : lvR arr mi.mL ls) (hP : Pic D G.b0 sz M H) (hB : Bd G s H locs sz0 sl0 sz sl) (hd : decode mi.by pc = .ok (.iaload, 1)) (hk : mm_sn[x]? = some q) (hi : vp_in i (mm_sv x).1) (k1 : Jd l G D y (pc + 1) ls (.int ((mm_sv x).2 i.toNatClampNeg) :: r) M sz sl fr lo Q) :
    W p l e { frames := fr, cells := G.b0 + mm_mxC - sz0, slots := mm_mxS - sl0, locals := lo } s m args below meth c H locs (sz - sz0) (sl - sl0) (EndQ G D below s sz0 sl0 Q) (F0 m pc arr (.int i :: .ref (G.sa x) :: r)) := by
  obtain ⟨hx, hb, -, -, -, -, -, -, hE⟩ := id cx
  exact va_ti hx hb (hE.2.2.1 x q hk).2 hB.2.2.2.2.2 hi rfl hd (k1 mi hmi p e s m args below meth c H locs arr sz0 sl0 cx hl hP hB)
theorem j_iaX {i : Int32} (hmi : mm_pr y = some mi) (cx : Cx G D mi p s m meth c) (hl : lvR arr mi.mL ls) (hP : Pic D G.b0 sz M H) (hB : Bd G s H locs sz0 sl0 sz sl) (hd : decode mi.by pc = .ok (.iaload, 1)) (hi : vp_in i G.xl) (k1 : Jd l G D y (pc + 1) ls (.int (G.xs i.toNatClampNeg) :: r) M sz sl fr lo Q) :
    W p l e { frames := fr, cells := G.b0 + mm_mxC - sz0, slots := mm_mxS - sl0, locals := lo } s m args below meth c H locs (sz - sz0) (sl - sl0) (EndQ G D below s sz0 sl0 Q) (F0 m pc arr (.int i :: .ref G.xa :: r)) := by
  obtain ⟨hx, hb, -, -, -, -, -, -, hE⟩ := id cx
  obtain ⟨-, -, -, -, -, -, hX, hxa, hsz, -⟩ := hE
  exact va_sld hx hb hX (by omega) (fun q => by omega) hB.2.2.2.2.2 hi hd (k1 mi hmi p e s m args below meth c H locs arr sz0 sl0 cx hl hP hB)
theorem j_alenX (hmi : mm_pr y = some mi) (cx : Cx G D mi p s m meth c) (hl : lvR arr mi.mL ls) (hP : Pic D G.b0 sz M H) (hB : Bd G s H locs sz0 sl0 sz sl) (hd : decode mi.by pc = .ok (.arraylength, 1)) (k1 : Jd l G D y (pc + 1) ls (.int (Int32.ofNat G.xl) :: r) M sz sl fr lo Q) :
    W p l e { frames := fr, cells := G.b0 + mm_mxC - sz0, slots := mm_mxS - sl0, locals := lo } s m args below meth c H locs (sz - sz0) (sl - sl0) (EndQ G D below s sz0 sl0 Q) (F0 m pc arr (.ref G.xa :: r)) := by
  obtain ⟨hx, hb, -, -, -, -, -, -, hE⟩ := id cx
  obtain ⟨-, -, -, -, -, -, hX, hxa, hsz, -⟩ := hE
  exact va_slen hx hb hX (by omega) (fun q => by omega) hB.2.2.2.2.2 hd (k1 mi hmi p e s m args below meth c H locs arr sz0 sl0 cx hl hP hB)
theorem Bd.push {H1 : Heap} {n : Nat} (hB : Bd G s H locs sz0 sl0 sz sl) (hH : H.size = sz) (z : H1.size = sz + 1) (oq : ∀ q : Nat, q < sz → H1[q]? = H[q]?) (h1 : sz + 1 ≤ G.b0 + mm_mxC) (h2 : sl + n ≤ mm_mxS) : Bd G s H1 locs sz0 sl0 (sz + 1) (sl + n) := by
  obtain ⟨g1, g2, g3, g4, g5, g6⟩ := hB
  refine ⟨g1, by omega, by omega, h1, h2, by have := g6.1; omega, fun q hq hA => ?_, g6.2.2⟩
  rw [oq q (by omega)]
  exact g6.2.1 q hq hA
theorem j_new {i x N : Nat} {C : String} {T : u_T} (hmi : mm_pr y = some mi) (cx : Cx G D mi p s m meth c) (hl : lvR arr mi.mL ls) (hP : Pic D G.b0 sz M H) (hB : Bd G s H locs sz0 sl0 sz sl) (hd : decode mi.by pc = .ok (.new i, 3)) (hc : mm_cl[x]? = some (C, T, N)) (hL : Jvm.Cond.classLink mi.nm.cls i C ∈ mm_tw) (h1 : sz + 1 ≤ G.b0 + mm_mxC) (h2 : sl + (obDf x).length ≤ mm_mxS) (k1 : Jd l G D y (pc + 3) ls (.ref sz :: r) (mUp M sz (.inr (x, obDf x))) (sz + 1) (sl + (obDf x).length) fr lo Q) :
    W p l e { frames := fr, cells := G.b0 + mm_mxC - sz0, slots := mm_mxS - sl0, locals := lo } s m args below meth c H locs (sz - sz0) (sl - sl0) (EndQ G D below s sz0 sl0 Q) (F0 m pc arr r) := by
  obtain ⟨hx, hb, -, -, hown, -, -, -, hE⟩ := id cx
  obtain ⟨hin, hty, hnm, hins, hini⟩ := mm_clOk x C T N hc
  have hts := hE.w (args := args)
  have hKn := hE.2.1.1 x _ hc
  have hlen : (obDf x).length = N := by simp [obDf, hc]
  have g0 := hB.1
  have g1 := hB.2.1
  have g2 := hB.2.2.1
  refine W.newcK (n := N) hx hb hown (hts _ hL) (hts _ hins) (hts _ hini) rfl hd (by show sz - sz0 + 1 ≤ G.b0 + mm_mxC - sz0; omega) (by show sl - sl0 + N ≤ mm_mxS - sl0; omega) hKn.2.1 hP.1 fun H1 kC hkC e1 z1 o1 => ?_
  have hb0 : G.b0 ≤ sz := Nat.le_trans (Nat.le_trans hE.2.2.2.2.2.2.2.2.1 (Nat.le_of_eq g0)) g1
  have kk := k1 mi hmi p e s m args below meth c H1 locs arr sz0 sl0 cx hl (hP.push hb0 z1 o1 ⟨_, hc, (u_born (mm_fty x) hts hin hKn hkC e1 hty).to (fun j hj => by simp [vp_V, obDf, hc, hj])⟩) (hB.push hP.1 z1 o1 h1 h2)
  have ea : sz + 1 - sz0 = sz - sz0 + 1 := by omega
  have eb : sl + (obDf x).length - sl0 = sl - sl0 + N := by omega
  rw [ea, eb] at kk
  exact kk
theorem j_newa {t : ArrayType} {x : Nat} {n : Int32} (hmi : mm_pr y = some mi) (cx : Cx G D mi p s m meth c) (hl : lvR arr mi.mL ls) (hP : Pic D G.b0 sz M H) (hB : Bd G s H locs sz0 sl0 sz sl) (hd : decode mi.by pc = .ok (.newarray t, 2)) (hk : mm_aty[x]? = some (Op.newarray.typeOf t)) (hac : Op.newarray.typeOf t ∈ mm_acl) (hty : Op.newarray.typeOf t = .int ∨ Op.newarray.typeOf t = .long ∨ Op.newarray.typeOf t = .boolean) (hn : ¬ n < 0) (hby : n.toNatClampNeg * arBy x ≤ 536870912) (h1 : sz + 1 ≤ G.b0 + mm_mxC) (h2 : sl + n.toNatClampNeg ≤ mm_mxS) (k1 : Jd l G D y (pc + 2) ls (.ref sz :: r) (mUp M sz (.inl (G.dA x, arDf x n.toNatClampNeg))) (sz + 1) (sl + n.toNatClampNeg) fr lo Q) :
    W p l e { frames := fr, cells := G.b0 + mm_mxC - sz0, slots := mm_mxS - sl0, locals := lo } s m args below meth c H locs (sz - sz0) (sl - sl0) (EndQ G D below s sz0 sl0 Q) (F0 m pc arr (.int n :: r)) := by
  obtain ⟨hx, hb, -, -, hown, -, -, -, hE⟩ := id cx
  have g0 := hB.1
  have g1 := hB.2.1
  have g2 := hB.2.2.1
  have harr : (Jvm.Cond.arrayClass (Op.newarray.typeOf t)).before args s = true := word_at (State.WarmedH.refl s) (Or.inr ⟨_, rfl⟩) (hE.2.2.2.2.2.1.1 _ hac)
  have hby' : n.toNatClampNeg * componentBytes (Op.newarray.typeOf t) ≤ 536870912 := by
    have : arBy x = componentBytes (Op.newarray.typeOf t) := by simp [arBy, hk]
    rw [← this]; exact hby
  refine va_newaK hx hb harr rfl hd rfl hn rfl hby' (by show sz - sz0 + 1 ≤ G.b0 + mm_mxC - sz0; omega) (by show sl - sl0 + n.toNatClampNeg ≤ mm_mxS - sl0; omega) hP.1 fun H1 cA e1 z1 o1 hAr hNm => ?_
  have hcA : cA = G.dA x := by
    have hz := (hE.2.1.2 x _ (tysOf_at hk)).2
    rcases hty with h | h | h <;> (rw [h] at hz hNm; exact Option.some.inj (hNm.symm.trans hz))
  subst hcA
  have hb0 : G.b0 ≤ sz := Nat.le_trans (Nat.le_trans hE.2.2.2.2.2.2.2.2.1 (Nat.le_of_eq g0)) g1
  have he : va_at D mm_cl (sz, .inl (G.dA x, arDf x n.toNatClampNeg)) H1 := by
    show H1[sz]? = some (vp_cell _ _)
    rw [e1]
    rcases hty with h | h | h <;> (rw [h] at hk ⊢; simp only [arDf, hk]; rfl)
  have kk := k1 mi hmi p e s m args below meth c H1 locs arr sz0 sl0 cx hl (hP.push hb0 z1 o1 he) (hB.push hP.1 z1 o1 h1 h2)
  have ea : sz + 1 - sz0 = sz - sz0 + 1 := by omega
  have eb : sl + n.toNatClampNeg - sl0 = sl - sl0 + n.toNatClampNeg := by omega
  rw [ea, eb] at kk
  exact kk
theorem j_anew {i x : Nat} {C : String} {n : Int32} (hmi : mm_pr y = some mi) (cx : Cx G D mi p s m meth c) (hl : lvR arr mi.mL ls) (hP : Pic D G.b0 sz M H) (hB : Bd G s H locs sz0 sl0 sz sl) (hd : decode mi.by pc = .ok (.anewarray i, 3)) (hk : mm_aty[x]? = some (.object C)) (hao : C ∈ mm_ao) (hL : Jvm.Cond.classLink mi.nm.cls i C ∈ mm_tw) (hn : ¬ n < 0) (hby : n.toNatClampNeg * 4 ≤ 536870912) (h1 : sz + 1 ≤ G.b0 + mm_mxC) (h2 : sl + n.toNatClampNeg ≤ mm_mxS) (k1 : Jd l G D y (pc + 3) ls (.ref sz :: r) (mUp M sz (.inl (G.dA x, arDf x n.toNatClampNeg))) (sz + 1) (sl + n.toNatClampNeg) fr lo Q) :
    W p l e { frames := fr, cells := G.b0 + mm_mxC - sz0, slots := mm_mxS - sl0, locals := lo } s m args below meth c H locs (sz - sz0) (sl - sl0) (EndQ G D below s sz0 sl0 Q) (F0 m pc arr (.int n :: r)) := by
  obtain ⟨hx, hb, -, -, hown, -, -, -, hE⟩ := id cx
  have g0 := hB.1
  have g1 := hB.2.1
  have g2 := hB.2.2.1
  refine W.anew hx hb hown (hE.w _ hL) (va_AO.use (hE.2.2.2.2.2.1.2.1 C hao)) rfl hd rfl hn hby (by show sz - sz0 + 1 ≤ G.b0 + mm_mxC - sz0; omega) (by show sl - sl0 + n.toNatClampNeg ≤ mm_mxS - sl0; omega) fun cA kA comp f1 f2 f3 f4 => ?_
  have hcA : cA = G.dA x := by
    obtain ⟨kA', comp', -, -, -, hz⟩ := (hE.2.1.2 x _ (tysOf_at hk)).2
    exact Option.some.inj (f1.symm.trans hz)
  subst hcA
  generalize hH1 : H.push ({ cls := G.dA x, slots := Array.replicate n.toNatClampNeg .null, vm := .none } : Cell) = H1
  have hHs := hP.1
  have z1 : H1.size = sz + 1 := by rw [← hH1, Array.size_push, hHs]
  have e1 : H1[sz]? = some (arrV (G.dA x) n.toNatClampNeg (fun _ => .null)) := by rw [← hH1, ← hHs, Array.getElem?_push_size, ← arrV_new]
  have o1 : ∀ q : Nat, q < sz → H1[q]? = H[q]? := fun q hq => by rw [← hH1, Array.getElem?_push, if_neg (by rw [hHs]; exact Nat.ne_of_lt hq)]
  have hb0 : G.b0 ≤ sz := Nat.le_trans (Nat.le_trans hE.2.2.2.2.2.2.2.2.1 (Nat.le_of_eq g0)) g1
  have he : va_at D mm_cl (sz, .inl (G.dA x, arDf x n.toNatClampNeg)) H1 := by
    show H1[sz]? = some (vp_cell _ _)
    rw [e1]
    simp only [arDf, hk]
    rfl
  have kk := k1 mi hmi p e s m args below meth c H1 locs arr sz0 sl0 cx hl (hP.push hb0 z1 o1 he) (hB.push hP.1 z1 o1 h1 h2)
  have ea : sz + 1 - sz0 = sz - sz0 + 1 := by omega
  have eb : sl + n.toNatClampNeg - sl0 = sl - sl0 + n.toNatClampNeg := by omega
  rw [ea, eb] at kk
  rw [hHs]
  exact kk
/-- a method's end, from the rows of the kit -/
theorem j_end {o : Outcome} {u : Ou} (hP : Pic D G.b0 sz M H) (hB : Bd G s H locs sz0 sl0 sz sl) (hq : Q u M sz sl) (hu : ∀ t : State, t.heap = H → OutIs t o u) {g : JFrame} {R : Room} (h : W p l e R s m args below meth c H locs (sz - sz0) (sl - sl0) (MQ below (fun _ _ o' t => o' = o ∧ t.heap = H) args s (sz - sz0) (sl - sl0) (fun q => G.b0 ≤ q)) g) (hE : En G D s) :
    W p l e R s m args below meth c H locs (sz - sz0) (sl - sl0) (EndQ G D below s sz0 sl0 Q) g := by
  refine W.post h fun t ht => ?_
  obtain ⟨o', h1, h2, ⟨rfl, h3⟩, L, ⟨-, h4, h5⟩, h6⟩ := ht
  obtain ⟨g1, g2, g3, g4, g5, g6⟩ := hB
  refine ⟨o', u, M, sz, sl, L, h1, h2, hu t h3, hq, by rw [h3]; exact hP, h4, h5, h6, fun q hq' => ?_, g2, g3, g4, g5⟩
  rw [h3]
  have := hE.2.2.2.2.2.2.2.2.1
  exact g6.2.1 q (by omega) (by omega)
end CM
