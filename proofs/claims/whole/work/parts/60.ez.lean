/-! THE LAW'S ROWS: as the others, with the places that are used up in sight -/
abbrev ZQ : Type := AOu → Sg → Nat → Nat → Prop
def Ez (G : Gw) (y pc : Nat) (ls : ALo) (st : List AV) (S : Sg) (sz sl k : Nat) (Q : ZQ) : Prop := ∀ (M : Mm) (fr lo : Nat), G.xl ≤ 4608 → Rep G S M → k + 8 ≤ fr → 46 * k + 120 ≤ lo →
  Ev G y pc (mapL G ls) (st.map (cv G)) M sz sl fr lo (fun o M' sz' sl' => ∃ o' S', o = cvO G o' ∧ Rep G S' M' ∧ Q o' S' sz' sl')
section EZ
variable {G : Gw} {y pc : Nat} {ls : ALo} {st : List AV} {S : Sg} {sz sl k : Nat} {Q : ZQ}
theorem ez_sg (n : Nat) {p : Prop} {pc' : Nat} {ls' : ALo} {st' : List AV} {S' : Sg} (h : arun G y n pc ls st S = some (some p, pc', ls', st', S')) (hP : p) (K : Ez G y pc' ls' st' S' sz sl k Q) : Ez G y pc ls st S sz sl k Q :=
  fun M fr lo hx hR h3 h4 => arun_ok (by omega) n h hP hR (fun M' hR' => K M' fr lo hx hR' h3 h4)
theorem ez_s0 (n : Nat) {pc' : Nat} {ls' : ALo} {st' : List AV} {S' : Sg} (h : arun G y n pc ls st S = some (none, pc', ls', st', S')) (K : Ez G y pc' ls' st' S' sz sl k Q) : Ez G y pc ls st S sz sl k Q :=
  fun M fr lo hx hR h3 h4 => arun_ok (by omega) n h trivial hR (fun M' hR' => K M' fr lo hx hR' h3 h4)
theorem ez_rg (K : Rgs S → Ez G y pc ls st S sz sl k Q) : Ez G y pc ls st S sz sl k Q :=
  fun M fr lo hx hR h3 h4 => K hR.2 M fr lo hx hR h3 h4
theorem ez_xl (K : G.xl ≤ 4608 → Ez G y pc ls st S sz sl k Q) : Ez G y pc ls st S sz sl k Q :=
  fun M fr lo hx hR h3 h4 => K hx M fr lo hx hR h3 h4
variable {w x z : Nat} {kk : Int} {r : List AV}
theorem ez_if {c : ClassFile.Cond} {o : Int} {a : Int} (hc : (mm_pr y).bind (fun mi => mi.co pc) = some (.ifCond c o, w, x, z, kk)) (t : Nat) (ht : (pc : Int) + o = (t : Int)) (ha : r32 a) (k1 : cmP c a 0 → Ez G y t ls r S sz sl k Q) (k2 : ¬ cmP c a 0 → Ez G y (pc + 3) ls r S sz sl k Q) : Ez G y pc ls (.inl a :: r) S sz sl k Q := by
  intro M fr lo hx hR h3 h4
  have e : cndZ c (i32 a) ↔ cmP c a 0 := cz_i ha c
  exact ev_if hc t ht (fun h => k1 (e.mp h) M fr lo hx hR h3 h4) (fun h => k2 (fun g => h (e.mpr g)) M fr lo hx hR h3 h4)
theorem ez_icmp {c : ClassFile.Cond} {o : Int} {a b : Int} (hc : (mm_pr y).bind (fun mi => mi.co pc) = some (.if_icmp c o, w, x, z, kk)) (t : Nat) (ht : (pc : Int) + o = (t : Int)) (ha : r32 a) (hb : r32 b) (k1 : cmP c a b → Ez G y t ls r S sz sl k Q) (k2 : ¬ cmP c a b → Ez G y (pc + 3) ls r S sz sl k Q) : Ez G y pc ls (.inl b :: .inl a :: r) S sz sl k Q := by
  intro M fr lo hx hR h3 h4
  have e : cndI c (i32 a) (i32 b) ↔ cmP c a b := ci_i ha hb c
  exact ev_icmp hc t ht (fun h => k1 (e.mp h) M fr lo hx hR h3 h4) (fun h => k2 (fun g => h (e.mpr g)) M fr lo hx hR h3 h4)
theorem ez_lif {c : ClassFile.Cond} {o : Int} {a b : Int} {w' x' z' : Nat} {kk' : Int} (hl : (mm_pr y).bind (fun mi => mi.co pc) = some (.lcmp, w', x', z', kk')) (hc : (mm_pr y).bind (fun mi => mi.co (pc + 1)) = some (.ifCond c o, w, x, z, kk)) (t : Nat) (ht : ((pc + 1 : Nat) : Int) + o = (t : Int)) (ha : r64 a) (hb : r64 b) (k1 : cmP c a b → Ez G y t ls r S sz sl k Q) (k2 : ¬ cmP c a b → Ez G y (pc + 1 + 3) ls r S sz sl k Q) : Ez G y pc ls (.inr (.inl b) :: .inr (.inl a) :: r) S sz sl k Q := by
  intro M fr lo hx hR h3 h4
  have e : cndZ c (lg_cmp (i64 a) (i64 b)) ↔ cmP c a b := cz_cmp ha hb c
  refine ev_run 1 (pc' := pc + 1) (ls' := mapL G ls) (st' := .int (lg_cmp (i64 a) (i64 b)) :: r.map (cv G)) (by simp only [runN, hl]; rfl) ?_
  exact ev_if hc t ht (fun h => k1 (e.mp h) M fr lo hx hR h3 h4) (fun h => k2 (fun g => h (e.mpr g)) M fr lo hx hR h3 h4)
theorem ez_ts {d a b : Int} {offs : Array Int} {v : Int} (hc : (mm_pr y).bind (fun mi => mi.co pc) = some (.tableswitch d a b offs, w, x, z, kk)) (hv : r32 v) (k1 : (v < a ∨ b < v) → ∃ t : Nat, (pc : Int) + d = (t : Int) ∧ Ez G y t ls r S sz sl k Q) (k2 : ∀ n : Nat, v = a + (n : Int) → v ≤ b → ∃ (o : Int) (t : Nat), offs[n]? = some o ∧ (pc : Int) + o = (t : Int) ∧ Ez G y t ls r S sz sl k Q) : Ez G y pc ls (.inl v :: r) S sz sl k Q := by
  intro M fr lo hx hR h3 h4
  by_cases g : v < a ∨ b < v
  · obtain ⟨t, ht, K⟩ := k1 g
    exact ev_tsOut hc t ht (by rw [i32_t hv]; exact g) (K M fr lo hx hR h3 h4)
  · obtain ⟨o, t, ho, ht, K⟩ := k2 (v - a).toNat (by omega) (by omega)
    exact ev_tsIn hc (by rw [i32_t hv]; omega) (by rw [i32_t hv]; omega) (by rw [i32_t hv]; exact ho) t ht (K M fr lo hx hR h3 h4)
theorem ez_iret {a : Int} {t : FieldType} {mi : Mi} (hc : (mm_pr y).bind (fun mi => mi.co pc) = some (.ireturn, w, x, z, kk)) (hm : mm_pr y = some mi) (ht : mi.rt = some t) (hr : t = .int ∨ t = .boolean ∧ (a = 0 ∨ a = 1)) (K : Q (.inl (some (.inl a))) S sz sl) : Ez G y pc ls [.inl a] S sz sl k Q := by
  intro M fr lo hx hR h3 h4
  refine ev_iret hc ⟨mi, t, hm, ht, ?_⟩ ⟨.inl (some (.inl a)), S, rfl, hR, K⟩
  rcases hr with rfl | ⟨rfl, h⟩
  · rfl
  · exact (nar_z h).1
/-- a catcher: it keeps the thrown one and answers a number -/
def Hd (y h : Nat) (n : Int) : Prop := ∃ (s d : Nat) (a : Instr) (w x z w2 x2 z2 w3 x3 z3 : Nat) (k1 k2 k3 : Int) (mi : Mi), (mm_pr y).bind (fun mi => mi.co h) = some (a, w, x, z, k1) ∧ ((a = .astore s ∧ d = 2) ∨ (∃ i : Fin 4, a = .astore_n i ∧ (i : Nat) = s ∧ d = 1)) ∧ (mm_pr y).bind (fun mi => mi.co (h + d)) = some (.iconst n, w2, x2, z2, k2) ∧ (mm_pr y).bind (fun mi => mi.co (h + d + 1)) = some (.ireturn, w3, x3, z3, k3) ∧ mm_pr y = some mi ∧ mi.rt = some .int ∧ s < mi.mL
theorem hd_run {h : Nat} {n : Int} {b : Nat} {M : Mm} {fr lo : Nat} {P : Po} {L : Lo} (hd : Hd y h n) (hL : ∀ mi, mm_pr y = some mi → mi.mL = L.length) (K : P (.inl (some (.int (i32 n)))) M sz sl) : Ev G y h L [.ref b] M sz sl fr lo P := by
  obtain ⟨s, d, a, w, x, z, w2, x2, z2, w3, x3, z3, k1, k2, k3, mi, c1, ca, c2, c3, hm, hr, hs⟩ := hd
  rw [hL mi hm] at hs
  refine ev_run 2 (pc' := h + d + 1) (ls' := loSet1 L s (.ref b)) (st' := [.int (i32 n)]) ?_ (ev_iret c3 ⟨mi, .int, hm, hr, rfl⟩ K)
  rcases ca with ⟨rfl, rfl⟩ | ⟨i, rfl, rfl, rfl⟩
  · simp only [runN, c1, pure1, if_pos hs, c2]
  · simp only [runN, c1, pure1, if_pos hs, c2]
/-- behind a call in a method of the law -/
def Bz (G : Gw) (y pc : Nat) (ls : ALo) (rest : List AV) (sz sl k : Nat) (Q : ZQ) (o : AOu) (S : Sg) : Prop := match o with
  | .inl v => Ez G y (pc + 3) ls (v.toList ++ rest) S sz sl k Q
  | .inr t => ∃ (h : Nat) (n : Int) (mi : Mi), mm_pr y = some mi ∧ mi.mL = ls.length ∧ mi.hn pc t = some h ∧ Hd y h n ∧ ∀ sz' sl', sz' ≤ sz + 1 → sl' ≤ sl + 6 → Q (.inl (some (.inl n))) S sz' sl'
theorem backZ {M' : Mm} {fr lo sz' sl' : Nat} {rest : List AV} {o : Ou} (hx : G.xl ≤ 4608) (h3 : k + 8 ≤ fr) (h4 : 46 * k + 120 ≤ lo) (h : ∃ o' S', o = cvO G o' ∧ Rep G S' M' ∧ eOk o' sz sl sz' sl' ∧ Bz G y pc ls rest sz sl k Q o' S') :
    backP (Ev G) y pc (mapL G ls) (rest.map (cv G)) fr lo (fun o M' sz' sl' => ∃ o' S', o = cvO G o' ∧ Rep G S' M' ∧ Q o' S' sz' sl') o M' sz' sl' := by
  obtain ⟨o', S', rfl, hR, he, hb⟩ := h
  rcases o' with v | t
  · obtain ⟨e1, e2⟩ := he
    subst e1
    subst e2
    have hb' : Ez G y (pc + 3) ls (v.toList ++ rest) S' _ _ k Q := hb
    have := hb' M' fr lo hx hR h3 h4
    rw [List.map_append] at this
    have e : List.map (cv G) v.toList = (v.map (cv G)).toList := by cases v <;> rfl
    rw [e] at this
    exact this
  · obtain ⟨h, n, mi, g1, g0, g2, g3, g4⟩ := hb
    show (match mm_pr y with | some me => _ | none => False)
    rw [g1]
    show (match mi.hn pc t with | some h => _ | none => _)
    rw [g2]
    intro a
    refine hd_run g3 (fun m hm => ?_) ⟨.inl (some (.inl n)), S', rfl, hR, g4 _ _ he.1 he.2⟩
    rw [g1] at hm
    cases hm
    rw [mapL_len]
    exact g0
theorem ez_callV {i c : Nat} {mi : Mi} (hc : (mm_pr y).bind (fun mi => mi.co pc) = some (.invokevirtual i, w, c, z, kk)) (hm : mm_pr c = some mi) (t : Nat) (j : Int) (As rest : List AV) (hs : st = As.reverse ++ aR t j :: rest) (hn : mi.na = As.length + 1) (ho : tgS t = .inl z) (hj : pOf (ckI t j)) (hL : (aArgs (aR t j :: As)).length ≤ mi.mL) (hmL : mi.mL ≤ 21) (h3 : (rest.map aCat).sum ≤ 14) (hz : sz + 1 ≤ G.b0 + mm_mxC) (hl : sl + 6 ≤ mm_mxS)
    (K : Es G c 0 (aEnt mi.mL (aR t j :: As)) [] S k (Bz G y pc ls rest sz sl (k + 1) Q)) : Ez G y pc ls st S sz sl (k + 1) Q := by
  intro M fr lo hx hR h3' h4
  subst hs
  have K' := K M sz sl (fr - 1) (lo - (mi.mL + 25)) hx hR hz hl (by omega) (by omega)
  rw [aEnt_map] at K'
  exact ev_callV (mi := mi) hc hm (a := ad G t j) (As := As.map (cv G)) (rest := rest.map (cv G)) (by rw [List.map_append, List.map_reverse]; rfl) (by rw [hn]; simp) ((hR.cell (ckI_of hj)).trans (congrArg some (cell_ob ho))) (by have := len_args (G := G) (aR t j :: As); rw [List.map_cons] at this; show (loArgs (cv G (aR t j) :: _)).length ≤ _; omega) (by omega) (by omega) (by rw [cat_sum]; exact h3) _ K' (fun o M' sz' sl' h => backZ hx h3' h4 h)
/-- a call of one of the law's own -/
theorem ez_callZ {i c : Nat} {mi : Mi} (hc : (mm_pr y).bind (fun mi => mi.co pc) = some (.invokestatic i, w, c, z, kk)) (hm : mm_pr c = some mi) (As rest : List AV) (hs : st = As.reverse ++ rest) (hn : mi.na = As.length) (hL : (aArgs As).length ≤ mi.mL) (hmL : mi.mL ≤ 21) (h3 : (rest.map aCat).sum ≤ 14)
    (K : Ez G c 0 (aEnt mi.mL As) [] S sz sl k (fun o S' sz' sl' => ∃ v : Int, o = .inl (some (.inl v)) ∧ Ez G y (pc + 3) ls (.inl v :: rest) S' sz' sl' (k + 1) Q)) : Ez G y pc ls st S sz sl (k + 1) Q := by
  intro M fr lo hx hR h3' h4
  subst hs
  have K' := K M (fr - 1) (lo - (mi.mL + 25)) hx hR (by omega) (by omega)
  rw [aEnt_map] at K'
  refine ev_callS (mi := mi) hc hm (As := As.map (cv G)) (rest := rest.map (cv G)) (by rw [List.map_append, List.map_reverse]) (by rw [hn]; simp) (by rw [len_args]; exact hL) (by omega) (by omega) (by rw [cat_sum]; exact h3) _ K' (fun o M' sz' sl' h => ?_)
  obtain ⟨o', S', rfl, hR', v, rfl, hz⟩ := h
  exact hz M' fr lo hx hR' h3' h4
end EZ
