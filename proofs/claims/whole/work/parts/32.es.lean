/-! WHAT COMES OF A PLACE IN THE ABSTRACT MACHINE -/
def cvO (G : Gw) (o : AOu) : Ou := match o with
  | .inl v => .inl (v.map (cv G))
  | .inr k => .inr k
def eOk (o : AOu) (sz sl sz' sl' : Nat) : Prop := match o with
  | .inl _ => sz' = sz ∧ sl' = sl
  | .inr _ => sz' ≤ sz + 1 ∧ sl' ≤ sl + 6
abbrev AQ : Type := AOu → Sg → Prop
def Es (G : Gw) (y pc : Nat) (ls : ALo) (st : List AV) (S : Sg) (k : Nat) (Q : AQ) : Prop := ∀ (M : Mm) (sz sl fr lo : Nat), G.xl ≤ 4608 → Rep G S M → sz + 1 ≤ G.b0 + mm_mxC → sl + 6 ≤ mm_mxS → k + 8 ≤ fr → 46 * k + 120 ≤ lo →
  Ev G y pc (mapL G ls) (st.map (cv G)) M sz sl fr lo (fun o M' sz' sl' => ∃ o' S', o = cvO G o' ∧ Rep G S' M' ∧ eOk o' sz sl sz' sl' ∧ Q o' S')
/-- what two numbers are to each other -/
def cmP (c : ClassFile.Cond) (a b : Int) : Prop := match c with
  | .eq => a = b | .ne => ¬ a = b | .lt => a < b | .ge => b ≤ a | .gt => b < a | .le => a ≤ b
section ES
variable {G : Gw} {y pc : Nat} {ls : ALo} {st : List AV} {S : Sg} {k : Nat} {Q : AQ}
theorem es_seg (n : Nat) {P : Option Prop} {pc' : Nat} {ls' : ALo} {st' : List AV} {S' : Sg} (h : arun G y n pc ls st S = some (P, pc', ls', st', S')) (hP : pOf P) (K : Es G y pc' ls' st' S' k Q) : Es G y pc ls st S k Q :=
  fun M sz sl fr lo hx hR h1 h2 h3 h4 => arun_ok (by omega) n h hP hR (fun M' hR' => K M' sz sl fr lo hx hR' h1 h2 h3 h4)
/-- what the memory holds is in range -/
theorem es_rg (K : (∀ t i q : Nat, i < tgC t → rgT (tyOf t q) (S t i q)) → Es G y pc ls st S k Q) : Es G y pc ls st S k Q :=
  fun M sz sl fr lo hx hR h1 h2 h3 h4 => K hR.2 M sz sl fr lo hx hR h1 h2 h3 h4
theorem es_xl (K : G.xl ≤ 4608 → Es G y pc ls st S k Q) : Es G y pc ls st S k Q :=
  fun M sz sl fr lo hx hR h1 h2 h3 h4 => K hx M sz sl fr lo hx hR h1 h2 h3 h4
variable {w x z : Nat} {kk : Int} {r : List AV}
theorem es_if {c : ClassFile.Cond} {o : Int} {a : Int} (hc : (mm_pr y).bind (fun mi => mi.co pc) = some (.ifCond c o, w, x, z, kk)) (t : Nat) (ht : (pc : Int) + o = (t : Int)) (ha : r32 a) (k1 : cmP c a 0 → Es G y t ls r S k Q) (k2 : ¬ cmP c a 0 → Es G y (pc + 3) ls r S k Q) : Es G y pc ls (.inl a :: r) S k Q := by
  intro M sz sl fr lo hx hR h1 h2 h3 h4
  have e : cndZ c (i32 a) ↔ cmP c a 0 := cz_i ha c
  exact ev_if hc t ht (fun h => k1 (e.mp h) M sz sl fr lo hx hR h1 h2 h3 h4) (fun h => k2 (fun g => h (e.mpr g)) M sz sl fr lo hx hR h1 h2 h3 h4)
theorem es_icmp {c : ClassFile.Cond} {o : Int} {a b : Int} (hc : (mm_pr y).bind (fun mi => mi.co pc) = some (.if_icmp c o, w, x, z, kk)) (t : Nat) (ht : (pc : Int) + o = (t : Int)) (ha : r32 a) (hb : r32 b) (k1 : cmP c a b → Es G y t ls r S k Q) (k2 : ¬ cmP c a b → Es G y (pc + 3) ls r S k Q) : Es G y pc ls (.inl b :: .inl a :: r) S k Q := by
  intro M sz sl fr lo hx hR h1 h2 h3 h4
  have e : cndI c (i32 a) (i32 b) ↔ cmP c a b := ci_i ha hb c
  exact ev_icmp hc t ht (fun h => k1 (e.mp h) M sz sl fr lo hx hR h1 h2 h3 h4) (fun h => k2 (fun g => h (e.mpr g)) M sz sl fr lo hx hR h1 h2 h3 h4)
theorem es_lif {c : ClassFile.Cond} {o : Int} {a b : Int} {w' x' z' : Nat} {kk' : Int} (hl : (mm_pr y).bind (fun mi => mi.co pc) = some (.lcmp, w', x', z', kk')) (hc : (mm_pr y).bind (fun mi => mi.co (pc + 1)) = some (.ifCond c o, w, x, z, kk)) (t : Nat) (ht : ((pc + 1 : Nat) : Int) + o = (t : Int)) (ha : r64 a) (hb : r64 b) (k1 : cmP c a b → Es G y t ls r S k Q) (k2 : ¬ cmP c a b → Es G y (pc + 1 + 3) ls r S k Q) : Es G y pc ls (.inr (.inl b) :: .inr (.inl a) :: r) S k Q := by
  intro M sz sl fr lo hx hR h1 h2 h3 h4
  have e : cndZ c (lg_cmp (i64 a) (i64 b)) ↔ cmP c a b := cz_cmp ha hb c
  refine ev_run 1 (pc' := pc + 1) (ls' := mapL G ls) (st' := .int (lg_cmp (i64 a) (i64 b)) :: r.map (cv G)) (by simp only [runN, hl]; rfl) ?_
  exact ev_if hc t ht (fun h => k1 (e.mp h) M sz sl fr lo hx hR h1 h2 h3 h4) (fun h => k2 (fun g => h (e.mpr g)) M sz sl fr lo hx hR h1 h2 h3 h4)
theorem es_iret {a : Int} {t : FieldType} {mi : Mi} (hc : (mm_pr y).bind (fun mi => mi.co pc) = some (.ireturn, w, x, z, kk)) (hm : mm_pr y = some mi) (ht : mi.rt = some t) (hr : t = .int ∨ t = .boolean ∧ (a = 0 ∨ a = 1)) (K : Q (.inl (some (.inl a))) S) : Es G y pc ls [.inl a] S k Q := by
  intro M sz sl fr lo hx hR h1 h2 h3 h4
  refine ev_iret hc ⟨mi, t, hm, ht, ?_⟩ ⟨.inl (some (.inl a)), S, rfl, hR, ⟨rfl, rfl⟩, K⟩
  rcases hr with rfl | ⟨rfl, h⟩
  · rfl
  · exact (nar_z h).1
theorem es_lret {a : Int} (hc : (mm_pr y).bind (fun mi => mi.co pc) = some (.lreturn, w, x, z, kk)) (K : Q (.inl (some (.inr (.inl a)))) S) : Es G y pc ls [.inr (.inl a)] S k Q := by
  intro M sz sl fr lo hx hR h1 h2 h3 h4
  exact ev_lret hc ⟨.inl (some (.inr (.inl a))), S, rfl, hR, ⟨rfl, rfl⟩, K⟩
theorem es_vret (hc : (mm_pr y).bind (fun mi => mi.co pc) = some (.return_, w, x, z, kk)) (K : Q (.inl none) S) : Es G y pc ls [] S k Q := by
  intro M sz sl fr lo hx hR h1 h2 h3 h4
  exact ev_vret hc ⟨.inl none, S, rfl, hR, ⟨rfl, rfl⟩, K⟩
theorem es_throw {i : Nat} (hc : (mm_pr y).bind (fun mi => mi.co pc) = some (.new i, w, x, 1, kk)) (K : Q (.inr x) S) : Es G y pc ls [] S k Q := by
  intro M sz sl fr lo hx hR h1 h2 h3 h4
  exact ev_throw hc h1 h2 (by omega) (by omega) ⟨.inr x, S, rfl, hR, ⟨Nat.le_refl _, Nat.le_refl _⟩, K⟩
/-- behind a call, where nothing is caught -/
def Bk (G : Gw) (y pc : Nat) (ls : ALo) (rest : List AV) (k : Nat) (Q : AQ) (o : AOu) (S : Sg) : Prop := match o with
  | .inl v => Es G y (pc + 3) ls (v.toList ++ rest) S k Q
  | .inr t => (∃ mi, mm_pr y = some mi ∧ mi.hs = [] ∧ mi.hn pc t = none) ∧ Q (.inr t) S
theorem backP_of {M' : Mm} {sz sl fr lo sz' sl' : Nat} {rest : List AV} {o : Ou} (hx : G.xl ≤ 4608) (h1 : sz + 1 ≤ G.b0 + mm_mxC) (h2 : sl + 6 ≤ mm_mxS) (h3 : k + 8 ≤ fr) (h4 : 46 * k + 120 ≤ lo) (h : ∃ o' S', o = cvO G o' ∧ Rep G S' M' ∧ eOk o' sz sl sz' sl' ∧ Bk G y pc ls rest k Q o' S') :
    backP (Ev G) y pc (mapL G ls) (rest.map (cv G)) fr lo (fun o M' sz' sl' => ∃ o' S', o = cvO G o' ∧ Rep G S' M' ∧ eOk o' sz sl sz' sl' ∧ Q o' S') o M' sz' sl' := by
  obtain ⟨o', S', rfl, hR, he, hb⟩ := h
  rcases o' with v | t
  · obtain ⟨e1, e2⟩ := he
    subst e1
    subst e2
    have hb' : Es G y (pc + 3) ls (v.toList ++ rest) S' k Q := hb
    have := hb' M' _ _ fr lo hx hR h1 h2 h3 h4
    rw [List.map_append] at this
    have e : List.map (cv G) v.toList = (v.map (cv G)).toList := by cases v <;> rfl
    rw [e] at this
    exact this
  · obtain ⟨⟨mi, g1, g2, g3⟩, g4⟩ := hb
    show (match mm_pr y with | some me => _ | none => False)
    rw [g1]
    show (match mi.hn pc t with | some h => _ | none => _)
    rw [g3]
    exact ⟨g2, .inr t, S', rfl, hR, he, g4⟩
theorem cat_sum (rest : List AV) : ((rest.map (cv G)).map (fun v => v.category)).sum = (rest.map aCat).sum := by
  induction rest with
  | nil => rfl
  | cons v r ih =>
    simp only [List.map_cons, List.sum_cons, cv_cat]
    rw [← ih]
theorem len_args (vs : List AV) : (loArgs (vs.map (cv G))).length = (aArgs vs).length := by rw [← aArgs_map (G := G), List.length_map]
theorem es_callV {i c : Nat} {mi : Mi} (hc : (mm_pr y).bind (fun mi => mi.co pc) = some (.invokevirtual i, w, c, z, kk)) (hm : mm_pr c = some mi) (t : Nat) (j : Int) (As rest : List AV) (hs : st = As.reverse ++ aR t j :: rest) (hn : mi.na = As.length + 1) (ho : tgS t = .inl z) (hj : pOf (ckI t j)) (hL : (aArgs (aR t j :: As)).length ≤ mi.mL) (hmL : mi.mL ≤ 21) (h3 : (rest.map aCat).sum ≤ 14)
    (K : Es G c 0 (aEnt mi.mL (aR t j :: As)) [] S k (Bk G y pc ls rest (k + 1) Q)) : Es G y pc ls st S (k + 1) Q := by
  intro M sz sl fr lo hx hR h1 h2 h3' h4
  subst hs
  have K' := K M sz sl (fr - 1) (lo - (mi.mL + 25)) hx hR h1 h2 (by omega) (by omega)
  rw [aEnt_map] at K'
  exact ev_callV (mi := mi) hc hm (a := ad G t j) (As := As.map (cv G)) (rest := rest.map (cv G)) (by rw [List.map_append, List.map_reverse]; rfl) (by rw [hn]; simp) ((hR.cell (ckI_of hj)).trans (congrArg some (cell_ob ho))) (by have := len_args (G := G) (aR t j :: As); rw [List.map_cons] at this; show (loArgs (cv G (aR t j) :: _)).length ≤ _; omega) (by omega) (by omega) (by rw [cat_sum]; exact h3) _ K' (fun o M' sz' sl' h => backP_of hx h1 h2 h3' h4 h)
theorem es_callI {i c : Nat} {mi : Mi} (hc : (mm_pr y).bind (fun mi => mi.co pc) = some (.invokespecial i, w, c, 0, kk)) (hm : mm_pr c = some mi) (t : Nat) (j : Int) (As rest : List AV) (hs : st = As.reverse ++ aR t j :: rest) (hn : mi.na = As.length + 1) (hL : (aArgs (aR t j :: As)).length ≤ mi.mL) (hmL : mi.mL ≤ 21) (h3 : (rest.map aCat).sum ≤ 14)
    (K : Es G c 0 (aEnt mi.mL (aR t j :: As)) [] S k (Bk G y pc ls rest (k + 1) Q)) : Es G y pc ls st S (k + 1) Q := by
  intro M sz sl fr lo hx hR h1 h2 h3' h4
  subst hs
  have K' := K M sz sl (fr - 1) (lo - (mi.mL + 25)) hx hR h1 h2 (by omega) (by omega)
  rw [aEnt_map] at K'
  exact ev_callI (mi := mi) hc hm (a := ad G t j) (As := As.map (cv G)) (rest := rest.map (cv G)) (by rw [List.map_append, List.map_reverse]; rfl) (by rw [hn]; simp) (by have := len_args (G := G) (aR t j :: As); rw [List.map_cons] at this; show (loArgs (cv G (aR t j) :: _)).length ≤ _; omega) (by omega) (by omega) (by rw [cat_sum]; exact h3) _ K' (fun o M' sz' sl' h => backP_of hx h1 h2 h3' h4 h)
theorem es_callS {i c : Nat} {mi : Mi} (hc : (mm_pr y).bind (fun mi => mi.co pc) = some (.invokestatic i, w, c, z, kk)) (hm : mm_pr c = some mi) (As rest : List AV) (hs : st = As.reverse ++ rest) (hn : mi.na = As.length) (hL : (aArgs As).length ≤ mi.mL) (hmL : mi.mL ≤ 21) (h3 : (rest.map aCat).sum ≤ 14)
    (K : Es G c 0 (aEnt mi.mL As) [] S k (Bk G y pc ls rest (k + 1) Q)) : Es G y pc ls st S (k + 1) Q := by
  intro M sz sl fr lo hx hR h1 h2 h3' h4
  subst hs
  have K' := K M sz sl (fr - 1) (lo - (mi.mL + 25)) hx hR h1 h2 (by omega) (by omega)
  rw [aEnt_map] at K'
  exact ev_callS (mi := mi) hc hm (As := As.map (cv G)) (rest := rest.map (cv G)) (by rw [List.map_append, List.map_reverse]) (by rw [hn]; simp) (by rw [len_args]; exact hL) (by omega) (by omega) (by rw [cat_sum]; exact h3) _ K' (fun o M' sz' sl' h => backP_of hx h1 h2 h3' h4 h)
/-- a stretch with something to show -/
theorem es_sg (n : Nat) {p : Prop} {pc' : Nat} {ls' : ALo} {st' : List AV} {S' : Sg} (h : arun G y n pc ls st S = some (some p, pc', ls', st', S')) (hP : p) (K : Es G y pc' ls' st' S' k Q) : Es G y pc ls st S k Q := es_seg n h hP K
/-- a stretch with nothing to show -/
theorem es_s0 (n : Nat) {pc' : Nat} {ls' : ALo} {st' : List AV} {S' : Sg} (h : arun G y n pc ls st S = some (none, pc', ls', st', S')) (K : Es G y pc' ls' st' S' k Q) : Es G y pc ls st S k Q := es_seg n h trivial K
abbrev Rgs (S : Sg) : Prop := ∀ t i q : Nat, i < tgC t → rgT (tyOf t q) (S t i q)
theorem rg_at (hg : Rgs S) {t : Nat} {i q : Int} (hi : 0 ≤ i ∧ i < (tgC t : Int)) (hq : 0 ≤ q) : rgT (tyOf t q.toNat) (S t i q) := by
  have := hg t i.toNat q.toNat (by omega)
  rw [show ((i.toNat : Nat) : Int) = i from by omega, show ((q.toNat : Nat) : Int) = q from by omega] at this
  exact this
theorem rgL (hg : Rgs S) {t : Nat} {i q : Int} (hi : 0 ≤ i ∧ i < (tgC t : Int)) (hq : 0 ≤ q) (ht : tyOf t q.toNat = .long) : r64 (S t i q) := by
  have := rg_at hg hi hq
  rw [ht] at this
  exact this
theorem rgI (hg : Rgs S) {t : Nat} {i q : Int} (hi : 0 ≤ i ∧ i < (tgC t : Int)) (hq : 0 ≤ q) (ht : tyOf t q.toNat = .int) : r32 (S t i q) := by
  have := rg_at hg hi hq
  rw [ht] at this
  exact this
theorem rgZ (hg : Rgs S) {t : Nat} {i q : Int} (hi : 0 ≤ i ∧ i < (tgC t : Int)) (hq : 0 ≤ q) (ht : tyOf t q.toNat = .boolean) : S t i q = 0 ∨ S t i q = 1 := by
  have := rg_at hg hi hq
  rw [ht] at this
  exact this
theorem r32_z {z : Int} (h : z = 0 ∨ z = 1) : r32 z := by rcases h with rfl | rfl <;> exact ⟨by decide, by decide⟩
theorem es_ts {d a b : Int} {offs : Array Int} {v : Int} (hc : (mm_pr y).bind (fun mi => mi.co pc) = some (.tableswitch d a b offs, w, x, z, kk)) (hv : r32 v) (k1 : (v < a ∨ b < v) → ∃ t : Nat, (pc : Int) + d = (t : Int) ∧ Es G y t ls r S k Q) (k2 : ∀ n : Nat, v = a + (n : Int) → v ≤ b → ∃ (o : Int) (t : Nat), offs[n]? = some o ∧ (pc : Int) + o = (t : Int) ∧ Es G y t ls r S k Q) : Es G y pc ls (.inl v :: r) S k Q := by
  intro M sz sl fr lo hx hR h1 h2 h3 h4
  by_cases g : v < a ∨ b < v
  · obtain ⟨t, ht, K⟩ := k1 g
    exact ev_tsOut hc t ht (by rw [i32_t hv]; exact g) (K M sz sl fr lo hx hR h1 h2 h3 h4)
  · obtain ⟨o, t, ho, ht, K⟩ := k2 (v - a).toNat (by omega) (by omega)
    exact ev_tsIn hc (by rw [i32_t hv]; omega) (by rw [i32_t hv]; omega) (by rw [i32_t hv]; exact ho) t ht (K M sz sl fr lo hx hR h1 h2 h3 h4)
end ES
