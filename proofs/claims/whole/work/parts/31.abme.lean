theorem rg_ob {t x z : Nat} {q : Int} (h : tgS t = .inl x) (hq : rgT (mm_fty x z) q) : rgT (tyOf t z) q := by
  unfold tyOf; rw [h]; exact hq
theorem rg_i {t n z : Nat} {q : Int} (h : tgS t = .inr (0, n)) (hq : r32 q) : rgT (tyOf t z) q := by
  unfold tyOf; rw [h]; exact hq
theorem rg_l {t n z : Nat} {q : Int} (h : tgS t = .inr (1, n)) (hq : r64 q) : rgT (tyOf t z) q := by
  unfold tyOf; rw [h]; exact hq
theorem rg_z {t n z : Nat} {q : Int} (h : tgS t = .inr (2, n)) (hq : q = 0 ∨ q = 1) : rgT (tyOf t z) q := by
  unfold tyOf; rw [h]; exact hq
section AME
variable {G : Gw} {y pc : Nat} {ls : ALo} {st : List AV} {S : Sg} {M : Mm} {sz sl fr lo : Nat} {Q : Po} {w x z : Nat} {k : Int}
theorem aMe_get {ix : Nat} {t : Nat} {i : Int} {r : List AV} (hc : (mm_pr y).bind (fun mi => mi.co pc) = some (.getfield ix, w, x, z, k)) (ho : isO t x z = true) (hi : pOf (ckI t i)) (hR : Rep G S M) (K : Ev G y (pc + 3) (mapL G ls) ((slA S t i x z :: r).map (cv G)) M sz sl fr lo Q) : Ev G y pc (mapL G ls) ((aR t i :: r).map (cv G)) M sz sl fr lo Q := by
  obtain ⟨h1, h2⟩ := isO_of ho
  exact ev_get hc ((hR.cell (ckI_of hi)).trans (congrArg some (cell_ob h1))) (v := cv G (slA S t i x z)) (by simp [h2]) K
theorem aMe_put {ix : Nat} {t : Nat} {i q : Int} {v : AV} {r : List AV} (hc : (mm_pr y).bind (fun mi => mi.co pc) = some (.putfield ix, w, x, z, k)) (ho : isO t x z = true) (hi : pOf (ckI t i)) (hR : Rep G S M) (hq : rgT (mm_fty x z) q) (hv : cv G v = cv G (slA (su S t i z q) t i x z)) (hn : narrow (mm_fty x z) (cv G v) = cv G v) (hf : fits (mm_fty x z) (cv G v) = true) (K : ∀ M', Rep G (su S t i z q) M' → Ev G y (pc + 3) (mapL G ls) (r.map (cv G)) M' sz sl fr lo Q) : Ev G y pc (mapL G ls) ((v :: aR t i :: r).map (cv G)) M sz sl fr lo Q := by
  obtain ⟨h1, h2⟩ := isO_of ho
  refine ev_put hc ((hR.cell (ckI_of hi)).trans (congrArg some (cell_ob h1))) (by simp [h2]) hn hf (K _ ?_)
  refine hR.up (ckI_of hi) (by omega) (by rw [Int.toNat_natCast]; exact rg_ob h1 hq) ?_
  rw [cell_ob h1, ob_set h2 hv]
theorem ad_st {x : Nat} (hx : x ≤ 1) : ad G (60 + x) 0 = G.sa x := by
  match x, hx with
  | 0, _ => rfl
  | 1, _ => rfl
/-- what a step of the memory must do -/
abbrev AmeG (G : Gw) (y pc : Nat) (ls : ALo) (st : List AV) (S : Sg) (M : Mm) (sz sl fr lo : Nat) (Q : Po) (ins : Instr) (w x z : Nat) : Prop := ∀ (k : Int) (P : Option Prop) (pc' : Nat) (st' : List AV) (S' : Sg), (mm_pr y).bind (fun mi => mi.co pc) = some (ins, w, x, z, k) → aMe G ins w x z pc st S = some (P, pc', st', S') → pOf P → Rep G S M → (∀ M', Rep G S' M' → Ev G y pc' (mapL G ls) (st'.map (cv G)) M' sz sl fr lo Q) → Ev G y pc (mapL G ls) (st.map (cv G)) M sz sl fr lo Q
theorem aMe_putf {ix : Nat} : AmeG G y pc ls st S M sz sl fr lo Q (.putfield ix) w x z := by
  intro k P pc' st' S' hc h hP hR K
  match st, h with
  | v :: .inr (.inr (t, i)) :: r, h =>
    replace h : (bif isO t x z then (match mm_fty x z, v with
      | .long, .inr (.inl q) => some (pAnd (ckI t i) (some (r64 q)), pc + 3, r, su S t i z q)
      | .int, .inl q => some (pAnd (ckI t i) (some (r32 q)), pc + 3, r, su S t i z q)
      | .boolean, .inl q => some (pAnd (ckI t i) (some (q = 0 ∨ q = 1)), pc + 3, r, su S t i z q)
      | _, _ => none) else none) = some (P, pc', st', S') := h
    cases hb : isO t x z
    · rw [hb] at h; cases h
    · rw [hb] at h
      cases hty : mm_fty x z <;> rcases v with q | q | ⟨t2, i2⟩ <;> simp only [hty, cond_true, reduceCtorEq, Option.some.injEq, Prod.mk.injEq] at h
      · obtain ⟨rfl, rfl, rfl, rfl⟩ := h
        obtain ⟨h1, h2⟩ := pAnd_of hP
        refine aMe_put hc hb h1 hR (q := q) (by rw [hty]; exact h2) ?_ (by rw [hty]; rfl) (by rw [hty]; rfl) K
        unfold slA; rw [hty, su_same]
      · obtain ⟨rfl, rfl, rfl, rfl⟩ := h
        obtain ⟨h1, h2⟩ := pAnd_of hP
        refine aMe_put hc hb h1 hR (q := q) (by rw [hty]; exact h2) ?_ (by rw [hty]; rfl) (by rw [hty]; rfl) K
        unfold slA; rw [hty, su_same]
      · obtain ⟨rfl, rfl, rfl, rfl⟩ := h
        obtain ⟨h1, h2⟩ := pAnd_of hP
        refine aMe_put hc hb h1 hR (q := q) (by rw [hty]; exact h2) ?_ (by rw [hty]; exact (nar_z h2).1) (by rw [hty]; exact (nar_z h2).2.1) K
        unfold slA; rw [hty, su_same]
theorem aMe_iald (hxl : G.xl < 2147483648) : AmeG G y pc ls st S M sz sl fr lo Q .iaload w x z := by
  intro k P pc' st' S' hc h hP hR K
  match st, h with
  | .inl q :: .inr (.inr (t, i)) :: r, h =>
    match w, hc, h with
    | 0, hc, h =>
      replace h : (match isA t x with
        | some n => bif Nat.beq x 0 then some (pAnd (ckI t i) (ckA q n), pc + 1, .inl (S t i q) :: r, S) else none
        | none => none) = some (P, pc', st', S') := h
      cases hA : isA t x with
      | none => rw [hA] at h; cases h
      | some n =>
        rw [hA] at h
        obtain ⟨h1, h2⟩ := cnd_some h
        cases h2
        have hx : x = 0 := by simpa using h1
        subst hx
        obtain ⟨h3, h4⟩ := pAnd_of hP
        have h5 := isA_of hA
        have hn := tgN_lt t (ck_lt (ckI_of h3)) _ _ h5
        refine ev_iald hc ((hR.cell (ckI_of h3)).trans (congrArg some (cell_i h5))) (in_of hn h4) ?_
        rw [cl_of hn h4]
        show Ev G y (pc + 1) _ (.int (i32 (S t i (q.toNat : Int))) :: _) M sz sl fr lo Q
        rw [show ((q.toNat : Nat) : Int) = q from Int.toNat_of_nonneg h4.1]
        exact K M hR
    | 1, hc, h =>
      replace h : (bif Nat.beq t (60 + x) && Nat.ble x 1 then some (ckA q 8, pc + 1, .inl (spV x q) :: r, S) else none) = some (P, pc', st', S') := h
      obtain ⟨h1, h2⟩ := cnd_some h
      cases h2
      rw [Bool.and_eq_true] at h1
      have ht : t = 60 + x := by simpa using h1.1
      have hx : x ≤ 1 := by simpa using h1.2
      subst ht
      have K' := K M hR
      have e8 : (mm_sv x).1 = 8 := by
        match x, hx with
        | 0, _ => rfl
        | 1, _ => rfl
      have hi : i = 0 ∨ True := Or.inr trivial
      have ead : ad G (60 + x) i = G.sa x := by
        match x, hx with
        | 0, _ => rfl
        | 1, _ => rfl
      show Ev G y pc _ (.int (i32 q) :: .ref (ad G (60 + x) i) :: _) M sz sl fr lo Q
      rw [ead]
      refine ev_iaS hc (by rw [e8]; exact in_of (by decide) hP) ?_
      rw [cl_of (by decide) hP]
      have : cv G (.inl (spV x q)) = .int ((mm_sv x).2 q.toNat) := by
        show Value.int (i32 (spV x q)) = _
        unfold spV
        rw [i32_tI]
      rw [← this]
      exact K'
    | w + 2, hc, h =>
      replace h : (bif Nat.beq t 70 then some (ckA q G.xl, pc + 1, .inl (scV G q) :: r, S) else none) = some (P, pc', st', S') := h
      obtain ⟨h1, h2⟩ := cnd_some h
      cases h2
      have ht : t = 70 := by simpa using h1
      subst ht
      have K' := K M hR
      have hP' : 0 ≤ q ∧ q < (G.xl : Int) := hP
      show Ev G y pc _ (.int (i32 q) :: .ref G.xa :: _) M sz sl fr lo Q
      have e : cv G (.inl (scV G q)) = .int (G.xs (i32 q).toNatClampNeg) := by
        show Value.int (i32 (scV G q)) = _
        unfold scV
        rw [i32_tI, cl_of hxl hP']
      rw [List.map_cons, e] at K'
      exact ev_mem hc rfl (by simp only [memS]; rw [if_neg (by omega), if_neg (by omega)]; exact ⟨trivial, in_of hxl hP', K'⟩)
theorem aMe_lald : AmeG G y pc ls st S M sz sl fr lo Q .laload w x z := by
  intro k P pc' st' S' hc h hP hR K
  match st, h with
  | .inl q :: .inr (.inr (t, i)) :: r, h =>
    replace h : (match isA t x with
        | some n => bif Nat.beq x 1 then some (pAnd (ckI t i) (ckA q n), pc + 1, .inr (.inl (S t i q)) :: r, S) else none
        | none => none) = some (P, pc', st', S') := h
    cases hA : isA t x with
    | none => rw [hA] at h; cases h
    | some n =>
      rw [hA] at h
      obtain ⟨h1, h2⟩ := cnd_some h
      cases h2
      have hx : x = 1 := by simpa using h1
      subst hx
      obtain ⟨h3, h4⟩ := pAnd_of hP
      have h5 := isA_of hA
      have hn := tgN_lt t (ck_lt (ckI_of h3)) _ _ h5
      refine ev_lald hc ((hR.cell (ckI_of h3)).trans (congrArg some (cell_l h5))) (in_of hn h4) ?_
      rw [cl_of hn h4]
      show Ev G y (pc + 1) _ (.long (i64 (S t i (q.toNat : Int))) :: _) M sz sl fr lo Q
      rw [show ((q.toNat : Nat) : Int) = q from Int.toNat_of_nonneg h4.1]
      exact K M hR
theorem aMe_bald : AmeG G y pc ls st S M sz sl fr lo Q .baload w x z := by
  intro k P pc' st' S' hc h hP hR K
  match st, h with
  | .inl q :: .inr (.inr (t, i)) :: r, h =>
    replace h : (match isA t x with
        | some n => bif Nat.beq x 2 then some (pAnd (ckI t i) (ckA q n), pc + 1, .inl (S t i q) :: r, S) else none
        | none => none) = some (P, pc', st', S') := h
    cases hA : isA t x with
    | none => rw [hA] at h; cases h
    | some n =>
      rw [hA] at h
      obtain ⟨h1, h2⟩ := cnd_some h
      cases h2
      have hx : x = 2 := by simpa using h1
      subst hx
      obtain ⟨h3, h4⟩ := pAnd_of hP
      have h5 := isA_of hA
      have hn := tgN_lt t (ck_lt (ckI_of h3)) _ _ h5
      refine ev_bald hc ((hR.cell (ckI_of h3)).trans (congrArg some (cell_z h5))) (in_of hn h4) ?_
      rw [cl_of hn h4]
      show Ev G y (pc + 1) _ (.int (i32 (S t i (q.toNat : Int))) :: _) M sz sl fr lo Q
      rw [show ((q.toNat : Nat) : Int) = q from Int.toNat_of_nonneg h4.1]
      exact K M hR
theorem aMe_aald : AmeG G y pc ls st S M sz sl fr lo Q .aaload w x z := by
  intro k P pc' st' S' hc h hP hR K
  match st, h with
  | .inl q :: .inr (.inr (t, i)) :: r, h =>
    replace h : (match isA t x with
        | some n => bif Nat.blt 2 x then some (pAnd (ckI t i) (ckA q n), pc + 1, .inr (.inr (rfF t i q)) :: r, S) else none
        | none => none) = some (P, pc', st', S') := h
    cases hA : isA t x with
    | none => rw [hA] at h; cases h
    | some n =>
      rw [hA] at h
      obtain ⟨h1, h2⟩ := cnd_some h
      cases h2
      obtain ⟨h3, h4⟩ := pAnd_of hP
      have h5 := isA_of hA
      have hn := tgN_lt t (ck_lt (ckI_of h3)) _ _ h5
      have h4' : 0 ≤ q ∧ q < (n : Int) := h4
      refine ev_aald hc ((hR.cell (ckI_of h3)).trans (congrArg some (cell_r (blt_lt h1) h5))) (in_of hn h4) (q := ad G (rfF t i q).1 (rfF t i q).2) ?_ (K M hR)
      rw [cl_of hn h4]
      show (if q.toNat < n then _ else none) = _
      rw [if_pos (by omega), show ((q.toNat : Nat) : Int) = q from Int.toNat_of_nonneg h4'.1]
theorem aMe_iast : AmeG G y pc ls st S M sz sl fr lo Q .iastore w x z := by
  intro k P pc' st' S' hc h hP hR K
  match st, h with
  | .inl v :: .inl q :: .inr (.inr (t, i)) :: r, h =>
    replace h : (match isA t x with
        | some n => bif Nat.beq x 0 then some (pAnd (pAnd (ckI t i) (ckA q n)) (some (r32 v)), pc + 1, r, su S t i q v) else none
        | none => none) = some (P, pc', st', S') := h
    cases hA : isA t x with
    | none => rw [hA] at h; cases h
    | some n =>
      rw [hA] at h
      obtain ⟨h1, h2⟩ := cnd_some h
      cases h2
      have hx : x = 0 := by simpa using h1
      subst hx
      obtain ⟨h34, h6⟩ := pAnd_of hP
      obtain ⟨h3, h4⟩ := pAnd_of h34
      have h5 := isA_of hA
      have hn := tgN_lt t (ck_lt (ckI_of h3)) _ _ h5
      have h4' : 0 ≤ q ∧ q < (n : Int) := h4
      refine ev_iast hc ((hR.cell (ckI_of h3)).trans (congrArg some (cell_i h5))) (in_of hn h4) (K _ ?_)
      refine hR.up (ckI_of h3) h4'.1 (rg_i h5 h6) ?_
      rw [cell_i h5, cl_of hn h4]
      congr 4
      funext j
      unfold upd su
      by_cases e : j = q.toNat
      · rw [if_pos e, if_pos ⟨rfl, by omega, rfl⟩]
      · rw [if_neg e, if_neg (fun g => e (by have := g.2.1; omega))]
theorem aMe_last : AmeG G y pc ls st S M sz sl fr lo Q .lastore w x z := by
  intro k P pc' st' S' hc h hP hR K
  match st, h with
  | .inr (.inl v) :: .inl q :: .inr (.inr (t, i)) :: r, h =>
    replace h : (match isA t x with
        | some n => bif Nat.beq x 1 then some (pAnd (pAnd (ckI t i) (ckA q n)) (some (r64 v)), pc + 1, r, su S t i q v) else none
        | none => none) = some (P, pc', st', S') := h
    cases hA : isA t x with
    | none => rw [hA] at h; cases h
    | some n =>
      rw [hA] at h
      obtain ⟨h1, h2⟩ := cnd_some h
      cases h2
      have hx : x = 1 := by simpa using h1
      subst hx
      obtain ⟨h34, h6⟩ := pAnd_of hP
      obtain ⟨h3, h4⟩ := pAnd_of h34
      have h5 := isA_of hA
      have hn := tgN_lt t (ck_lt (ckI_of h3)) _ _ h5
      have h4' : 0 ≤ q ∧ q < (n : Int) := h4
      refine ev_last hc ((hR.cell (ckI_of h3)).trans (congrArg some (cell_l h5))) (in_of hn h4) (K _ ?_)
      refine hR.up (ckI_of h3) h4'.1 (rg_l h5 h6) ?_
      rw [cell_l h5, cl_of hn h4]
      congr 5
      funext j
      unfold vp_updL su
      by_cases e : j = q.toNat
      · rw [if_pos e, if_pos ⟨rfl, by omega, rfl⟩]
      · rw [if_neg e, if_neg (fun g => e (by have := g.2.1; omega))]
theorem aMe_bast : AmeG G y pc ls st S M sz sl fr lo Q .bastore w x z := by
  intro k P pc' st' S' hc h hP hR K
  match st, h with
  | .inl v :: .inl q :: .inr (.inr (t, i)) :: r, h =>
    replace h : (match isA t x with
        | some n => bif Nat.beq x 2 then some (pAnd (pAnd (ckI t i) (ckA q n)) (some (v = 0 ∨ v = 1)), pc + 1, r, su S t i q v) else none
        | none => none) = some (P, pc', st', S') := h
    cases hA : isA t x with
    | none => rw [hA] at h; cases h
    | some n =>
      rw [hA] at h
      obtain ⟨h1, h2⟩ := cnd_some h
      cases h2
      have hx : x = 2 := by simpa using h1
      subst hx
      obtain ⟨h34, h6⟩ := pAnd_of hP
      obtain ⟨h3, h4⟩ := pAnd_of h34
      have h5 := isA_of hA
      have hn := tgN_lt t (ck_lt (ckI_of h3)) _ _ h5
      have h4' : 0 ≤ q ∧ q < (n : Int) := h4
      refine ev_bast hc ((hR.cell (ckI_of h3)).trans (congrArg some (cell_z h5))) (in_of hn h4) (nar_z h6).2.2 (K _ ?_)
      refine hR.up (ckI_of h3) h4'.1 (rg_z h5 h6) ?_
      rw [cell_z h5, cl_of hn h4]
      congr 4
      funext j
      unfold upd su
      by_cases e : j = q.toNat
      · rw [if_pos e, if_pos ⟨rfl, by omega, rfl⟩]
      · rw [if_neg e, if_neg (fun g => e (by have := g.2.1; omega))]
theorem aMe_alen : AmeG G y pc ls st S M sz sl fr lo Q .arraylength w x z := by
  intro k P pc' st' S' hc h hP hR K
  match st, h with
  | .inr (.inr (t, i)) :: r, h =>
    replace h : (bif Nat.beq t 70 && Nat.beq w 2 then some (none, pc + 1, .inl (G.xl : Int) :: r, S) else none) = some (P, pc', st', S') := h
    obtain ⟨h1, h2⟩ := cnd_some h
    cases h2
    rw [Bool.and_eq_true] at h1
    have ht : t = 70 := by simpa using h1.1
    have hw : w = 2 := by simpa using h1.2
    subst ht
    subst hw
    exact ev_alenX hc (K M hR)
theorem aMe_ok (hxl : G.xl < 2147483648) {ins : Instr} : AmeG G y pc ls st S M sz sl fr lo Q ins w x z := by
  intro k P pc' st' S' hc h hP hR K
  have h0 := h
  unfold aMe at h
  split at h
  · split at h
    · cases h
      refine ev_irem hc (i32_nz hP.2) ?_
      rw [i32_rem hP.1 hP.2]
      exact K M hR
    · cases h
  · split at h
    · cases h
      refine ev_idiv hc (i32_nz hP.2) ?_
      rw [i32_div hP.1 hP.2]
      exact K M hR
    · cases h
  · split at h
    · obtain ⟨h1, h2⟩ := cnd_some h
      cases h2
      exact aMe_get hc h1 hP hR (K M hR)
    · cases h
  · exact aMe_putf k P pc' st' S' hc h0 hP hR K
  · obtain ⟨h1, h2⟩ := cnd_some h
    cases h2
    refine ev_gets hc ?_
    have hx : x ≤ 1 := by simpa using h1
    rw [← ad_st (G := G) hx]
    exact K M hR
  · exact aMe_iald hxl k P pc' st' S' hc h0 hP hR K
  · exact aMe_lald k P pc' st' S' hc h0 hP hR K
  · exact aMe_bald k P pc' st' S' hc h0 hP hR K
  · exact aMe_aald k P pc' st' S' hc h0 hP hR K
  · exact aMe_iast k P pc' st' S' hc h0 hP hR K
  · exact aMe_last k P pc' st' S' hc h0 hP hR K
  · exact aMe_bast k P pc' st' S' hc h0 hP hR K
  · exact aMe_alen k P pc' st' S' hc h0 hP hR K
  · cases h
theorem arun_ok (hxl : G.xl < 2147483648) (n : Nat) {P : Option Prop} {pc' : Nat} {ls' : ALo} {st' : List AV} {S' : Sg} (h : arun G y n pc ls st S = some (P, pc', ls', st', S')) (hP : pOf P) (hR : Rep G S M) (K : ∀ M', Rep G S' M' → Ev G y pc' (mapL G ls') (st'.map (cv G)) M' sz sl fr lo Q) : Ev G y pc (mapL G ls) (st.map (cv G)) M sz sl fr lo Q := by
  induction n generalizing pc ls st S M P with
  | zero =>
    cases h
    exact K M hR
  | succ n ih =>
    simp only [arun] at h
    cases hc : (mm_pr y).bind (fun mi => mi.co pc) with
    | none => rw [hc] at h; cases h
    | some c =>
      obtain ⟨ins, w, x, z, k⟩ := c
      rw [hc] at h
      simp only at h
      cases hp : aPu ins k pc ls st with
      | some r =>
        obtain ⟨P1, pc1, ls1, st1⟩ := r
        rw [hp] at h
        simp only at h
        cases hr : arun G y n pc1 ls1 st1 S with
        | none => rw [hr] at h; cases h
        | some r2 =>
          obtain ⟨P2, c2⟩ := r2
          rw [hr] at h
          cases h
          obtain ⟨g1, g2⟩ := pAnd_of hP
          have e := aPu_ok (G := G) hp g1
          refine ev_run 1 (pc' := pc1) (ls' := mapL G ls1) (st' := st1.map (cv G)) ?_ (ih hr g2 hR)
          simp only [runN, hc, e]
      | none =>
        rw [hp] at h
        simp only at h
        cases hm : aMe G ins w x z pc st S with
        | none => rw [hm] at h; cases h
        | some r =>
          obtain ⟨P1, pc1, st1, S1⟩ := r
          rw [hm] at h
          simp only at h
          cases hr : arun G y n pc1 ls st1 S1 with
          | none => rw [hr] at h; cases h
          | some r2 =>
            obtain ⟨P2, c2⟩ := r2
            rw [hr] at h
            cases h
            obtain ⟨g1, g2⟩ := pAnd_of hP
            exact aMe_ok hxl k P1 pc1 st1 S1 hc hm g1 hR (fun M' hR' => ih hr g2 hR')
end AME
