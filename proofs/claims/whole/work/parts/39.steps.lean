/-! THE MODEL: how a copy is brought up to its master, a role at a time -/
theorem rotN_b (n : Nat) (B : Int) (b : Int × Int × Int × Int) (h1 : -B ≤ b.1 ∧ b.1 ≤ B) (h2 : -B ≤ b.2.1 ∧ b.2.1 ≤ B) (h3 : -B ≤ b.2.2.1 ∧ b.2.2.1 ≤ B) (h4 : -B ≤ b.2.2.2 ∧ b.2.2.2 ≤ B) : (-B ≤ (rotN n b).1 ∧ (rotN n b).1 ≤ B) ∧ (-B ≤ (rotN n b).2.1 ∧ (rotN n b).2.1 ≤ B) := by
  induction n generalizing b with
  | zero => exact ⟨h1, h2⟩
  | succ n ih =>
    unfold rotN
    exact ih _ (by dsimp only; omega) (by dsimp only; omega) (by dsimp only; omega) (by dsimp only; omega)
section ST
variable {A S : Sg}
theorem pose_b {c o : Int} (hc : okCh A c) (ho : okXY A o) (hn : near A o) : (-4000000 ≤ pX A c o ∧ pX A c o ≤ 4000000) ∧ (-4000000 ≤ pY A c o ∧ pY A c o ≤ 4000000) ∧ (0 ≤ pT A c o ∧ pT A c o < 4) := by
  have hw := pW_b ho
  have hh := pH_b ho
  have hb := rotN_b (A 2 c 3).toNat 1001000 (box0 A c o)
  unfold okCh at hc
  unfold near at hn
  have := hb (by unfold box0; split <;> (dsimp only; omega)) (by unfold box0; split <;> (dsimp only; omega)) (by unfold box0; split <;> (dsimp only; omega)) (by unfold box0; split <;> (dsimp only; omega))
  unfold pX pY pT
  omega
theorem Lk.rf (A : Sg) : Lk A A := fun _ _ => rfl
theorem Lk.tr {B : Sg} (h : Lk A B) (g : Lk B S) : Lk A S := fun t ht => (g t ht).trans (h t ht)
theorem Fr.rf (A : Sg) : Fr A A := fun _ _ => rfl
theorem Fr.tr {B : Sg} (h : Fr A B) (g : Fr B S) : Fr A S := fun t ht => (g t ht).trans (h t ht)
theorem CI.lk (h : CI A) (g : Lk A S) : CI S := by
  have e0 := g 0 (by decide)
  have e1 := g 1 (by decide)
  have e2 := g 2 (by decide)
  have e3 := g 3 (by decide)
  simp only [CI, CIn, CIp, CIc, CIm, CIt, CIl, labC, okXY, okCh, near, fresh, e0, e1, e2, e3] at h ⊢
  exact h
theorem su_lk {t : Nat} {i j v : Int} (h : Lk A S) : Lk (su A t i j v) (su S t i j v) := fun t' ht' => by
  funext a b
  unfold su
  rw [h t' ht']
theorem su_lk5 {t : Nat} {i j v : Int} (ht : 5 ≤ t) (h : Lk A S) : Lk A (su S t i j v) := fun t' ht' => by
  rw [su_tt _ (by omega)]
  exact h t' ht'
theorem fMv_lk {p x y t : Int} (h : Lk A S) : Lk (fMv A p x y t) (fMv S p x y t) := su_lk (su_lk (su_lk h))
theorem fPart_lk {w hh : Int} (h : Lk A S) : Lk (fPart A w hh) (fPart S w hh) := by
  unfold fPart
  rw [h 0 (by decide)]
  exact su_lk (su_lk (su_lk h))
theorem fJoin_lk {c p r : Int} (h : Lk A S) : Lk (fJoin A c p r) (fJoin S c p r) := by
  unfold fJoin
  rw [h 2 (by decide)]
  exact su_lk (su_lk (su_lk (su_lk h)))
/-- a role's pose is carried on -/
def cpS (S : Sg) (c r w h X Y T : Int) : Sg × Int :=
  if 0 ≤ S 3 c r ∧ S 3 c r < S 0 0 5 then
    (if S 1 (S 3 c r) 7 = 0 then (fMv S (S 3 c r) X Y T, if S 1 (S 3 c r) 2 = X ∧ S 1 (S 3 c r) 3 = Y ∧ S 1 (S 3 c r) 4 = T then 0 else 1)
     else (if S 1 (S 3 c r) 2 = X ∧ S 1 (S 3 c r) 3 = Y ∧ S 1 (S 3 c r) 4 = T then S else su S 0 0 8 (lOr (S 0 0 8) (lShl 1 (S 3 c r))), 0))
  else (if S 0 0 5 < 60 then (fJoin (fMv (fPart S w h) (S 0 0 5) X Y T) c (S 0 0 5) r, 1) else (S, 0))
theorem cpS_lk {c r w h X Y T : Int} (g : Lk A S) : Lk (cpS A c r w h X Y T).1 (cpS S c r w h X Y T).1 ∧ (cpS S c r w h X Y T).2 = (cpS A c r w h X Y T).2 := by
  unfold cpS
  rw [g 0 (by decide), g 1 (by decide), g 3 (by decide)]
  split
  · split
    · exact ⟨fMv_lk g, rfl⟩
    · refine ⟨?_, rfl⟩
      dsimp only
      split
      · exact g
      · exact su_lk g
  · split
    · exact ⟨fJoin_lk (fMv_lk (fPart_lk g)), rfl⟩
    · exact ⟨g, rfl⟩
theorem cpS_fr {c r w h X Y T : Int} : ∀ t : Nat, 5 ≤ t → (cpS S c r w h X Y T).1 t = S t := by
  intro t ht
  unfold cpS
  split
  · split
    · dsimp only
      unfold fMv
      rw [su_tt _ (by omega), su_tt _ (by omega), su_tt _ (by omega)]
    · dsimp only
      split
      · rfl
      · rw [su_tt _ (by omega)]
  · split
    · dsimp only
      unfold fJoin fMv fPart
      rw [su_tt _ (by omega), su_tt _ (by omega), su_tt _ (by omega), su_tt _ (by omega), su_tt _ (by omega), su_tt _ (by omega), su_tt _ (by omega), su_tt _ (by omega), su_tt _ (by omega), su_tt _ (by omega)]
    · rfl
theorem cpS_01 {c r w h X Y T : Int} : (cpS S c r w h X Y T).2 = 0 ∨ (cpS S c r w h X Y T).2 = 1 := by
  unfold cpS
  split
  · split
    · dsimp only
      split
      · exact Or.inl rfl
      · exact Or.inr rfl
    · exact Or.inl rfl
  · split
    · exact Or.inr rfl
    · exact Or.inl rfl
def stepA (A : Sg) (c r : Int) : Sg × Int :=
  if (0 ≤ A 2 c 0 ∧ A 2 c 0 < A 0 0 6) ∧ (0 ≤ A 3 (A 2 c 0) r ∧ A 3 (A 2 c 0) r < A 0 0 5) then cpS A c r (A 1 (A 3 (A 2 c 0) r) 0) (A 1 (A 3 (A 2 c 0) r) 1) (pX A c (A 3 (A 2 c 0) r)) (pY A c (A 3 (A 2 c 0) r)) (pT A c (A 3 (A 2 c 0) r)) else (A, 0)
theorem pose_lk {c o : Int} (g : Lk A S) : pX S c o = pX A c o ∧ pY S c o = pY A c o ∧ pT S c o = pT A c o := by
  unfold pX pY pT tn0 box0 pW pH
  rw [g 1 (by decide), g 2 (by decide)]
  exact ⟨rfl, rfl, rfl⟩
theorem mv_join {c p r x y t : Int} : fJoin (fMv A p x y t) c p r = fMv (fJoin A c p r) p x y t := by
  funext a b d
  unfold fJoin fMv
  simp only [su]
  by_cases h1 : a = 1
  · subst h1
    by_cases h2 : d = 2
    · subst h2; simp
    · by_cases h3 : d = 3
      · subst h3; simp
      · by_cases h4 : d = 4
        · subst h4; simp
        · simp [h2, h3, h4]
  · simp [h1]
theorem CI.step (h : CI A) {c r : Int} (hc : 0 ≤ c ∧ c < A 0 0 6) (hr : 0 ≤ r ∧ r < 20) : CI (stepA A c r).1 := by
  have h0 := h
  obtain ⟨h1, h2, h3, h4, h5, h6⟩ := h
  have n1 := h1.1
  have n2 := h1.2.1
  unfold stepA
  split
  · rename_i hok
    obtain ⟨k1, k2, k3, k4, k5⟩ := h3 c hc.1 (by omega)
    obtain ⟨q1, q2, q3, q4⟩ := h2 (A 3 (A 2 c 0) r) hok.2.1 (by omega)
    have hm : A 2 (A 2 c 0) 0 = -1 := by
      rcases k2 with k2 | k2
      · omega
      · exact k2.2
    have hmm := h4 (A 2 c 0) r hok.1.1 (by omega) hr.1 hr.2
    have hch : A 1 (A 3 (A 2 c 0) r) 5 = A 2 c 0 := by
      rcases hmm.1 with g | g
      · omega
      · exact g.2.1
    have hn := q4 (Or.inr (by rw [hch]; exact hm))
    have hb := pose_b k1 q1 hn
    have hq1 := q1
    unfold okXY at hq1
    obtain ⟨m1, m2⟩ := h4 c r hc.1 (by omega) hr.1 hr.2
    unfold cpS
    split
    · rename_i hown
      have hown2 : A 1 (A 3 c r) 5 = c := by
        rcases m1 with g | g
        · omega
        · exact g.2.1
      split
      · refine h0.mv hown hb.2.2 hb.1 hb.2.1 (fun g => ?_)
        rw [hown2] at g
        omega
      · dsimp only
        split
        · exact h0
        · exact h0.told hown
    · rename_i hown
      split
      · rename_i hlt
        dsimp only
        rw [mv_join]
        have c1 := h0.part hlt hq1.2.2.2.1 hq1.2.2.2.2
        have fr := (h2 (A 0 0 5) (by omega) (by omega)).2.2.1 (by omega)
        have c2 := c1.join (c := c) (p := A 0 0 5) (r := r) hc (show 0 ≤ A 0 0 5 ∧ A 0 0 5 < A 0 0 5 + 1 from by omega) hr fr.2.2.2.1 (show A 3 c r = -1 from by
          rcases m1 with g | g
          · exact g
          · omega) (fun _ => (show ¬ A 3 (A 2 c 0) r = -1 from by omega))
        refine c2.mv (show 0 ≤ A 0 0 5 ∧ A 0 0 5 < A 0 0 5 + 1 from by omega) hb.2.2 hb.1 hb.2.1 (fun g => ?_)
        rw [fJoin_5, if_pos rfl] at g
        replace g : c = -1 ∨ A 2 c 0 = -1 := g
        omega
      · exact h0
  · exact h0
/-- what a step leaves as it is -/
theorem step_keep {c r : Int} : (stepA A c r).1 0 0 6 = A 0 0 6 ∧ (stepA A c r).1 0 0 7 = A 0 0 7 ∧ (stepA A c r).1 4 = A 4 ∧ (∀ i j, ¬ j = 5 → (stepA A c r).1 2 i j = A 2 i j) ∧ (∀ i q, ¬ i = c → (stepA A c r).1 3 i q = A 3 i q) := by
  unfold stepA
  split
  · unfold cpS
    split
    · split
      · exact ⟨rfl, rfl, rfl, fun _ _ _ => rfl, fun _ _ _ => rfl⟩
      · dsimp only
        split
        · exact ⟨rfl, rfl, rfl, fun _ _ _ => rfl, fun _ _ _ => rfl⟩
        · exact ⟨rfl, rfl, rfl, fun _ _ _ => rfl, fun _ _ _ => rfl⟩
    · split
      · refine ⟨rfl, rfl, rfl, fun i j hj => ?_, fun i q hi => ?_⟩
        · show su A 2 c 5 _ 2 i j = A 2 i j
          exact su_j _ hj
        · show su A 3 c r _ 3 i q = A 3 i q
          exact su_i _ hi
      · exact ⟨rfl, rfl, rfl, fun _ _ _ => rfl, fun _ _ _ => rfl⟩
  · exact ⟨rfl, rfl, rfl, fun _ _ _ => rfl, fun _ _ _ => rfl⟩
theorem step_lk {c r : Int} (g : Lk A S) : Lk (stepA A c r).1 (stepA S c r).1 ∧ (stepA S c r).2 = (stepA A c r).2 := by
  unfold stepA
  obtain ⟨e1, e2, e3⟩ := pose_lk (c := c) (o := A 3 (A 2 c 0) r) g
  rw [g 0 (by decide), g 1 (by decide), g 2 (by decide), g 3 (by decide), e1, e2, e3]
  split
  · exact cpS_lk g
  · exact ⟨g, rfl⟩
def ctF : Nat → Sg → Int → Int → Int → Sg × Int
  | 0, A, _, _, q => (A, q)
  | n + 1, A, c, r, q => ctF n (stepA A c r).1 c (r + 1) (q + (stepA A c r).2)
theorem step_01 {c r : Int} : (stepA A c r).2 = 0 ∨ (stepA A c r).2 = 1 := by
  unfold stepA
  split
  · exact cpS_01
  · exact Or.inl rfl
theorem CI.ct (n : Nat) (h : CI A) {c r q : Int} (hc : 0 ≤ c ∧ c < A 0 0 6) (hr : 0 ≤ r ∧ r + n ≤ 20) : CI (ctF n A c r q).1 := by
  induction n generalizing A r q with
  | zero => exact h
  | succ n ih =>
    unfold ctF
    refine ih (h.step hc (by omega)) ?_ (by omega)
    rw [step_keep.1]
    exact hc
theorem ct_keep (n : Nat) {c r q : Int} : (ctF n A c r q).1 0 0 6 = A 0 0 6 ∧ (ctF n A c r q).1 0 0 7 = A 0 0 7 ∧ (ctF n A c r q).1 4 = A 4 ∧ (∀ i j, ¬ j = 5 → (ctF n A c r q).1 2 i j = A 2 i j) ∧ (∀ i q', ¬ i = c → (ctF n A c r q).1 3 i q' = A 3 i q') := by
  induction n generalizing A r q with
  | zero => exact ⟨rfl, rfl, rfl, fun _ _ _ => rfl, fun _ _ _ => rfl⟩
  | succ n ih =>
    unfold ctF
    obtain ⟨a1, a2, a3, a4, a5⟩ := ih (A := (stepA A c r).1) (r := r + 1) (q := q + (stepA A c r).2)
    obtain ⟨b1, b2, b3, b4, b5⟩ := step_keep (A := A) (c := c) (r := r)
    exact ⟨a1.trans b1, a2.trans b2, a3.trans b3, fun i j hj => (a4 i j hj).trans (b4 i j hj), fun i q' hi => (a5 i q' hi).trans (b5 i q' hi)⟩
theorem ct_b (n : Nat) {c r q : Int} : q ≤ (ctF n A c r q).2 ∧ (ctF n A c r q).2 ≤ q + n := by
  induction n generalizing A r q with
  | zero => exact ⟨Int.le_refl _, by show q ≤ q + ((0 : Nat) : Int); omega⟩
  | succ n ih =>
    unfold ctF
    have := ih (A := (stepA A c r).1) (r := r + 1) (q := q + (stepA A c r).2)
    have := step_01 (A := A) (c := c) (r := r)
    omega
theorem CI.orig (h : CI A) {c r : Int} (hc : 0 ≤ c ∧ c < 20) (hr : 0 ≤ r ∧ r < 20) (hok : (0 ≤ A 2 c 0 ∧ A 2 c 0 < A 0 0 6) ∧ (0 ≤ A 3 (A 2 c 0) r ∧ A 3 (A 2 c 0) r < A 0 0 5)) : okXY A (A 3 (A 2 c 0) r) ∧ near A (A 3 (A 2 c 0) r) := by
  obtain ⟨h1, h2, h3, h4, h5, h6⟩ := h
  have n1 := h1.1
  have n2 := h1.2.1
  obtain ⟨k1, k2, k3, k4, k5⟩ := h3 c hc.1 hc.2
  obtain ⟨q1, q2, q3, q4⟩ := h2 (A 3 (A 2 c 0) r) hok.2.1 (by omega)
  have hm : A 2 (A 2 c 0) 0 = -1 := by
    rcases k2 with k2 | k2
    · omega
    · exact k2.2
  have hmm := h4 (A 2 c 0) r hok.1.1 (by omega) hr.1 hr.2
  have hch : A 1 (A 3 (A 2 c 0) r) 5 = A 2 c 0 := by
    rcases hmm.1 with g | g
    · omega
    · exact g.2.1
  exact ⟨q1, q4 (Or.inr (by rw [hch]; exact hm))⟩
theorem CI.size (h : CI A) {c : Int} (hc : 0 ≤ c ∧ c < 20) : 0 ≤ A 2 c 5 ∧ A 2 c 5 ≤ 20 := by
  have := (h.2.2.1 c hc.1 hc.2).2.2.2.2
  rw [this]
  have := cntF_b (fun r => decide (¬ A 3 c r = -1)) 20 0
  omega
theorem ctF_succ {n : Nat} {c r q : Int} : ctF (n + 1) A c r q = ctF n (stepA A c r).1 c (r + 1) (q + (stepA A c r).2) := rfl
theorem step_no {c r : Int} (hL : Lk A S) (h : ¬ ((0 ≤ S 2 c 0 ∧ S 2 c 0 < S 0 0 6) ∧ (0 ≤ S 3 (S 2 c 0) r ∧ S 3 (S 2 c 0) r < S 0 0 5))) : stepA A c r = (A, 0) := by
  rw [hL 0 (by decide), hL 2 (by decide), hL 3 (by decide)] at h
  unfold stepA
  rw [if_neg h]
/-- the class's step is the model's -/
theorem step_of {S1 : Sg} {c r : Int} (hL : Lk A S) (h0 : ∀ t : Nat, t ≠ 5 → S1 t = S t) (hok : (0 ≤ S 2 c 0 ∧ S 2 c 0 < S 0 0 6) ∧ (0 ≤ S 3 (S 2 c 0) r ∧ S 3 (S 2 c 0) r < S 0 0 5)) (q1 : S1 5 0 0 = S 1 (S 3 (S 2 c 0) r) 0) (q2 : S1 5 0 1 = S 1 (S 3 (S 2 c 0) r) 1) (q3 : S1 5 0 2 = pX S c (S 3 (S 2 c 0) r)) (q4 : S1 5 0 3 = pY S c (S 3 (S 2 c 0) r)) (q5 : S1 5 0 6 = pT S c (S 3 (S 2 c 0) r)) : Lk (stepA A c r).1 (cpS S1 c r (S1 5 0 0) (S1 5 0 1) (S1 5 0 2) (S1 5 0 3) (S1 5 0 6)).1 ∧ (cpS S1 c r (S1 5 0 0) (S1 5 0 1) (S1 5 0 2) (S1 5 0 3) (S1 5 0 6)).2 = (stepA A c r).2 ∧ Fr S (cpS S1 c r (S1 5 0 0) (S1 5 0 1) (S1 5 0 2) (S1 5 0 3) (S1 5 0 6)).1 := by
  obtain ⟨g1, g2⟩ := step_lk (c := c) (r := r) hL
  have hS : Lk S S1 := fun t ht => h0 t (by omega)
  rw [q1, q2, q3, q4, q5]
  obtain ⟨k1, k2⟩ := cpS_lk (c := c) (r := r) (w := S 1 (S 3 (S 2 c 0) r) 0) (h := S 1 (S 3 (S 2 c 0) r) 1) (X := pX S c (S 3 (S 2 c 0) r)) (Y := pY S c (S 3 (S 2 c 0) r)) (T := pT S c (S 3 (S 2 c 0) r)) hS
  have e : stepA S c r = cpS S c r (S 1 (S 3 (S 2 c 0) r) 0) (S 1 (S 3 (S 2 c 0) r) 1) (pX S c (S 3 (S 2 c 0) r)) (pY S c (S 3 (S 2 c 0) r)) (pT S c (S 3 (S 2 c 0) r)) := by
    conv => lhs; unfold stepA
    rw [if_pos hok]
  rw [← e] at k1 k2
  exact ⟨g1.tr k1, k2.trans g2, fun t ht => (cpS_fr t (by omega)).trans (h0 t (by omega))⟩
end ST
