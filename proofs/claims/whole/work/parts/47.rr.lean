/-! HOW THE REFERENCE'S STORE SHOWS THE MODEL -/
def RRn (A S : Sg) : Prop := S 20 0 1 = A 0 0 5 ∧ S 20 0 10 = A 0 0 6 ∧ S 20 0 17 = A 0 0 7
def RRp (A S : Sg) : Prop := ∀ i, 0 ≤ i → i < 60 → S 22 0 i = A 1 i 0 ∧ S 23 0 i = A 1 i 1 ∧ S 24 0 i = A 1 i 2 ∧ S 25 0 i = A 1 i 3 ∧ S 26 0 i = A 1 i 4 ∧ S 29 0 i = A 1 i 7
def RRq (A S : Sg) : Prop := ∀ i, 0 ≤ i → i < A 0 0 5 → S 27 0 i = A 1 i 5 ∧ S 28 0 i = A 1 i 6
def RRc (A S : Sg) : Prop := ∀ c, 0 ≤ c → c < A 0 0 6 → S 31 0 c = A 2 c 0 ∧ S 32 0 c = A 2 c 1 ∧ S 33 0 c = A 2 c 2 ∧ S 34 0 c = A 2 c 3 ∧ S 35 0 c = A 2 c 4
def b01 (b : Bool) : Int := if b = true then 1 else 0
def RRt (A S : Sg) : Prop := ∀ p, 0 ≤ p → p < 60 → S 36 0 p = b01 (bt (A 0 0 8) p)
def RRr (A S : Sg) : Prop := (∀ r, 0 ≤ r → r < A 0 0 7 → S 38 0 (4 * r) = A 4 r 0 ∧ S 38 0 (4 * r + 1) = A 4 r 1 ∧ S 38 0 (4 * r + 2) = A 4 r 2 ∧ S 38 0 (4 * r + 3) = A 4 r 3) ∧ ∀ r p, 0 ≤ r → r < 10 → 0 ≤ p → p < 60 → S 39 0 (60 * r + p) = b01 (bt (A 4 r 4) p)
def RRl (A S : Sg) : Prop := ∀ i, 0 ≤ i → i < 60 → S 40 0 i = (if A 1 i 8 = 1 then A 1 i 9 else 0) ∧ (A 1 i 8 = 1 → S 41 0 i = A 1 i 10 ∧ S 42 0 i = A 1 i 11)
def RR (A S : Sg) : Prop := RRn A S ∧ RRp A S ∧ RRq A S ∧ RRc A S ∧ RRt A S ∧ RRr A S ∧ RRl A S
def Fx (S S' : Sg) : Prop := ∀ t : Nat, (t < 20 ∨ t = 51) → S' t = S t
def Fc (S S' : Sg) : Prop := Fx S S' ∧ S' 20 0 0 = S 20 0 0
section RRs
variable {A S : Sg}
theorem Fc.rf (S : Sg) : Fc S S := ⟨fun _ _ => rfl, rfl⟩
theorem Fc.tr {S1 S2 : Sg} (h : Fc S S1) (g : Fc S1 S2) : Fc S S2 := ⟨fun t ht => (g.1 t ht).trans (h.1 t ht), g.2.trans h.2⟩
theorem Fc.put {S1 : Sg} {t : Nat} {i j v : Int} (h : Fc S S1) (ht : 20 < t ∧ t ≠ 51) : Fc S (su S1 t i j v) := ⟨fun t' ht' => (su_tt _ (by omega)).trans (h.1 t' ht'), (su_t _ (by omega)).trans h.2⟩
theorem Fc.puto {S1 : Sg} {j v : Int} (h : Fc S S1) (hj : ¬ j = 0) : Fc S (su S1 20 0 j v) := ⟨fun t' ht' => (su_tt _ (by omega)).trans (h.1 t' ht'), (su_j _ (fun q => hj q.symm)).trans h.2⟩
theorem Fc.thr {S1 : Sg} {v : Int} (h : Fc (su S 20 0 0 v) S1) : Fx S S1 ∧ S1 20 0 0 = v := ⟨fun t ht => (h.1 t ht).trans (su_tt _ (by omega)), h.2.trans (su_same _)⟩
theorem Fc.of36 {S1 : Sg} (h : ∀ t : Nat, t ≠ 36 → S1 t = S t) : Fc S S1 := ⟨fun t ht => h t (by omega), by rw [h 20 (by decide)]⟩
theorem Lk.fd {S1 : Sg} (h : Lk A S) (g : Fx S S1) : Lk A S1 := fun t ht => (g t (by omega)).trans (h t ht)
theorem RR.fr {S1 : Sg} (h : RR A S) (g : Fr S S1) : RR A S1 := by
  have e20 := g 20 (by decide)
  have e22 := g 22 (by decide)
  have e23 := g 23 (by decide)
  have e24 := g 24 (by decide)
  have e25 := g 25 (by decide)
  have e26 := g 26 (by decide)
  have e27 := g 27 (by decide)
  have e28 := g 28 (by decide)
  have e29 := g 29 (by decide)
  have e31 := g 31 (by decide)
  have e32 := g 32 (by decide)
  have e33 := g 33 (by decide)
  have e34 := g 34 (by decide)
  have e35 := g 35 (by decide)
  have e36 := g 36 (by decide)
  have e38 := g 38 (by decide)
  have e39 := g 39 (by decide)
  have e40 := g 40 (by decide)
  have e41 := g 41 (by decide)
  have e42 := g 42 (by decide)
  simp only [RR, RRn, RRp, RRq, RRc, RRt, RRr, RRl, e20, e22, e23, e24, e25, e26, e27, e28, e29, e31, e32, e33, e34, e35, e36, e38, e39, e40, e41, e42] at h ⊢
  exact h
/-- a slot of the reference's object that shows nothing -/
theorem RR.ob {j v : Int} (h : RR A S) (h1 : ¬ j = 1) (h2 : ¬ j = 10) (h3 : ¬ j = 17) : RR A (su S 20 0 j v) := by
  refine ⟨?_, h.2⟩
  obtain ⟨a, b, c⟩ := h.1
  exact ⟨(su_j _ (fun q => h1 q.symm)).trans a, (su_j _ (fun q => h2 q.symm)).trans b, (su_j _ (fun q => h3 q.symm)).trans c⟩
theorem RR.thr {v : Int} (h : RR A S) : RR A (su S 20 0 0 v) := h.ob (by decide) (by decide) (by decide)
/-- an array that shows nothing -/
theorem RR.ar {t : Nat} {i j v : Int} (h : RR A S) (ht : 46 ≤ t) : RR A (su S t i j v) := by
  have e : ∀ t' : Nat, t' < 46 → su S t i j v t' = S t' := fun t' h' => su_tt _ (by omega)
  have e20 := e 20 (by decide)
  have e22 := e 22 (by decide)
  have e23 := e 23 (by decide)
  have e24 := e 24 (by decide)
  have e25 := e 25 (by decide)
  have e26 := e 26 (by decide)
  have e27 := e 27 (by decide)
  have e28 := e 28 (by decide)
  have e29 := e 29 (by decide)
  have e31 := e 31 (by decide)
  have e32 := e 32 (by decide)
  have e33 := e 33 (by decide)
  have e34 := e 34 (by decide)
  have e35 := e 35 (by decide)
  have e36 := e 36 (by decide)
  have e38 := e 38 (by decide)
  have e39 := e 39 (by decide)
  have e40 := e 40 (by decide)
  have e41 := e 41 (by decide)
  have e42 := e 42 (by decide)
  simp only [RR, RRn, RRp, RRq, RRc, RRt, RRr, RRl, e20, e22, e23, e24, e25, e26, e27, e28, e29, e31, e32, e33, e34, e35, e36, e38, e39, e40, e41, e42] at h ⊢
  exact h
theorem suA {t : Nat} {q v q' : Int} : su S t 0 q v t 0 q' = if q' = q then v else S t 0 q' := by
  unfold su
  by_cases e : q' = q <;> simp [e]
theorem RR.mv {p x y t : Int} (h : RR A S) : RR (fMv A p x y t) (gMv S p x y t) := by
  obtain ⟨h1, h2, h3, h4, h5, h6, h7⟩ := h
  refine ⟨h1, fun i i0 i1 => ?_, h3, h4, h5, h6, h7⟩
  obtain ⟨a1, a2, a3, a4, a5, a6⟩ := h2 i i0 i1
  refine ⟨a1, a2, ?_, ?_, ?_, a6⟩
  · rw [fMv_2]
    show su S 24 0 p x 24 0 i = _
    rw [suA, a3]
  · rw [fMv_3]
    show su S 25 0 p y 25 0 i = _
    rw [suA, a4]
  · rw [fMv_4]
    show su S 26 0 p t 26 0 i = _
    rw [suA, a5]
theorem RR.part {w hh : Int} (h : RR A S) (hf : A 1 (A 0 0 5) 5 = -1 ∧ A 1 (A 0 0 5) 6 = -1) : RR (fPart A w hh) (gAdd S w hh) := by
  obtain ⟨h1, h2, h3, h4, h5, h6, h7⟩ := h
  have e1 := h1.1
  refine ⟨⟨(show S 20 0 1 + 1 = A 0 0 5 + 1 from by rw [e1]), h1.2⟩, fun i i0 i1 => ?_, fun i i0 (i1 : i < A 0 0 5 + 1) => ?_, h4, h5, h6, h7⟩
  · obtain ⟨a1, a2, a3, a4, a5, a6⟩ := h2 i i0 i1
    refine ⟨?_, ?_, a3, a4, a5, a6⟩
    · rw [fPart_0]
      show su S 22 0 (S 20 0 1) w 22 0 i = _
      rw [suA, a1, e1]
    · rw [fPart_1]
      show su S 23 0 (S 20 0 1) hh 23 0 i = _
      rw [suA, a2, e1]
  · show su S 27 0 (S 20 0 1) (-1) 27 0 i = A 1 i 5 ∧ su S 28 0 (S 20 0 1) (-1) 28 0 i = A 1 i 6
    rw [suA, suA, e1]
    by_cases e : i = A 0 0 5
    · subst e
      rw [if_pos rfl, if_pos rfl, hf.1, hf.2]
      exact ⟨rfl, rfl⟩
    · rw [if_neg e, if_neg e]
      exact h3 i i0 (by omega)
def gJoin (S : Sg) (c p r : Int) : Sg := su (su S 27 0 p c) 28 0 p r
theorem RR.join {c p r : Int} (h : RR A S) : RR (fJoin A c p r) (gJoin S c p r) := by
  obtain ⟨h1, h2, h3, h4, h5, h6, h7⟩ := h
  refine ⟨h1, h2, fun i i0 i1 => ?_, h4, h5, h6, h7⟩
  rw [fJoin_5, fJoin_6]
  show su S 27 0 p c 27 0 i = _ ∧ su S 28 0 p r 28 0 i = _
  have := h3 i i0 i1
  rw [suA, suA, this.1, this.2]
  exact ⟨rfl, rfl⟩
theorem RR.hand {p : Int} (h : RR A S) : RR (su A 1 p 7 1) (su S 29 0 p 1) := by
  obtain ⟨h1, h2, h3, h4, h5, h6, h7⟩ := h
  refine ⟨h1, fun i i0 i1 => ?_, h3, h4, h5, h6, h7⟩
  obtain ⟨a1, a2, a3, a4, a5, a6⟩ := h2 i i0 i1
  refine ⟨a1, a2, a3, a4, a5, ?_⟩
  rw [suA, su_eq, a6]
theorem RR.nch {m dx dy t : Int} (h : RR A S) (hz : A 2 (A 0 0 6) 4 = 0) : RR (newCh A m dx dy t) (gCh S m dx dy t) := by
  obtain ⟨h1, h2, h3, h4, h5, h6, h7⟩ := h
  have e1 := h1.2.1
  refine ⟨⟨h1.1, (show S 20 0 10 + 1 = A 0 0 6 + 1 from by rw [e1]), h1.2.2⟩, h2, h3, fun c c0 (c1 : c < A 0 0 6 + 1) => ?_, h5, h6, h7⟩
  rw [newCh_20, newCh_21, newCh_22, newCh_23]
  show su S 31 0 (S 20 0 10) m 31 0 c = _ ∧ su S 32 0 (S 20 0 10) dx 32 0 c = _ ∧ su S 33 0 (S 20 0 10) dy 33 0 c = _ ∧ su S 34 0 (S 20 0 10) t 34 0 c = _ ∧ su S 35 0 (S 20 0 10) 0 35 0 c = A 2 c 4
  rw [suA, suA, suA, suA, suA, e1]
  by_cases e : c = A 0 0 6
  · subst e
    simp [hz]
  · rw [if_neg e, if_neg e, if_neg e, if_neg e, if_neg e, if_neg e, if_neg e, if_neg e, if_neg e]
    exact h4 c c0 (by omega)
/-- a channel of one's own -/
theorem RR.chan (h : RR A S) (hz : A 2 (A 0 0 6) 0 = -1 ∧ A 2 (A 0 0 6) 1 = 0 ∧ A 2 (A 0 0 6) 2 = 0 ∧ A 2 (A 0 0 6) 3 = 0 ∧ A 2 (A 0 0 6) 4 = 0) : RR (su A 0 0 6 (A 0 0 6 + 1)) (gCh S (-1) 0 0 0) := by
  obtain ⟨h1, h2, h3, h4, h5, h6, h7⟩ := h
  have e1 := h1.2.1
  refine ⟨⟨h1.1, (show S 20 0 10 + 1 = A 0 0 6 + 1 from by rw [e1]), h1.2.2⟩, h2, h3, fun c c0 (c1 : c < A 0 0 6 + 1) => ?_, h5, h6, h7⟩
  show su S 31 0 (S 20 0 10) (-1) 31 0 c = A 2 c 0 ∧ su S 32 0 (S 20 0 10) 0 32 0 c = A 2 c 1 ∧ su S 33 0 (S 20 0 10) 0 33 0 c = A 2 c 2 ∧ su S 34 0 (S 20 0 10) 0 34 0 c = A 2 c 3 ∧ su S 35 0 (S 20 0 10) 0 35 0 c = A 2 c 4
  rw [suA, suA, suA, suA, suA, e1]
  by_cases e : c = A 0 0 6
  · subst e
    simp [hz]
  · rw [if_neg e, if_neg e, if_neg e, if_neg e, if_neg e]
    exact h4 c c0 (by omega)
theorem RR.told {p : Int} (h : RR A S) (hp : 0 ≤ p ∧ p < 60) : RR (su A 0 0 8 (lOr (A 0 0 8) (lShl 1 p))) (su S 36 0 p 1) := by
  obtain ⟨h1, h2, h3, h4, h5, h6, h7⟩ := h
  refine ⟨h1, h2, h3, h4, fun q q0 q1 => ?_, h6, h7⟩
  show _ = b01 (bt (lOr (A 0 0 8) (lShl 1 p)) q)
  rw [suA, bt_or (by omega) (by omega)]
  by_cases e : q = p
  · subst e
    simp [b01]
  · rw [if_neg e, h5 q q0 q1]
    simp [e]
theorem RR.room {a b c d : Int} (h : RR A S) (hn : 0 ≤ A 0 0 7) : RR (fRoom A a b c d) (gRoom S a b c d) := by
  obtain ⟨h1, h2, h3, h4, h5, h6, h7⟩ := h
  have e1 := h1.2.2
  refine ⟨⟨h1.1, h1.2.1, (show S 20 0 17 + 1 = A 0 0 7 + 1 from by rw [e1])⟩, h2, h3, h4, h5, ⟨fun r r0 (r1 : r < A 0 0 7 + 1) => ?_, fun r p r0 r1 p0 p1 => ?_⟩, h7⟩
  · show su (su (su (su S 38 0 (4 * S 20 0 17) a) 38 0 (4 * S 20 0 17 + 1) b) 38 0 (4 * S 20 0 17 + 2) c) 38 0 (4 * S 20 0 17 + 3) d 38 0 (4 * r) = su A 4 (A 0 0 7) 0 a 4 r 0 ∧ su (su (su (su S 38 0 (4 * S 20 0 17) a) 38 0 (4 * S 20 0 17 + 1) b) 38 0 (4 * S 20 0 17 + 2) c) 38 0 (4 * S 20 0 17 + 3) d 38 0 (4 * r + 1) = su A 4 (A 0 0 7) 1 b 4 r 1 ∧ su (su (su (su S 38 0 (4 * S 20 0 17) a) 38 0 (4 * S 20 0 17 + 1) b) 38 0 (4 * S 20 0 17 + 2) c) 38 0 (4 * S 20 0 17 + 3) d 38 0 (4 * r + 2) = su A 4 (A 0 0 7) 2 c 4 r 2 ∧ su (su (su (su S 38 0 (4 * S 20 0 17) a) 38 0 (4 * S 20 0 17 + 1) b) 38 0 (4 * S 20 0 17 + 2) c) 38 0 (4 * S 20 0 17 + 3) d 38 0 (4 * r + 3) = su A 4 (A 0 0 7) 3 d 4 r 3
    simp only [suA, su_eq, e1]
    by_cases e : r = A 0 0 7
    · subst e
      refine ⟨?_, ?_, ?_, ?_⟩
      · rw [if_neg (by omega), if_neg (by omega), if_neg (by omega), if_pos rfl, if_pos rfl]
      · rw [if_neg (by omega), if_neg (by omega), if_pos rfl, if_pos rfl]
      · rw [if_neg (by omega), if_pos rfl, if_pos rfl]
      · rw [if_pos rfl, if_pos rfl]
    · have := h6.1 r r0 (by omega)
      rw [if_neg (by omega), if_neg (by omega), if_neg (by omega), if_neg (by omega), if_neg (by omega), if_neg (by omega), if_neg (by omega), if_neg (by omega), if_neg (by omega), if_neg (by omega), if_neg (by omega), if_neg (by omega), if_neg (by omega), if_neg (by omega), if_neg (by omega), if_neg (by omega), if_neg (by omega), if_neg (by omega), if_neg (by omega), if_neg (by omega)]
      exact this
  · exact h6.2 r p r0 r1 p0 p1
theorem RR.memb {r p : Int} (h : RR A S) (hr : 0 ≤ r ∧ r < 10) (hp : 0 ≤ p ∧ p < 60) : RR (fMemb A r p) (su S 39 0 (60 * r + p) 1) := by
  obtain ⟨h1, h2, h3, h4, h5, h6, h7⟩ := h
  refine ⟨h1, h2, h3, h4, h5, ⟨h6.1, fun r' p' r0 r1 p0 p1 => ?_⟩, h7⟩
  rw [suA]
  show _ = b01 (bt (su A 4 r 4 (lOr (A 4 r 4) (lShl 1 p)) 4 r' 4) p')
  rw [su_eq]
  by_cases e : r' = r
  · subst e
    rw [if_pos rfl, bt_or (by omega) (by omega)]
    by_cases e2 : p' = p
    · subst e2
      rw [if_pos rfl]
      simp [b01]
    · rw [if_neg (by omega), h6.2 r' p' r0 r1 p0 p1]
      simp [e2]
  · rw [if_neg (by omega), if_neg e]
    exact h6.2 r' p' r0 r1 p0 p1
theorem rWH {i : Int} (h : RR A S) (hi : 0 ≤ i ∧ i < 60) : rW S i = pW A i ∧ rH S i = pH A i := by
  obtain ⟨a1, a2, a3, a4, a5, a6⟩ := h.2.1 i hi.1 hi.2
  unfold rW rH pW pH
  rw [a1, a2, a5]
  exact ⟨rfl, rfl⟩
end RRs
