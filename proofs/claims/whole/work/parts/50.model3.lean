/-! THE MODEL: what the reference's copies need -/
section M3
variable {A S : Sg}
theorem RR.adm {w hh X Y T c r : Int} (hR : RR A S) (hf : A 1 (A 0 0 5) 5 = -1 ∧ A 1 (A 0 0 5) 6 = -1) : RR (fJoin (fMv (fPart A w hh) (A 0 0 5) X Y T) c (A 0 0 5) r) (gJoin (gMv (gAdd S w hh) (S 20 0 1) X Y T) c (S 20 0 1) r) := by
  have e1 := hR.1.1
  have : ∀ n, n = S 20 0 1 → RR (fJoin (fMv (fPart A w hh) n X Y T) c n r) (gJoin (gMv (gAdd S w hh) (S 20 0 1) X Y T) c (S 20 0 1) r) := fun n hn => by
    subst hn
    exact ((hR.part hf).mv).join
  exact this _ e1.symm
theorem CI.fr (h : CI A) (hn : A 0 0 5 < 60) : A 1 (A 0 0 5) 5 = -1 ∧ A 1 (A 0 0 5) 6 = -1 := by
  have n1 := h.1.1
  have := (h.2.1 (A 0 0 5) (by omega) hn).2.2.1 (by omega)
  unfold fresh at this
  exact ⟨this.2.2.2.1, this.2.2.2.2.1⟩
/-- how many roles from one on are taken -/
def rem (A : Sg) (m : Int) (n : Nat) (r : Int) : Int := cntF (fun q => decide (¬ A 3 m q = -1)) n r
/-- a new copy's step -/
theorem step_new {m c r : Int} (h : CI A) (hc : 0 ≤ c ∧ c < A 0 0 6) (hm : A 2 c 0 = m) (hm2 : 0 ≤ m ∧ m < A 0 0 6) (hr : 0 ≤ r ∧ r < 20) (ho : A 3 c r = -1) (hn : A 0 0 5 < 60) (hx : ¬ A 3 m r = -1) : stepA A c r = (fJoin (fMv (fPart A (A 1 (A 3 m r) 0) (A 1 (A 3 m r) 1)) (A 0 0 5) (pX A c (A 3 m r)) (pY A c (A 3 m r)) (pT A c (A 3 m r))) c (A 0 0 5) r, 1) := by
  have n2 := h.1.2.1
  subst hm
  have hv : 0 ≤ A 3 (A 2 c 0) r ∧ A 3 (A 2 c 0) r < A 0 0 5 := by
    rcases (h.2.2.2.1 (A 2 c 0) r hm2.1 (by omega) hr.1 hr.2).1 with g | g
    · omega
    · exact g.1
  unfold stepA
  rw [if_pos ⟨hm2, hv⟩]
  unfold cpS
  rw [if_neg (by omega), if_pos hn]
theorem step_none {m c r : Int} (hm : A 2 c 0 = m) (hx : A 3 m r = -1) : stepA A c r = (A, 0) := by
  subst hm
  unfold stepA
  rw [if_neg (by omega)]
theorem ct_q (n : Nat) {c r q q' : Int} : (ctF n A c r q).1 = (ctF n A c r q').1 := by
  induction n generalizing A r q q' with
  | zero => rfl
  | succ n ih =>
    unfold ctF
    exact ih
theorem step_size {c r i : Int} (h : ¬ i = c) : (stepA A c r).1 2 i 5 = A 2 i 5 := by
  unfold stepA
  split
  · unfold cpS
    split
    · split
      · rfl
      · dsimp only
        split <;> rfl
    · split
      · show su A 2 c 5 _ 2 i 5 = _
        exact su_i _ h
      · rfl
  · rfl
theorem ct_size (n : Nat) {c r q i : Int} (h : ¬ i = c) : (ctF n A c r q).1 2 i 5 = A 2 i 5 := by
  induction n generalizing A r q with
  | zero => rfl
  | succ n ih =>
    unfold ctF
    rw [ih]
    exact step_size h
/-- a new copy has as many parts as its master -/
theorem ct_new (n : Nat) {m c r q : Int} (h : CI A) (hc : 0 ≤ c ∧ c < A 0 0 6) (hm : A 2 c 0 = m) (hm2 : 0 ≤ m ∧ m < A 0 0 6) (hmc : ¬ m = c) (hr : 0 ≤ r ∧ r + n = 20) (ho : ∀ r', r ≤ r' → r' < 20 → A 3 c r' = -1) (hn : A 0 0 5 + rem A m n r ≤ 60) : (ctF n A c r q).1 0 0 5 = A 0 0 5 + rem A m n r := by
  induction n generalizing A r q with
  | zero => show A 0 0 5 = A 0 0 5 + 0; omega
  | succ n ih =>
    have hb := cntF_b (fun q => decide (¬ A 3 m q = -1)) n (r + 1)
    have e : rem A m (n + 1) r = (if decide (¬ A 3 m r = -1) = true then 1 else 0) + rem A m n (r + 1) := rfl
    unfold ctF
    by_cases hx : A 3 m r = -1
    · rw [step_none hm hx]
      rw [if_neg (by simp [hx])] at e
      rw [e] at hn ⊢
      have := ih (A := A) (r := r + 1) (q := q + 0) h hc hm hm2 (by omega) (fun r' h1 h2 => ho r' (by omega) h2) (by omega)
      rw [show (A, (0 : Int)).1 = A from rfl, show (A, (0 : Int)).2 = 0 from rfl, this]
      omega
    · rw [if_pos (by simp [hx])] at e
      rw [e] at hn ⊢
      unfold rem at hn ⊢
      have hst := step_new h hc hm hm2 (by omega) (ho r (by omega) (by omega)) (by omega) hx
      obtain ⟨k1, k2, k3, k4, k5⟩ := step_keep (A := A) (c := c) (r := r)
      have hci := h.step hc (r := r) (by omega)
      have e5 : (stepA A c r).1 0 0 5 = A 0 0 5 + 1 := by rw [hst]; rfl
      have er : rem (stepA A c r).1 m n (r + 1) = rem A m n (r + 1) := by
        unfold rem
        exact cntF_ext _ _ (fun q h1 h2 => by rw [k5 m q hmc])
      unfold rem at er
      have := ih (A := (stepA A c r).1) (r := r + 1) (q := q + (stepA A c r).2) hci (by rw [k1]; exact hc) (by rw [k4 c 0 (by decide)]; exact hm) (by rw [k1]; exact hm2) (by omega) (fun r' h1 h2 => by
        rw [hst]
        show fJoin _ c (A 0 0 5) r 3 c r' = -1
        rw [fJoin_3, if_neg (by omega)]
        exact ho r' (by omega) h2) (by unfold rem; rw [e5, er]; omega)
      rw [this]
      unfold rem
      rw [e5, er]
      omega
theorem ac_np {m dx dy t : Int} (h : CI A) (hlt : A 0 0 6 < 20) (hm : (0 ≤ m ∧ m < A 0 0 6) ∧ A 2 m 0 = -1) (hx : -1000000 ≤ dx ∧ dx ≤ 1000000) (hy : -1000000 ≤ dy ∧ dy ≤ 1000000) (ht : 0 ≤ t ∧ t < 4) (hn : A 0 0 5 + A 2 m 5 ≤ 60) : acF A m dx dy t 0 0 5 = A 0 0 5 + A 2 m 5 ∧ acF A m dx dy t 2 m 5 = A 2 m 5 := by
  have n2 := h.1.2.1
  have hs : A 2 m 5 = rem A m 20 0 := (h.2.2.1 m hm.1.1 (by omega)).2.2.2.2
  have hmc : ¬ m = A 0 0 6 := by omega
  unfold acF
  rw [if_pos hlt]
  have hN := h.nch hlt (Or.inr hm) hx hy ht
  have hcc : newCh A m dx dy t 2 (A 0 0 6) 0 = m := by rw [newCh_20, if_pos rfl]
  have := ct_new (A := newCh A m dx dy t) 20 (m := m) (c := A 0 0 6) (r := 0) (q := 0) hN (show 0 ≤ A 0 0 6 ∧ A 0 0 6 < A 0 0 6 + 1 from by omega) hcc (show 0 ≤ m ∧ m < A 0 0 6 + 1 from by omega) hmc (by omega) (fun r' h1 h2 => h.empty (by omega) hlt ⟨h1, h2⟩) (show A 0 0 5 + rem A m 20 0 ≤ 60 from by omega)
  refine ⟨?_, ct_size 20 hmc⟩
  rw [this, hs]
  rfl
/-- what isn't visited yet isn't told -/
def TT (A : Sg) (c r : Int) : Prop := ∀ c' r', 0 ≤ c' → c' < 20 → 0 ≤ r' → r' < 20 → (c < c' ∨ (c' = c ∧ r ≤ r')) → ¬ A 3 c' r' = -1 → bt (A 0 0 8) (A 3 c' r') = false
theorem TT.step {c r : Int} (h : CI A) (hc : 0 ≤ c ∧ c < 20) (hr : 0 ≤ r ∧ r < 20) (hT : TT A c r) : TT (stepA A c r).1 c (r + 1) := by
  have n1 := h.1.1
  have hw : TT A c (r + 1) := fun c' r' a b d e f g => hT c' r' a b d e (by omega) g
  unfold stepA
  split
  · unfold cpS
    split
    · rename_i hown
      split
      · exact hw
      · dsimp only
        split
        · exact hw
        · intro c' r' a b d e f (g : ¬ A 3 c' r' = -1)
          show bt (lOr (A 0 0 8) (lShl 1 (A 3 c r))) (A 3 c' r') = false
          have k := (h.2.2.2.1 c' r' a b d e).1
          have k2 := (h.2.2.2.1 c r hc.1 hc.2 hr.1 hr.2).1
          rw [bt_or (by omega) (by omega), hw c' r' a b d e f g]
          have : ¬ A 3 c' r' = A 3 c r := fun q => by
            rcases k with k | k
            · omega
            · rcases k2 with k2 | k2
              · omega
              · rw [q] at k
                omega
          simp [this]
    · split
      · intro c' r' a b d e f g
        show bt (A 0 0 8) _ = false
        have e3 : (fJoin (fMv (fPart A (A 1 (A 3 (A 2 c 0) r) 0) (A 1 (A 3 (A 2 c 0) r) 1)) (A 0 0 5) (pX A c (A 3 (A 2 c 0) r)) (pY A c (A 3 (A 2 c 0) r)) (pT A c (A 3 (A 2 c 0) r))) c (A 0 0 5) r, (1 : Int)).1 3 c' r' = A 3 c' r' := by
          show fJoin _ c (A 0 0 5) r 3 c' r' = _
          rw [fJoin_3, if_neg (by omega)]
          rfl
        rw [e3] at g ⊢
        exact hw c' r' a b d e f g
      · exact hw
  · exact hw
theorem TT.next {c r : Int} (hT : TT A c r) : TT A (c + 1) 0 := fun c' r' a b d e f g => hT c' r' a b d e (by omega) g
theorem TT.ct (n : Nat) {c r q : Int} (h : CI A) (hc : 0 ≤ c ∧ c < A 0 0 6) (hr : 0 ≤ r ∧ r + n ≤ 20) (hT : TT A c r) : TT (ctF n A c r q).1 c (r + n) := by
  induction n generalizing A r q with
  | zero => rw [show r + ((0 : Nat) : Int) = r from by omega]; exact hT
  | succ n ih =>
    have n2 := h.1.2.1
    unfold ctF
    have := ih (A := (stepA A c r).1) (r := r + 1) (q := q + (stepA A c r).2) (h.step hc (by omega)) (by rw [step_keep.1]; exact hc) (by omega) (hT.step h (by omega) (by omega))
    rw [show r + 1 + (n : Int) = r + ((n + 1 : Nat) : Int) from by omega] at this
    exact this
theorem TT.zero (h : A 0 0 8 = 0) : TT A 0 0 := fun c' r' _ _ _ _ _ _ => by rw [h, bt_zero]
theorem RR.told0 (h : RR A S) {S1 : Sg} (h0 : ∀ t : Nat, t ≠ 36 → S1 t = S t) (h1 : ∀ p, 0 ≤ p → p < 60 → S1 36 0 p = 0) : RR (su A 0 0 8 0) S1 := by
  obtain ⟨g1, g2, g3, g4, g5, g6, g7⟩ := h
  have e : ∀ t : Nat, t ≠ 36 → S1 t = S t := h0
  refine ⟨?_, ?_, ?_, ?_, fun p p0 p1 => ?_, ?_, ?_⟩
  · unfold RRn; rw [e 20 (by decide)]; exact g1
  · unfold RRp; rw [e 22 (by decide), e 23 (by decide), e 24 (by decide), e 25 (by decide), e 26 (by decide), e 29 (by decide)]; exact g2
  · unfold RRq; rw [e 27 (by decide), e 28 (by decide)]; exact g3
  · unfold RRc; rw [e 31 (by decide), e 32 (by decide), e 33 (by decide), e 34 (by decide), e 35 (by decide)]; exact g4
  · rw [h1 p p0 p1]
    show 0 = b01 (bt 0 p)
    rw [bt_zero]
    rfl
  · unfold RRr; rw [e 38 (by decide), e 39 (by decide)]; exact g6
  · unfold RRl; rw [e 40 (by decide), e 41 (by decide), e 42 (by decide)]; exact g7
/-- a part that isn't told is set so once more -/
theorem RR.untold {p : Int} (h : RR A S) (hp : 0 ≤ p ∧ p < 60) (hb : bt (A 0 0 8) p = false) : RR A (su S 36 0 p 0) := by
  obtain ⟨h1, h2, h3, h4, h5, h6, h7⟩ := h
  refine ⟨h1, h2, h3, h4, fun q q0 q1 => ?_, h6, h7⟩
  rw [suA]
  by_cases e : q = p
  · subst e
    rw [if_pos rfl, hb]
    rfl
  · rw [if_neg e]
    exact h5 q q0 q1
end M3
