/-! THE MODEL: copies, arrays, carrying on, mirrors -/
def newCh (A : Sg) (m dx dy t : Int) : Sg := su (su (su (su (su A 0 0 6 (A 0 0 6 + 1)) 2 (A 0 0 6) 0 m) 2 (A 0 0 6) 1 dx) 2 (A 0 0 6) 2 dy) 2 (A 0 0 6) 3 t
def acF (A : Sg) (m dx dy t : Int) : Sg := if A 0 0 6 < 20 then (ctF 20 (newCh A m dx dy t) (A 0 0 6) 0 0).1 else A
def crF : Nat → Sg → Int → Int → Int → Sg × Int
  | 0, A, _, _, q => (A, q)
  | n + 1, A, m, c, q => if A 2 c 0 = m then crF n (ctF 20 A c 0 0).1 m (c + 1) (q + (ctF 20 A c 0 0).2) else crF n A m (c + 1) q
def arF : Nat → Sg → Int → Int → Int → Int → Int → Sg
  | 0, A, _, _, _, _, _ => A
  | n + 1, A, m, w, dx, dy, k => arF n (if k = 0 then A else acF A m (k % w * dx) (k / w * dy) 0) m w dx dy (k + 1)
section M2
variable {A S : Sg}
theorem newCh_20 {m dx dy t c : Int} : newCh A m dx dy t 2 c 0 = if c = A 0 0 6 then m else A 2 c 0 := su_eq
theorem newCh_21 {m dx dy t c : Int} : newCh A m dx dy t 2 c 1 = if c = A 0 0 6 then dx else A 2 c 1 := su_eq
theorem newCh_22 {m dx dy t c : Int} : newCh A m dx dy t 2 c 2 = if c = A 0 0 6 then dy else A 2 c 2 := su_eq
theorem newCh_23 {m dx dy t c : Int} : newCh A m dx dy t 2 c 3 = if c = A 0 0 6 then t else A 2 c 3 := su_eq
theorem CI.empty (h : CI A) {c r : Int} (hc : A 0 0 6 ≤ c) (hc2 : c < 20) (hr : 0 ≤ r ∧ r < 20) : A 3 c r = -1 := by
  obtain ⟨h1, h2, h3, h4, h5, h6⟩ := h
  have n1 := h1.1
  have n2 := h1.2.1
  rcases (h4 c r (by omega) hc2 hr.1 hr.2).1 with g | ⟨g1, g2, g3⟩
  · exact g
  · rcases (h2 _ g1.1 (by omega)).2.1 with k | k
    · omega
    · rw [g2] at k; omega
theorem CI.nch (h : CI A) {m dx dy t : Int} (hlt : A 0 0 6 < 20) (hm : m = -1 ∨ ((0 ≤ m ∧ m < A 0 0 6) ∧ A 2 m 0 = -1)) (hx : -1000000 ≤ dx ∧ dx ≤ 1000000) (hy : -1000000 ≤ dy ∧ dy ≤ 1000000) (ht : 0 ≤ t ∧ t < 4) : CI (newCh A m dx dy t) := by
  have h0 := h
  obtain ⟨h1, h2, h3, h4, h5, h6⟩ := h
  have n1 := h1.1
  have n2 := h1.2.1
  refine ⟨⟨h1.1, (show 0 ≤ A 0 0 6 + 1 ∧ A 0 0 6 + 1 ≤ 20 from by omega), h1.2.2⟩, fun i i0 i1 => ?_, fun c c0 c1 => ?_, fun c r c0 c1 r0 r1 => ?_, h5, h6⟩
  · obtain ⟨g1, g2, g3, g4⟩ := h2 i i0 i1
    refine ⟨g1, ?_, g3, fun k => ?_⟩
    · rcases g2 with g2 | ⟨g2, g5⟩
      · exact Or.inl g2
      · exact Or.inr ⟨(show 0 ≤ A 1 i 5 ∧ A 1 i 5 < A 0 0 6 + 1 from by omega), g5⟩
    · replace k : A 1 i 5 = -1 ∨ newCh A m dx dy t 2 (A 1 i 5) 0 = -1 := k
      rw [newCh_20] at k
      refine g4 ?_
      rcases g2 with g2 | ⟨g2, g5⟩
      · exact Or.inl g2
      · rw [if_neg (by omega)] at k
        exact k
  · obtain ⟨g1, g2, g3, g4⟩ := h3 c c0 c1
    refine ⟨?_, ?_, ?_, g4⟩
    · unfold okCh at g1 ⊢
      rw [newCh_21, newCh_22, newCh_23]
      refine ⟨?_, ?_, ?_⟩ <;> split <;> first | assumption | omega
    · rw [newCh_20]
      show (if c = A 0 0 6 then m else A 2 c 0) = -1 ∨ ((0 ≤ (if c = A 0 0 6 then m else A 2 c 0) ∧ (if c = A 0 0 6 then m else A 2 c 0) < A 0 0 6 + 1) ∧ newCh A m dx dy t 2 (if c = A 0 0 6 then m else A 2 c 0) 0 = -1)
      by_cases e : c = A 0 0 6
      · rw [if_pos e]
        rcases hm with hm | hm
        · exact Or.inl hm
        · refine Or.inr ⟨by omega, ?_⟩
          rw [newCh_20, if_neg (by omega)]
          exact hm.2
      · rw [if_neg e]
        rcases g2 with g2 | g2
        · exact Or.inl g2
        · refine Or.inr ⟨by omega, ?_⟩
          rw [newCh_20, if_neg (by omega)]
          exact g2.2
    · intro (k : A 0 0 6 + 1 ≤ c)
      rw [newCh_20, newCh_21, newCh_22, newCh_23, if_neg (by omega), if_neg (by omega), if_neg (by omega), if_neg (by omega)]
      exact g3 (by omega)
  · obtain ⟨g1, g2⟩ := h4 c r c0 c1 r0 r1
    refine ⟨g1, fun k1 (k2 : ¬ A 3 c r = -1) => ?_⟩
    rw [newCh_20] at k1 ⊢
    show ¬ A 3 (if c = A 0 0 6 then m else A 2 c 0) r = -1
    by_cases e : c = A 0 0 6
    · exact absurd (h0.empty (by omega) c1 ⟨r0, r1⟩) k2
    · rw [if_neg e] at k1 ⊢
      exact g2 k1 k2
theorem CI.chan (h : CI A) (hlt : A 0 0 6 < 20) : CI (su A 0 0 6 (A 0 0 6 + 1)) := by
  obtain ⟨h1, h2, h3, h4, h5, h6⟩ := h
  have n1 := h1.1
  have n2 := h1.2.1
  refine ⟨⟨h1.1, (show 0 ≤ A 0 0 6 + 1 ∧ A 0 0 6 + 1 ≤ 20 from by omega), h1.2.2⟩, fun i i0 i1 => ?_, fun c c0 c1 => ?_, h4, h5, h6⟩
  · obtain ⟨g1, g2, g3, g4⟩ := h2 i i0 i1
    refine ⟨g1, ?_, g3, g4⟩
    rcases g2 with g2 | ⟨g2, g5⟩
    · exact Or.inl g2
    · exact Or.inr ⟨(show 0 ≤ A 1 i 5 ∧ A 1 i 5 < A 0 0 6 + 1 from by omega), g5⟩
  · obtain ⟨g1, g2, g3, g4⟩ := h3 c c0 c1
    refine ⟨g1, ?_, fun (k : A 0 0 6 + 1 ≤ c) => g3 (by omega), g4⟩
    rcases g2 with g2 | g2
    · exact Or.inl g2
    · exact Or.inr ⟨(show 0 ≤ A 2 c 0 ∧ A 2 c 0 < A 0 0 6 + 1 from by omega), g2.2⟩
theorem newCh_lk {m dx dy t : Int} (g : Lk A S) : Lk (newCh A m dx dy t) (newCh S m dx dy t) := by
  unfold newCh
  rw [g 0 (by decide)]
  exact su_lk (su_lk (su_lk (su_lk (su_lk g))))
theorem acF_keep {m dx dy t : Int} (hlt : A 0 0 6 < 20) : (acF A m dx dy t) 0 0 6 = A 0 0 6 + 1 ∧ (acF A m dx dy t) 0 0 7 = A 0 0 7 ∧ (acF A m dx dy t) 4 = A 4 ∧ (∀ i, i < A 0 0 6 → (acF A m dx dy t) 2 i 0 = A 2 i 0) ∧ (∀ i q, ¬ i = A 0 0 6 → (acF A m dx dy t) 3 i q = A 3 i q) := by
  unfold acF
  rw [if_pos hlt]
  obtain ⟨a1, a2, a3, a4, a5⟩ := ct_keep (A := newCh A m dx dy t) 20 (c := A 0 0 6) (r := 0) (q := 0)
  refine ⟨a1, a2, a3, fun i hi => ?_, a5⟩
  rw [a4 i 0 (by decide), newCh_20, if_neg (by omega)]
theorem CI.ac (h : CI A) {m dx dy t : Int} (hm : (0 ≤ m ∧ m < A 0 0 6) ∧ A 2 m 0 = -1) (hx : -1000000 ≤ dx ∧ dx ≤ 1000000) (hy : -1000000 ≤ dy ∧ dy ≤ 1000000) (ht : 0 ≤ t ∧ t < 4) : CI (acF A m dx dy t) := by
  have n2 := h.1.2.1
  unfold acF
  split
  · rename_i hlt
    exact (h.nch hlt (Or.inr hm) hx hy ht).ct 20 (show 0 ≤ A 0 0 6 ∧ A 0 0 6 < A 0 0 6 + 1 from by omega) (by omega)
  · exact h
theorem CI.cr (n : Nat) (h : CI A) {m c q : Int} (hc : 0 ≤ c ∧ c + n ≤ A 0 0 6) : CI (crF n A m c q).1 := by
  induction n generalizing A c q with
  | zero => exact h
  | succ n ih =>
    unfold crF
    split
    · refine ih (h.ct 20 (by omega) (by omega)) ?_
      rw [(ct_keep 20).1]
      omega
    · exact ih h (by omega)
theorem CI.told0 (h : CI A) : CI (su A 0 0 8 0) := by
  obtain ⟨h1, h2, h3, h4, h5, h6⟩ := h
  refine ⟨h1, h2, h3, h4, fun q q0 q1 hb => ?_, h6⟩
  replace hb : bt 0 q = true := hb
  rw [bt_zero] at hb
  cases hb
theorem cr_b (n : Nat) {m c q : Int} : q ≤ (crF n A m c q).2 ∧ (crF n A m c q).2 ≤ q + 20 * n := by
  induction n generalizing A c q with
  | zero => exact ⟨Int.le_refl _, by show q ≤ q + 20 * ((0 : Nat) : Int); omega⟩
  | succ n ih =>
    unfold crF
    split
    · have := ih (A := (ctF 20 A c 0 0).1) (c := c + 1) (q := q + (ctF 20 A c 0 0).2)
      have := ct_b (A := A) 20 (c := c) (r := 0) (q := 0)
      omega
    · have := ih (A := A) (c := c + 1) (q := q)
      omega
/-- a mirrored copy: its parts that weren't moved by hand come to their new poses -/
def flip (A : Sg) (c : Int) : Sg := su A 2 c 4 (1 - A 2 c 4)
def miP (A : Sg) (c p : Int) : Prop := A 1 p 5 = c ∧ A 1 p 7 = 0
end M2
