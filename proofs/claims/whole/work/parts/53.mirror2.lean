/-! THE MODEL: a mirrored copy, part by part -/
def miG (B : Sg) (c p : Int) : Sg := fun t i j => if (t = 1 ∧ (j = 2 ∨ j = 3 ∨ j = 4)) ∧ (0 ≤ i ∧ i < B 0 0 5) ∧ B 1 i 5 = c ∧ B 1 i 7 = 0 ∧ i < p then (if j = 2 then pX B c (B 3 (B 2 c 0) (B 1 i 6)) else if j = 3 then pY B c (B 3 (B 2 c 0) (B 1 i 6)) else pT B c (B 3 (B 2 c 0) (B 1 i 6))) else B t i j
section MG
variable {A B S : Sg} {c p : Int}
theorem miG_end (h : CI B) (hc : 0 ≤ c) : miG B c (B 0 0 5) = miF B c 20 := by
  have n1 := h.1.1
  funext t i j
  unfold miG miF
  by_cases g : (t = 1 ∧ (j = 2 ∨ j = 3 ∨ j = 4)) ∧ (0 ≤ i ∧ i < B 0 0 5) ∧ B 1 i 5 = c ∧ B 1 i 7 = 0
  · have hr : B 1 i 6 < 20 := by
      rcases (h.2.1 i g.2.1.1 (by omega)).2.1 with q | q
      · omega
      · exact q.2.1.2
    have g1 : (t = 1 ∧ (j = 2 ∨ j = 3 ∨ j = 4)) ∧ (0 ≤ i ∧ i < B 0 0 5) ∧ B 1 i 5 = c ∧ B 1 i 7 = 0 ∧ i < B 0 0 5 := ⟨g.1, g.2.1, g.2.2.1, g.2.2.2, g.2.1.2⟩
    have g2 : (t = 1 ∧ (j = 2 ∨ j = 3 ∨ j = 4)) ∧ (0 ≤ i ∧ i < B 0 0 5) ∧ B 1 i 5 = c ∧ B 1 i 7 = 0 ∧ B 1 i 6 < 20 := ⟨g.1, g.2.1, g.2.2.1, g.2.2.2, hr⟩
    rw [if_pos g1, if_pos g2]
  · rw [if_neg (fun k => g ⟨k.1, k.2.1, k.2.2.1, k.2.2.2.1⟩), if_neg (fun k => g ⟨k.1, k.2.1, k.2.2.1, k.2.2.2.1⟩)]
theorem miG_z : miG B c 0 = B := by
  funext t i j
  unfold miG
  rw [if_neg (fun k => by have := k.2.1.1; have := k.2.2.2.2; omega)]
theorem miG_skip (h : ¬ (B 1 p 5 = c ∧ B 1 p 7 = 0)) : miG B c (p + 1) = miG B c p := by
  funext t i j
  unfold miG
  by_cases g : (t = 1 ∧ (j = 2 ∨ j = 3 ∨ j = 4)) ∧ (0 ≤ i ∧ i < B 0 0 5) ∧ B 1 i 5 = c ∧ B 1 i 7 = 0 ∧ i < p + 1
  · have hi : ¬ i = p := fun e => h (by rw [← e]; exact ⟨g.2.2.1, g.2.2.2.1⟩)
    have g' : (t = 1 ∧ (j = 2 ∨ j = 3 ∨ j = 4)) ∧ (0 ≤ i ∧ i < B 0 0 5) ∧ B 1 i 5 = c ∧ B 1 i 7 = 0 ∧ i < p := ⟨g.1, g.2.1, g.2.2.1, g.2.2.2.1, by omega⟩
    rw [if_pos g, if_pos g']
  · rw [if_neg g, if_neg (fun k => g ⟨k.1, k.2.1, k.2.2.1, k.2.2.2.1, by omega⟩)]
theorem miG_mv (hp : 0 ≤ p ∧ p < B 0 0 5) (h1 : B 1 p 5 = c) (h2 : B 1 p 7 = 0) : fMv (miG B c p) p (pX B c (B 3 (B 2 c 0) (B 1 p 6))) (pY B c (B 3 (B 2 c 0) (B 1 p 6))) (pT B c (B 3 (B 2 c 0) (B 1 p 6))) = miG B c (p + 1) := by
  funext t i j
  by_cases ht : t = 1
  · subst ht
    by_cases hi : i = p
    · subst hi
      by_cases j2 : j = 2
      · subst j2
        rw [fMv_2, if_pos rfl]
        unfold miG
        rw [if_pos ⟨⟨rfl, Or.inl rfl⟩, hp, h1, h2, by omega⟩]
        rfl
      · by_cases j3 : j = 3
        · subst j3
          rw [fMv_3, if_pos rfl]
          unfold miG
          rw [if_pos ⟨⟨rfl, Or.inr (Or.inl rfl)⟩, hp, h1, h2, by omega⟩]
          rfl
        · by_cases j4 : j = 4
          · subst j4
            rw [fMv_4, if_pos rfl]
            unfold miG
            rw [if_pos ⟨⟨rfl, Or.inr (Or.inr rfl)⟩, hp, h1, h2, by omega⟩]
            rfl
          · unfold fMv
            rw [su_j _ j4, su_j _ j3, su_j _ j2]
            unfold miG
            rw [if_neg (fun k => by have := k.1.2; omega), if_neg (fun k => by have := k.1.2; omega)]
    · unfold fMv
      rw [su_i _ hi, su_i _ hi, su_i _ hi]
      unfold miG
      by_cases g : ((1 : Nat) = 1 ∧ (j = 2 ∨ j = 3 ∨ j = 4)) ∧ (0 ≤ i ∧ i < B 0 0 5) ∧ B 1 i 5 = c ∧ B 1 i 7 = 0 ∧ i < p + 1
      · have g' : ((1 : Nat) = 1 ∧ (j = 2 ∨ j = 3 ∨ j = 4)) ∧ (0 ≤ i ∧ i < B 0 0 5) ∧ B 1 i 5 = c ∧ B 1 i 7 = 0 ∧ i < p := ⟨g.1, g.2.1, g.2.2.1, g.2.2.2.1, by omega⟩
        rw [if_pos g, if_pos g']
      · rw [if_neg g, if_neg (fun k => g ⟨k.1, k.2.1, k.2.2.1, k.2.2.2.1, by omega⟩)]
  · unfold fMv
    rw [su_t _ ht, su_t _ ht, su_t _ ht]
    unfold miG
    rw [if_neg (fun k => ht k.1.1), if_neg (fun k => ht k.1.1)]
theorem miG_off {i j : Int} (h : ¬ B 1 i 5 = c) : miG B c p 1 i j = B 1 i j := by
  unfold miG
  rw [if_neg (fun k => h k.2.2.1)]
theorem miG_pose {o : Int} (h : ¬ B 1 o 5 = c) : pX (miG B c p) c o = pX B c o ∧ pY (miG B c p) c o = pY B c o ∧ pT (miG B c p) c o = pT B c o := by
  have e2 : ∀ i j, miG B c p 2 i j = B 2 i j := fun i j => by
    unfold miG
    rw [if_neg (fun k => by have := k.1.1; omega)]
  unfold pX pY pT tn0 box0 pW pH
  simp only [miG_off h, e2, and_self]
/-- what the reference needs of a copy's part -/
theorem mi_orig (hB : CI B) (hc : 0 ≤ c ∧ c < B 0 0 6) (hcp : ¬ B 2 c 0 = -1) (hp : 0 ≤ p ∧ p < B 0 0 5) (h5 : B 1 p 5 = c) : (0 ≤ B 2 c 0 ∧ B 2 c 0 < B 0 0 6) ∧ (0 ≤ B 1 p 6 ∧ B 1 p 6 < 20) ∧ (0 ≤ B 3 (B 2 c 0) (B 1 p 6) ∧ B 3 (B 2 c 0) (B 1 p 6) < B 0 0 5) ∧ okXY B (B 3 (B 2 c 0) (B 1 p 6)) ∧ near B (B 3 (B 2 c 0) (B 1 p 6)) ∧ ¬ B 1 (B 3 (B 2 c 0) (B 1 p 6)) 5 = c := by
  have n1 := hB.1.1
  have n2 := hB.1.2.1
  have hk := (hB.2.1 p hp.1 (by omega)).2.1
  have hr : (0 ≤ B 1 p 6 ∧ B 1 p 6 < 20) ∧ B 3 c (B 1 p 6) = p := by
    rcases hk with k | k
    · omega
    · rw [h5] at k; exact k.2
  have hm : (0 ≤ B 2 c 0 ∧ B 2 c 0 < B 0 0 6) ∧ B 2 (B 2 c 0) 0 = -1 := by
    rcases (hB.2.2.1 c hc.1 (by omega)).2.1 with k | k
    · omega
    · exact k
  have ho := (hB.2.2.2.1 c (B 1 p 6) hc.1 (by omega) hr.1.1 hr.1.2).2 hcp (by omega)
  have ho2 : 0 ≤ B 3 (B 2 c 0) (B 1 p 6) ∧ B 3 (B 2 c 0) (B 1 p 6) < B 0 0 5 := by
    rcases (hB.2.2.2.1 (B 2 c 0) (B 1 p 6) hm.1.1 (by omega) hr.1.1 hr.1.2).1 with k | k
    · omega
    · exact k.1
  have ho5 : B 1 (B 3 (B 2 c 0) (B 1 p 6)) 5 = B 2 c 0 := by
    rcases (hB.2.2.2.1 (B 2 c 0) (B 1 p 6) hm.1.1 (by omega) hr.1.1 hr.1.2).1 with k | k
    · omega
    · exact k.2.1
  obtain ⟨q1, q2⟩ := hB.orig (c := c) (r := B 1 p 6) (by omega) hr.1 ⟨hm.1, ho2⟩
  refine ⟨hm.1, hr.1, ho2, q1, q2, fun k => ?_⟩
  rw [ho5] at k
  rw [k] at hm
  omega
theorem RR.flip {v : Int} (h : RR A S) : RR (su A 2 c 4 v) (su S 35 0 c v) := by
  obtain ⟨h1, h2, h3, h4, h5, h6, h7⟩ := h
  refine ⟨h1, h2, h3, fun c' c0 c1 => ?_, h5, h6, h7⟩
  obtain ⟨k1, k2, k3, k4, k5⟩ := h4 c' c0 c1
  refine ⟨k1, k2, k3, k4, ?_⟩
  rw [suA, su_eq, k5]
end MG
theorem ct_add (n : Nat) {A : Sg} {c r q : Int} : (ctF n A c r q).2 = q + (ctF n A c r 0).2 := by
  induction n generalizing A r q with
  | zero => show q = q + 0; omega
  | succ n ih =>
    unfold ctF
    rw [ih, ih (q := 0 + (stepA A c r).2)]
    omega
