/-! THE MODEL: a mirrored copy, role by role -/
def miF (B : Sg) (c r : Int) : Sg := fun t i j => if (t = 1 ∧ (j = 2 ∨ j = 3 ∨ j = 4)) ∧ (0 ≤ i ∧ i < B 0 0 5) ∧ B 1 i 5 = c ∧ B 1 i 7 = 0 ∧ B 1 i 6 < r then (if j = 2 then pX B c (B 3 (B 2 c 0) (B 1 i 6)) else if j = 3 then pY B c (B 3 (B 2 c 0) (B 1 i 6)) else pT B c (B 3 (B 2 c 0) (B 1 i 6))) else B t i j
section MI
variable {B S : Sg} {c r : Int}
theorem miF_skip (h : ∀ i, (0 ≤ i ∧ i < B 0 0 5) → B 1 i 5 = c → B 1 i 7 = 0 → ¬ B 1 i 6 = r) : miF B c (r + 1) = miF B c r := by
  funext t i j
  unfold miF
  by_cases g : (t = 1 ∧ (j = 2 ∨ j = 3 ∨ j = 4)) ∧ (0 ≤ i ∧ i < B 0 0 5) ∧ B 1 i 5 = c ∧ B 1 i 7 = 0 ∧ B 1 i 6 < r + 1
  · have := h i g.2.1 g.2.2.1 g.2.2.2.1
    have g' : (t = 1 ∧ (j = 2 ∨ j = 3 ∨ j = 4)) ∧ (0 ≤ i ∧ i < B 0 0 5) ∧ B 1 i 5 = c ∧ B 1 i 7 = 0 ∧ B 1 i 6 < r := ⟨g.1, g.2.1, g.2.2.1, g.2.2.2.1, by omega⟩
    rw [if_pos g, if_pos g']
  · rw [if_neg g, if_neg (fun k => g ⟨k.1, k.2.1, k.2.2.1, k.2.2.2.1, by omega⟩)]
theorem miF_mv {p : Int} (hp : 0 ≤ p ∧ p < B 0 0 5) (h1 : B 1 p 5 = c) (h2 : B 1 p 7 = 0) (h3 : B 1 p 6 = r) (hu : ∀ i, (0 ≤ i ∧ i < B 0 0 5) → B 1 i 5 = c → B 1 i 6 = r → i = p) : fMv (miF B c r) p (pX B c (B 3 (B 2 c 0) r)) (pY B c (B 3 (B 2 c 0) r)) (pT B c (B 3 (B 2 c 0) r)) = miF B c (r + 1) := by
  funext t i j
  by_cases ht : t = 1
  · subst ht
    by_cases hi : i = p
    · subst hi
      by_cases j2 : j = 2
      · subst j2
        rw [fMv_2, if_pos rfl]
        unfold miF
        rw [if_pos ⟨⟨rfl, Or.inl rfl⟩, hp, h1, h2, by omega⟩, h3]
        rfl
      · by_cases j3 : j = 3
        · subst j3
          rw [fMv_3, if_pos rfl]
          unfold miF
          rw [if_pos ⟨⟨rfl, Or.inr (Or.inl rfl)⟩, hp, h1, h2, by omega⟩, h3]
          rfl
        · by_cases j4 : j = 4
          · subst j4
            rw [fMv_4, if_pos rfl]
            unfold miF
            rw [if_pos ⟨⟨rfl, Or.inr (Or.inr rfl)⟩, hp, h1, h2, by omega⟩, h3]
            rfl
          · unfold fMv
            rw [su_j _ j4, su_j _ j3, su_j _ j2]
            unfold miF
            rw [if_neg (fun k => by have := k.1.2; omega), if_neg (fun k => by have := k.1.2; omega)]
    · unfold fMv
      rw [su_i _ hi, su_i _ hi, su_i _ hi]
      unfold miF
      by_cases g : ((1 : Nat) = 1 ∧ (j = 2 ∨ j = 3 ∨ j = 4)) ∧ (0 ≤ i ∧ i < B 0 0 5) ∧ B 1 i 5 = c ∧ B 1 i 7 = 0 ∧ B 1 i 6 < r + 1
      · have : ¬ B 1 i 6 = r := fun k => hi (hu i g.2.1 g.2.2.1 k)
        rw [if_pos g, if_pos ⟨g.1, g.2.1, g.2.2.1, g.2.2.2.1, by omega⟩]
      · rw [if_neg g, if_neg (fun k => g ⟨k.1, k.2.1, k.2.2.1, k.2.2.2.1, by omega⟩)]
  · unfold fMv
    rw [su_t _ ht, su_t _ ht, su_t _ ht]
    unfold miF
    rw [if_neg (fun k => ht k.1.1), if_neg (fun k => ht k.1.1)]
theorem miF_off {i j : Int} (h : ¬ B 1 i 5 = c) : miF B c r 1 i j = B 1 i j := by
  unfold miF
  rw [if_neg (fun k => h k.2.2.1)]
theorem miF_pose {o : Int} (h : ¬ B 1 o 5 = c) : pX (miF B c r) c o = pX B c o ∧ pY (miF B c r) c o = pY B c o ∧ pT (miF B c r) c o = pT B c o := by
  have e2 : ∀ i j, miF B c r 2 i j = B 2 i j := fun i j => by
    unfold miF
    rw [if_neg (fun k => by have := k.1.1; omega)]
  unfold pX pY pT tn0 box0 pW pH
  simp only [miF_off h, e2, and_self]
theorem CI.flip (h : CI B) (hz : B 2 c 4 = 0 ∨ B 2 c 4 = 1) (hc : c < B 0 0 6) {v : Int} : CI (su B 2 c 4 v) := by
  obtain ⟨h1, h2, h3, h4, h5, h6⟩ := h
  refine ⟨h1, h2, fun c' c0 c1 => ?_, h4, h5, h6⟩
  obtain ⟨g1, g2, g3, g4⟩ := h3 c' c0 c1
  refine ⟨g1, g2, fun (k : B 0 0 6 ≤ c') => ?_, g4⟩
  have := g3 k
  rw [su_eq, if_neg (by omega)]
  exact this
theorem miF_z (h : ∀ i, 0 ≤ i → i < 60 → B 1 i 6 = -1 ∨ 0 ≤ B 1 i 6 ∨ ¬ B 1 i 5 = c) (hn : B 0 0 5 ≤ 60) (hk : ∀ i, 0 ≤ i → i < 60 → B 1 i 5 = c → 0 ≤ B 1 i 6) : miF B c 0 = B := by
  funext t i j
  unfold miF
  rw [if_neg (fun k => by have := hk i k.2.1.1 (by omega) k.2.2.1; omega)]
end MI
